theorem hdX7_in : yX7_in.cls ≠ "java/lang/invoke/MethodHandle" ∧ yX7_in.cls ≠ "java/lang/invoke/VarHandle" ∧ (parseMethodDescriptor yX7_in.desc).map (fun d => d.parameters.length) = some 3 := by decide +kernel
set_option maxRecDepth 100000 in
set_option maxHeartbeats 4000000 in
theorem c0_X7_in (l : Launch) (G : ZG)   (v : Int) (low : Int) (high : Int) (P : Int → Prop)  (r_v : rg v) (r_low : rg low) (r_high : rg high) (hwp : wp_X7_in v low high P) : ZI l G yX7_in wsX7_in 0 0 [.int (iI v), .int (iI low), .int (iI high)] (([] : va_W)) (fun u : Unit => ([] : va_W)) (fun (z : Int) (u : Unit) => rg z ∧ P z) := by
  unfold wp_X7_in at hwp
  refine zm_i (cc := cX7_in) (maxL := 3) (ret := some .boolean) (own := RX7) (lvs := [(0, .int (iI v)), (1, .int (iI low)), (2, .int (iI high))]) (by decide) rfl rfl (Nat.le_of_ble_eq_true rfl) rfl ?_
  intro p e sT m args below meth c ls A hx hb hr hml hown hts hlocks hK hP hD hS hA hl
  refine lv_iload_n hx hb dX7_in_0 rfl (lv_at hl 0 rfl) ?_
  refine lv_iload_n hx hb dX7_in_1 rfl (lv_at hl 1 rfl) ?_
  refine zr_icmp_lt (tgt := 14) (x := v) (y := low) hx hb r_v r_low dX7_in_2 (by decide) (fun c1 => ?_) (fun c1 => ?_)
  · have h4 := hwp.1 c1
    refine lv_iconst (v := iI 0) hx hb dX7_in_14 rfl ?_
    exact zr_zret (z := 0) hx hb hr hlocks hK (Or.inl rfl) () hP hD hS dX7_in_15 ⟨rg_0, h4⟩
  · have h5 := hwp.2 c1
    refine lv_iload_n hx hb dX7_in_5 rfl (lv_at hl 0 rfl) ?_
    refine lv_iload_n hx hb dX7_in_6 rfl (lv_at hl 2 rfl) ?_
    refine zr_icmp_gt (tgt := 14) (x := v) (y := high) hx hb r_v r_high dX7_in_7 (by decide) (fun c6 => ?_) (fun c6 => ?_)
    · have h9 := h5.1 c6
      refine lv_iconst (v := iI 0) hx hb dX7_in_14 rfl ?_
      exact zr_zret (z := 0) hx hb hr hlocks hK (Or.inl rfl) () hP hD hS dX7_in_15 ⟨rg_0, h9⟩
    · have h10 := h5.2 c6
      refine lv_iconst (v := iI 1) hx hb dX7_in_10 rfl ?_
      refine lv_goto (tgt := 15) hx hb dX7_in_11 (by decide) ?_
      exact zr_zret (z := 1) hx hb hr hlocks hK (Or.inr rfl) () hP hD hS dX7_in_15 ⟨rg_1, h10⟩
theorem c_X7_in (l : Launch) (G : ZG)   (v : Int) (low : Int) (high : Int)   (r_v : rg v) (r_low : rg low) (r_high : rg high)  : ZI l G yX7_in wsX7_in 0 0 [.int (iI v), .int (iI low), .int (iI high)] (([] : va_W)) (fun _ : Unit => ([] : va_W)) (fun (z : Int) (_ : Unit) => z = (pz (low ≤ v ∧ v ≤ high)) ∧ rg z) := by
  refine ZI.fn (w1 := fun u : Unit => ([] : va_W)) (fun z u hq => ?_) (c0_X7_in l G  v low high (fun z => z = (pz (low ≤ v ∧ v ≤ high)))  r_v r_low r_high (sp_X7_in v low high  r_v r_low r_high ))
  obtain ⟨rz, ez⟩ := hq
  exact ⟨rfl, ⟨ez, rz⟩⟩
theorem hdX7_waysOf : yX7_waysOf.cls ≠ "java/lang/invoke/MethodHandle" ∧ yX7_waysOf.cls ≠ "java/lang/invoke/VarHandle" ∧ (parseMethodDescriptor yX7_waysOf.desc).map (fun d => d.parameters.length) = some 1 := by decide +kernel
set_option maxRecDepth 100000 in
set_option maxHeartbeats 4000000 in
theorem c0_X7_waysOf (l : Launch) (G : ZG)   (size : Int) (P : Int → Prop)  (r_size : rg size) (hwp : wp_X7_waysOf size P) : ZI l G yX7_waysOf wsX7_waysOf 0 0 [.int (iI size)] (([] : va_W)) (fun u : Unit => ([] : va_W)) (fun (z : Int) (u : Unit) => rg z ∧ P z) := by
  unfold wp_X7_waysOf at hwp
  refine zm_i (cc := cX7_waysOf) (maxL := 1) (ret := some .int) (own := RX7) (lvs := [(0, .int (iI size))]) (by decide) rfl rfl (Nat.le_of_ble_eq_true rfl) rfl ?_
  intro p e sT m args below meth c ls A hx hb hr hml hown hts hlocks hK hP hD hS hA hl
  refine lv_iload_n hx hb dX7_waysOf_0 rfl (lv_at hl 0 rfl) ?_
  refine lv_iconst (v := iI 1) hx hb dX7_waysOf_1 rfl ?_
  refine zr_isub (x := size) (y := 1) hx hb dX7_waysOf_2 ?_
  obtain ⟨r1, h2⟩ := hwp
  refine lv_bipush (v := iI 8) hx hb dX7_waysOf_3 (by decide) ?_
  refine zr_icmp_ge (tgt := 14) (x := size - 1) (y := 8) hx hb r1 rg_8 dX7_waysOf_5 (by decide) (fun c3 => ?_) (fun c3 => ?_)
  · have h6 := h2.2 c3
    refine lv_bipush (v := iI 8) hx hb dX7_waysOf_14 (by decide) ?_
    exact zr_iret (z := 8) hx hb hr hlocks hK () hP hD hS dX7_waysOf_16 ⟨rg_8, h6⟩
  · have h7 := h2.1 c3
    refine lv_iload_n hx hb dX7_waysOf_8 rfl (lv_at hl 0 rfl) ?_
    refine lv_iconst (v := iI 1) hx hb dX7_waysOf_9 rfl ?_
    refine zr_isub (x := size) (y := 1) hx hb dX7_waysOf_10 ?_
    refine lv_goto (tgt := 16) hx hb dX7_waysOf_11 (by decide) ?_
    exact zr_iret (z := size - 1) hx hb hr hlocks hK () hP hD hS dX7_waysOf_16 ⟨r1, h7⟩
theorem c_X7_waysOf (l : Launch) (G : ZG)   (size : Int)   (r_size : rg size) (p0 : 0 ≤ size ∧ size ≤ 1000) : ZI l G yX7_waysOf wsX7_waysOf 0 0 [.int (iI size)] (([] : va_W)) (fun _ : Unit => ([] : va_W)) (fun (z : Int) (_ : Unit) => z = (waysZ size) ∧ rg z) := by
  refine ZI.fn (w1 := fun u : Unit => ([] : va_W)) (fun z u hq => ?_) (c0_X7_waysOf l G  size (fun z => z = (waysZ size))  r_size (sp_X7_waysOf size  r_size p0))
  obtain ⟨rz, ez⟩ := hq
  exact ⟨rfl, ⟨ez, rz⟩⟩
theorem hdX7_isSize : yX7_isSize.cls ≠ "java/lang/invoke/MethodHandle" ∧ yX7_isSize.cls ≠ "java/lang/invoke/VarHandle" ∧ (parseMethodDescriptor yX7_isSize.desc).map (fun d => d.parameters.length) = some 1 := by decide +kernel
set_option maxRecDepth 100000 in
set_option maxHeartbeats 4000000 in
theorem c0_X7_isSize (l : Launch) (G : ZG)   (size : Int) (P : Int → Prop)  (r_size : rg size) (hwp : wp_X7_isSize size P) : ZI l G yX7_isSize wsX7_isSize 1 22 [.int (iI size)] (([] : va_W)) (fun u : Unit => ([] : va_W)) (fun (z : Int) (u : Unit) => rg z ∧ P z) := by
  unfold wp_X7_isSize at hwp
  refine zm_i (cc := cX7_isSize) (maxL := 1) (ret := some .boolean) (own := RX7) (lvs := [(0, .int (iI size))]) (by decide) rfl rfl (Nat.le_of_ble_eq_true rfl) rfl ?_
  intro p e sT m args below meth c ls A hx hb hr hml hown hts hlocks hK hP hD hS hA hl
  refine lv_iload_n hx hb dX7_isSize_0 rfl (lv_at hl 0 rfl) ?_
  refine lv_iconst (v := iI 2) hx hb dX7_isSize_1 rfl ?_
  refine lv_bipush (v := iI 20) hx hb dX7_isSize_2 (by decide) ?_
  refine zc_si (As := [.int (iI size), .int (iI 2), .int (iI 20)]) (rest := []) (c_X7_in l G size 2 20 r_size rg_2 rg_20) ⟨hx, hb, hml, hown, hts⟩ (va_cwS 3 hts gX7_isSize_X7_in rfl rfl rfl hdX7_in ⟨Nat.le_of_ble_eq_true rfl, Nat.le_of_ble_eq_true rfl⟩) hK hP hD hS hA rfl hl.1 rfl (Nat.le_of_ble_eq_true rfl) dX7_isSize_4 ⟨Nat.zero_le _, Nat.zero_le _⟩ (fun z2 H locs hw hP hD hS => ?_)
  obtain ⟨rfl, r3⟩ := hw
  have hP : va_P G.1 vwCl (([] : va_W)) H := hP
  have hD : va_D A (([] : va_W)) := hD
  exact zr_zret (z := pz ((2 : Int) ≤ size ∧ size ≤ (20 : Int))) hx hb hr hlocks hK (pz_01 _) () hP hD hS dX7_isSize_7 ⟨r3, hwp⟩
theorem c_X7_isSize (l : Launch) (G : ZG)   (size : Int)   (r_size : rg size)  : ZI l G yX7_isSize wsX7_isSize 1 22 [.int (iI size)] (([] : va_W)) (fun _ : Unit => ([] : va_W)) (fun (z : Int) (_ : Unit) => z = (pz (2 ≤ size ∧ size ≤ 20)) ∧ rg z) := by
  refine ZI.fn (w1 := fun u : Unit => ([] : va_W)) (fun z u hq => ?_) (c0_X7_isSize l G  size (fun z => z = (pz (2 ≤ size ∧ size ≤ 20)))  r_size (sp_X7_isSize size  r_size ))
  obtain ⟨rz, ez⟩ := hq
  exact ⟨rfl, ⟨ez, rz⟩⟩
theorem imX7_place_X7 : ∀ w ∈ wsX70, w ∈ wsX7_place := fun _ h => (List.mem_cons_of_mem _ (List.mem_append_right _ h))
theorem hdX7_place : yX7_place.cls = RX7 ∧ yX7_place.cls ≠ "java/lang/invoke/MethodHandle" ∧ yX7_place.cls ≠ "java/lang/invoke/VarHandle" ∧ (parseMethodDescriptor yX7_place.desc).map (fun d => d.parameters.length) = some 1 := by decide +kernel
set_option maxRecDepth 100000 in
set_option maxHeartbeats 4000000 in
theorem c0_X7_place (l : Launch) (G : ZG) (a : Nat → Nat) (s : SS) (row : Int) (P : Int → Prop) (r_s : RG s) (r_row : rg row) (hwp : wp_X7_place s row P) : ZI l G yX7_place wsX7_place 0 0 [.ref (a 0), .int (iI row)] (W7 G a s) (fun u : Unit => W7 G a s) (fun (z : Int) (u : Unit) => rg z ∧ P z) := by
  unfold wp_X7_place at hwp
  refine zm_i (cc := cX7_place) (maxL := 2) (ret := some .int) (own := RX7) (lvs := [(0, .ref (a 0)), (1, .int (iI row))]) (by decide) rfl rfl (Nat.le_of_ble_eq_true rfl) rfl ?_
  intro p e sT m args below meth c ls A hx hb hr hml hown hts hlocks hK hP hD hS hA hl
  have k1 := hts (.fieldLink RX7 7 "GrantedSortModel" "z" "[I") (List.mem_of_getElem? (i := 1) rfl)
  refine lv_aload_n hx hb dX7_place_0 rfl (lv_at hl 0 rfl) ?_
  refine va_get (v := .ref (a 1)) (ci := 7) (C := RX7) (T := TX7) (N := 12) hx hb hts imX7_place_X7 hown hK hP 0 rfl rfl 0 (by decide) k1 (fun _ h9 => h9) rfl dX7_place_1 ?_
  refine lv_sipush (v := iI 250) hx hb dX7_place_4 (by decide) ?_
  refine lv_iload_n hx hb dX7_place_7 rfl (lv_at hl 1 rfl) ?_
  refine zr_iadd (x := 250) (y := row) hx hb dX7_place_8 ?_
  obtain ⟨r1, h2⟩ := hwp
  obtain ⟨b3, h4⟩ := h2
  refine zr_iald (n := 370) (f := (s.2 0)) (i := 250 + row) hx hb hK hP 1 rfl r1 b3 dX7_place_9 ?_
  exact zr_iret (z := (s.2 0) (250 + row)) hx hb hr hlocks hK () hP hD hS dX7_place_10 ⟨((r_s.2 0) (250 + row)), h4⟩
theorem c_X7_place (l : Launch) (G : ZG) (a : Nat → Nat) (s : SS) (row : Int)  (r_s : RG s) (r_row : rg row) (p0 : 0 ≤ row ∧ row < 120) : ZI l G yX7_place wsX7_place 0 0 [.ref (a 0), .int (iI row)] (W7 G a s) (fun _ : Unit => W7 G a s) (fun (z : Int) (_ : Unit) => z = ((s.2 0) (250 + row)) ∧ rg z) := by
  refine ZI.fn (w1 := fun u : Unit => W7 G a s) (fun z u hq => ?_) (c0_X7_place l G a s row (fun z => z = ((s.2 0) (250 + row))) r_s r_row (sp_X7_place s row r_s r_row p0))
  obtain ⟨rz, ez⟩ := hq
  exact ⟨rfl, ⟨ez, rz⟩⟩
theorem imX7_rowsAt_X7 : ∀ w ∈ wsX70, w ∈ wsX7_rowsAt := fun _ h => (List.mem_cons_of_mem _ (List.mem_append_right _ h))
theorem hdX7_rowsAt : yX7_rowsAt.cls = RX7 ∧ yX7_rowsAt.cls ≠ "java/lang/invoke/MethodHandle" ∧ yX7_rowsAt.cls ≠ "java/lang/invoke/VarHandle" ∧ (parseMethodDescriptor yX7_rowsAt.desc).map (fun d => d.parameters.length) = some 1 := by decide +kernel
set_option maxRecDepth 100000 in
set_option maxHeartbeats 4000000 in
theorem c0_X7_rowsAt (l : Launch) (G : ZG) (a : Nat → Nat) (s : SS) (place : Int) (P : Int → Prop) (r_s : RG s) (r_place : rg place) (hwp : wp_X7_rowsAt s place P) : ZI l G yX7_rowsAt wsX7_rowsAt 1 21 [.ref (a 0), .int (iI place)] (W7 G a s) (fun u : Unit => W7 G a s) (fun (z : Int) (u : Unit) => rg z ∧ P z) := by
  unfold wp_X7_rowsAt at hwp
  refine zm_i (cc := cX7_rowsAt) (maxL := 4) (ret := some .int) (own := RX7) (lvs := [(0, .ref (a 0)), (1, .int (iI place))]) (by decide) rfl rfl (Nat.le_of_ble_eq_true rfl) rfl ?_
  intro p e sT m args below meth c ls A hx hb hr hml hown hts hlocks hK hP hD hS hA hl
  have k1 := hts (.fieldLink RX7 7 "GrantedSortModel" "z" "[I") (List.mem_of_getElem? (i := 1) rfl)
  refine lv_iconst (v := iI 0) hx hb dX7_rowsAt_0 rfl ?_
  refine lv_istore_n (lv' := [(2, .int (iI 0)), (0, .ref (a 0)), (1, .int (iI place))]) hx hb dX7_rowsAt_1 rfl hl (by decide) rfl (fun ls hl => ?_)
  refine lv_iconst (v := iI 0) hx hb dX7_rowsAt_2 rfl ?_
  refine lv_istore_n (lv' := [(3, .int (iI 0)), (2, .int (iI 0)), (0, .ref (a 0)), (1, .int (iI place))]) hx hb dX7_rowsAt_3 rfl hl (by decide) rfl (fun ls hl => ?_)
  obtain ⟨I2, μ3, h4, h5⟩ := hwp
  refine zr_loop (G := G) (σ := Int × Int) (fun x_1 => (rg x_1.1 ∧ rg x_1.2) ∧ I2 x_1.1 x_1.2) (fun x_1 => μ3 x_1.1 x_1.2) (fun x_1 => W7 G a s) (fun x_1 => [(3, .int (iI x_1.2)), (2, .int (iI x_1.1)), (0, .ref (a 0)), (1, .int (iI place))]) ((0, 0)) ⟨⟨rg_0, rg_0⟩, h4⟩ hP hD hS (lv_sub hl [0, 1, 2, 3] rfl) ?_
  clear hP hD hS hl
  intro x_1 H locs ls ih6 h7 hP hD hS hl
  obtain ⟨x2_1, x3_1⟩ := x_1
  obtain ⟨⟨rx2_1, rx3_1⟩, h7⟩ := h7
  have h8 := h5 x2_1 x3_1 rx2_1 rx3_1 h7
  have hP : va_P G.1 vwCl (W7 G a s) H := hP
  have hD : va_D A (W7 G a s) := hD
  have hl : lv_has ls 4 [(3, .int (iI x3_1)), (2, .int (iI x2_1)), (0, .ref (a 0)), (1, .int (iI place))] := hl
  refine lv_iload_n hx hb dX7_rowsAt_4 rfl (lv_at hl 0 rfl) ?_
  refine lv_aload_n hx hb dX7_rowsAt_5 rfl (lv_at hl 2 rfl) ?_
  refine va_get (v := .ref (a 1)) (ci := 7) (C := RX7) (T := TX7) (N := 12) hx hb hts imX7_rowsAt_X7 hown hK hP 0 rfl rfl 0 (by decide) k1 (fun _ h9 => h9) rfl dX7_rowsAt_6 ?_
  refine lv_iconst (v := iI 3) hx hb dX7_rowsAt_9 rfl ?_
  refine zr_iald (n := 370) (f := (s.2 0)) (i := 3) hx hb hK hP 1 rfl rg_3 ⟨by decide, by decide⟩ dX7_rowsAt_10 ?_
  refine zr_icmp_ge (tgt := 37) (x := x3_1) (y := (s.2 0) 3) hx hb rx3_1 ((r_s.2 0) 3) dX7_rowsAt_11 (by decide) (fun c9 => ?_) (fun c9 => ?_)
  · have h12 := h8.2 c9
    refine lv_iload_n hx hb dX7_rowsAt_37 rfl (lv_at hl 1 rfl) ?_
    exact zr_iret (z := x2_1) hx hb hr hlocks hK () hP hD hS dX7_rowsAt_38 ⟨rx2_1, h12⟩
  · have h13 := h8.1 c9
    refine lv_iload_n hx hb dX7_rowsAt_14 rfl (lv_at hl 1 rfl) ?_
    refine lv_aload_n hx hb dX7_rowsAt_15 rfl (lv_at hl 2 rfl) ?_
    refine lv_iload_n hx hb dX7_rowsAt_16 rfl (lv_at hl 0 rfl) ?_
    obtain ⟨b14, h15⟩ := h13
    refine zc_vi (As := [.int (iI x3_1)]) (rest := [.int (iI x2_1)]) (w2 := fun u_16 => W7 G a s) (c_X7_place l G a s x3_1 r_s rx3_1 b14) ⟨hx, hb, hml, hown, hts⟩ (cwV 1 hts gX7_rowsAt_X7_place rfl rfl rfl hdX7_place ⟨Nat.le_of_ble_eq_true rfl, Nat.le_of_ble_eq_true rfl⟩) hK hP hD hS hA (q0 := 0) rfl rfl [0, 1, 2, 3, 4, 5, 6] [] [0, 1, 2, 3, 4, 5, 6] rfl rfl rfl rfl (by decide) (fun _ => rfl) rfl rfl hl.1 rfl (Nat.le_of_ble_eq_true rfl) dX7_rowsAt_17 ⟨Nat.zero_le _, Nat.zero_le _⟩ (fun z17 u_16 H locs hw hP hD hS => ?_)
    obtain ⟨rfl, r18⟩ := hw
    have hP : va_P G.1 vwCl (W7 G a s) H := hP
    have hD : va_D A (W7 G a s) := hD
    refine lv_iload_n hx hb dX7_rowsAt_20 rfl (lv_at hl 3 rfl) ?_
    refine zr_icmp_ne (tgt := 28) (x := (s.2 0) (250 + x3_1)) (y := place) hx hb r18 r_place dX7_rowsAt_21 (by decide) (fun c19 => ?_) (fun c19 => ?_)
    · have h22 := h15.2 c19
      refine lv_iconst (v := iI 0) hx hb dX7_rowsAt_28 rfl ?_
      refine zr_iadd (x := x2_1) (y := 0) hx hb dX7_rowsAt_29 ?_
      obtain ⟨r23, h24⟩ := h22
      refine lv_istore_n (lv' := [(2, .int (iI (x2_1 + 0))), (3, .int (iI x3_1)), (0, .ref (a 0)), (1, .int (iI place))]) hx hb dX7_rowsAt_30 rfl hl (by decide) rfl (fun ls hl => ?_)
      obtain ⟨r25, h26⟩ := h24
      refine zr_iinc (x := x3_1) (lv' := [(3, .int (iI (x3_1 + 1))), (2, .int (iI (x2_1 + 0))), (0, .ref (a 0)), (1, .int (iI place))]) hx hb dX7_rowsAt_31 hl (k := 1) rfl (by decide) rfl (fun ls hl => ?_)
      refine lv_goto (tgt := 4) hx hb dX7_rowsAt_34 (by decide) ?_
      obtain ⟨h27, h28⟩ := h26
      exact ih6 ((x2_1 + 0, x3_1 + 1)) H locs ls ⟨⟨r23, r25⟩, h27⟩ h28 hP hD hS (lv_sub hl [0, 1, 2, 3] rfl)
    · have h29 := h15.1 c19
      refine lv_iconst (v := iI 1) hx hb dX7_rowsAt_24 rfl ?_
      refine lv_goto (tgt := 29) hx hb dX7_rowsAt_25 (by decide) ?_
      refine zr_iadd (x := x2_1) (y := 1) hx hb dX7_rowsAt_29 ?_
      obtain ⟨r30, h31⟩ := h29
      refine lv_istore_n (lv' := [(2, .int (iI (x2_1 + 1))), (3, .int (iI x3_1)), (0, .ref (a 0)), (1, .int (iI place))]) hx hb dX7_rowsAt_30 rfl hl (by decide) rfl (fun ls hl => ?_)
      obtain ⟨r32, h33⟩ := h31
      refine zr_iinc (x := x3_1) (lv' := [(3, .int (iI (x3_1 + 1))), (2, .int (iI (x2_1 + 1))), (0, .ref (a 0)), (1, .int (iI place))]) hx hb dX7_rowsAt_31 hl (k := 1) rfl (by decide) rfl (fun ls hl => ?_)
      refine lv_goto (tgt := 4) hx hb dX7_rowsAt_34 (by decide) ?_
      obtain ⟨h34, h35⟩ := h33
      exact ih6 ((x2_1 + 1, x3_1 + 1)) H locs ls ⟨⟨r30, r32⟩, h34⟩ h35 hP hD hS (lv_sub hl [0, 1, 2, 3] rfl)
theorem c_X7_rowsAt (l : Launch) (G : ZG) (a : Nat → Nat) (s : SS) (place : Int)  (r_s : RG s) (r_place : rg place) (p0 : Vb (s.2 0)) : ZI l G yX7_rowsAt wsX7_rowsAt 1 21 [.ref (a 0), .int (iI place)] (W7 G a s) (fun _ : Unit => W7 G a s) (fun (z : Int) (_ : Unit) => z = (rowsAt (s.2 0) place) ∧ rg z) := by
  refine ZI.fn (w1 := fun u : Unit => W7 G a s) (fun z u hq => ?_) (c0_X7_rowsAt l G a s place (fun z => z = (rowsAt (s.2 0) place)) r_s r_place (sp_X7_rowsAt s place r_s r_place p0))
  obtain ⟨rz, ez⟩ := hq
  exact ⟨rfl, ⟨ez, rz⟩⟩
theorem imX7_isRun_X7 : ∀ w ∈ wsX70, w ∈ wsX7_isRun := fun _ h => (List.mem_cons_of_mem _ (List.mem_append_right _ h))
theorem hdX7_isRun : yX7_isRun.cls = RX7 ∧ yX7_isRun.cls ≠ "java/lang/invoke/MethodHandle" ∧ yX7_isRun.cls ≠ "java/lang/invoke/VarHandle" ∧ (parseMethodDescriptor yX7_isRun.desc).map (fun d => d.parameters.length) = some 1 := by decide +kernel
set_option maxRecDepth 100000 in
set_option maxHeartbeats 4000000 in
theorem c0_X7_isRun (l : Launch) (G : ZG) (a : Nat → Nat) (s : SS) (run : Int) (P : Int → Prop) (r_s : RG s) (r_run : rg run) (hwp : wp_X7_isRun s run P) : ZI l G yX7_isRun wsX7_isRun 2 44 [.ref (a 0), .int (iI run)] (W7 G a s) (fun u : Unit => W7 G a s) (fun (z : Int) (u : Unit) => rg z ∧ P z) := by
  unfold wp_X7_isRun at hwp
  refine zm_i (cc := cX7_isRun) (maxL := 2) (ret := some .boolean) (own := RX7) (lvs := [(0, .ref (a 0)), (1, .int (iI run))]) (by decide) rfl rfl (Nat.le_of_ble_eq_true rfl) rfl ?_
  intro p e sT m args below meth c ls A hx hb hr hml hown hts hlocks hK hP hD hS hA hl
  have k1 := hts (.fieldLink RX7 7 "GrantedSortModel" "z" "[I") (List.mem_of_getElem? (i := 1) rfl)
  refine lv_iload_n hx hb dX7_isRun_0 rfl (lv_at hl 1 rfl) ?_
  refine lv_iconst (v := iI 0) hx hb dX7_isRun_1 rfl ?_
  refine lv_aload_n hx hb dX7_isRun_2 rfl (lv_at hl 0 rfl) ?_
  refine va_get (v := .ref (a 1)) (ci := 7) (C := RX7) (T := TX7) (N := 12) hx hb hts imX7_isRun_X7 hown hK hP 0 rfl rfl 0 (by decide) k1 (fun _ h9 => h9) rfl dX7_isRun_3 ?_
  refine lv_iconst (v := iI 4) hx hb dX7_isRun_6 rfl ?_
  refine zr_iald (n := 370) (f := (s.2 0)) (i := 4) hx hb hK hP 1 rfl rg_4 ⟨by decide, by decide⟩ dX7_isRun_7 ?_
  refine lv_iconst (v := iI 1) hx hb dX7_isRun_8 rfl ?_
  refine zr_isub (x := (s.2 0) 4) (y := 1) hx hb dX7_isRun_9 ?_
  obtain ⟨r1, h2⟩ := hwp
  refine zc_si (As := [.int (iI run), .int (iI 0), .int (iI (((s.2 0) 4) - 1))]) (rest := []) (c_X7_in l G run 0 (((s.2 0) 4) - 1) r_run rg_0 r1) ⟨hx, hb, hml, hown, hts⟩ (va_cwS 3 hts gX7_isRun_X7_in rfl rfl rfl hdX7_in ⟨Nat.le_of_ble_eq_true rfl, Nat.le_of_ble_eq_true rfl⟩) hK hP hD hS hA rfl hl.1 rfl (Nat.le_of_ble_eq_true rfl) dX7_isRun_10 ⟨Nat.zero_le _, Nat.zero_le _⟩ (fun z4 H locs hw hP hD hS => ?_)
  obtain ⟨rfl, r5⟩ := hw
  have hP : va_P G.1 vwCl (W7 G a s) H := hP
  have hD : va_D A (W7 G a s) := hD
  refine zr_ifB_eq (tgt := 33)  hx hb dX7_isRun_13 (by decide) (fun c6 => ?_) (fun c6 => ?_)
  · have h9 := h2.2 c6
    refine lv_iconst (v := iI 0) hx hb dX7_isRun_33 rfl ?_
    exact zr_zret (z := 0) hx hb hr hlocks hK (Or.inl rfl) () hP hD hS dX7_isRun_34 ⟨rg_0, h9⟩
  · have h10 := h2.1 c6
    refine lv_aload_n hx hb dX7_isRun_16 rfl (lv_at hl 0 rfl) ?_
    refine lv_bipush (v := iI 10) hx hb dX7_isRun_17 (by decide) ?_
    refine lv_iconst (v := iI 2) hx hb dX7_isRun_19 rfl ?_
    refine lv_iload_n hx hb dX7_isRun_20 rfl (lv_at hl 1 rfl) ?_
    refine zr_imul (x := 2) (y := run) hx hb dX7_isRun_21 ?_
    obtain ⟨r11, h12⟩ := h10
    refine zr_iadd (x := 10) (y := 2 * run) hx hb dX7_isRun_22 ?_
    obtain ⟨r13, h14⟩ := h12
    obtain ⟨b15, h16⟩ := h14
    refine zc_vi (As := [.int (iI (10 + (2 * run)))]) (rest := []) (w2 := fun u_17 => W7 G a s) (c_X7_rowsAt l G a s (10 + (2 * run)) r_s r13 b15) ⟨hx, hb, hml, hown, hts⟩ (cwV 1 hts gX7_isRun_X7_rowsAt rfl rfl rfl hdX7_rowsAt ⟨Nat.le_of_ble_eq_true rfl, Nat.le_of_ble_eq_true rfl⟩) hK hP hD hS hA (q0 := 0) rfl rfl [0, 1, 2, 3, 4, 5, 6] [] [0, 1, 2, 3, 4, 5, 6] rfl rfl rfl rfl (by decide) (fun _ => rfl) rfl rfl hl.1 rfl (Nat.le_of_ble_eq_true rfl) dX7_isRun_23 ⟨Nat.zero_le _, Nat.zero_le _⟩ (fun z18 u_17 H locs hw hP hD hS => ?_)
    obtain ⟨rfl, r19⟩ := hw
    have hP : va_P G.1 vwCl (W7 G a s) H := hP
    have hD : va_D A (W7 G a s) := hD
    refine zr_if_le (tgt := 33) (x := rowsAt (s.2 0) (10 + (2 * run))) hx hb r19 dX7_isRun_26 (by decide) (fun c20 => ?_) (fun c20 => ?_)
    · have h23 := h16.2 c20
      refine lv_iconst (v := iI 0) hx hb dX7_isRun_33 rfl ?_
      exact zr_zret (z := 0) hx hb hr hlocks hK (Or.inl rfl) () hP hD hS dX7_isRun_34 ⟨rg_0, h23⟩
    · have h24 := h16.1 c20
      refine lv_iconst (v := iI 1) hx hb dX7_isRun_29 rfl ?_
      refine lv_goto (tgt := 34) hx hb dX7_isRun_30 (by decide) ?_
      exact zr_zret (z := 1) hx hb hr hlocks hK (Or.inr rfl) () hP hD hS dX7_isRun_34 ⟨rg_1, h24⟩
theorem c_X7_isRun (l : Launch) (G : ZG) (a : Nat → Nat) (s : SS) (run : Int)  (r_s : RG s) (r_run : rg run) (p0 : Vb (s.2 0)) : ZI l G yX7_isRun wsX7_isRun 2 44 [.ref (a 0), .int (iI run)] (W7 G a s) (fun _ : Unit => W7 G a s) (fun (z : Int) (_ : Unit) => z = (pz (0 ≤ run ∧ run ≤ (s.2 0) 4 - 1 ∧ 0 < rowsAt (s.2 0) (10 + 2 * run))) ∧ rg z) := by
  refine ZI.fn (w1 := fun u : Unit => W7 G a s) (fun z u hq => ?_) (c0_X7_isRun l G a s run (fun z => z = (pz (0 ≤ run ∧ run ≤ (s.2 0) 4 - 1 ∧ 0 < rowsAt (s.2 0) (10 + 2 * run)))) r_s r_run (sp_X7_isRun s run r_s r_run p0))
  obtain ⟨rz, ez⟩ := hq
  exact ⟨rfl, ⟨ez, rz⟩⟩
theorem imX7_nextPlace_X7 : ∀ w ∈ wsX70, w ∈ wsX7_nextPlace := fun _ h => (List.mem_cons_of_mem _ (List.mem_append_right _ h))
theorem hdX7_nextPlace : yX7_nextPlace.cls = RX7 ∧ yX7_nextPlace.cls ≠ "java/lang/invoke/MethodHandle" ∧ yX7_nextPlace.cls ≠ "java/lang/invoke/VarHandle" ∧ (parseMethodDescriptor yX7_nextPlace.desc).map (fun d => d.parameters.length) = some 2 := by decide +kernel
set_option maxRecDepth 100000 in
set_option maxHeartbeats 4000000 in
theorem c0_X7_nextPlace (l : Launch) (G : ZG) (a : Nat → Nat) (s : SS) (behind : Int) (kind : Int) (P : Int → Prop) (r_s : RG s) (r_behind : rg behind) (r_kind : rg kind) (hwp : wp_X7_nextPlace s behind kind P) : ZI l G yX7_nextPlace wsX7_nextPlace 1 21 [.ref (a 0), .int (iI behind), .int (iI kind)] (W7 G a s) (fun u : Unit => W7 G a s) (fun (z : Int) (u : Unit) => rg z ∧ P z) := by
  unfold wp_X7_nextPlace at hwp
  refine zm_i (cc := cX7_nextPlace) (maxL := 6) (ret := some .int) (own := RX7) (lvs := [(0, .ref (a 0)), (1, .int (iI behind)), (2, .int (iI kind))]) (by decide) rfl rfl (Nat.le_of_ble_eq_true rfl) rfl ?_
  intro p e sT m args below meth c ls A hx hb hr hml hown hts hlocks hK hP hD hS hA hl
  have k1 := hts (.fieldLink RX7 7 "GrantedSortModel" "z" "[I") (List.mem_of_getElem? (i := 1) rfl)
  refine lv_bipush (v := iI (-6)) hx hb dX7_nextPlace_0 (by decide) ?_
  refine lv_istore_n (lv' := [(3, .int (iI (-6))), (0, .ref (a 0)), (1, .int (iI behind)), (2, .int (iI kind))]) hx hb dX7_nextPlace_2 rfl hl (by decide) rfl (fun ls hl => ?_)
  refine lv_iconst (v := iI 0) hx hb dX7_nextPlace_3 rfl ?_
  refine lv_istore (lv' := [(4, .int (iI 0)), (3, .int (iI (-6))), (0, .ref (a 0)), (1, .int (iI behind)), (2, .int (iI kind))]) hx hb dX7_nextPlace_4 hl (by decide) rfl (fun ls hl => ?_)
  obtain ⟨I2, μ3, h4, h5⟩ := hwp
  refine zr_loop (G := G) (σ := Int × Int) (fun x_1 => (rg x_1.1 ∧ rg x_1.2) ∧ I2 x_1.1 x_1.2) (fun x_1 => μ3 x_1.1 x_1.2) (fun x_1 => W7 G a s) (fun x_1 => [(4, .int (iI x_1.2)), (3, .int (iI x_1.1)), (0, .ref (a 0)), (1, .int (iI behind)), (2, .int (iI kind))]) (((-6), 0)) ⟨⟨rg_m6, rg_0⟩, h4⟩ hP hD hS (lv_sub hl [0, 1, 2, 3, 4] rfl) ?_
  clear hP hD hS hl
  intro x_1 H locs ls ih6 h7 hP hD hS hl
  obtain ⟨x3_1, x4_1⟩ := x_1
  obtain ⟨⟨rx3_1, rx4_1⟩, h7⟩ := h7
  have h8 := h5 x3_1 x4_1 rx3_1 rx4_1 h7
  have hP : va_P G.1 vwCl (W7 G a s) H := hP
  have hD : va_D A (W7 G a s) := hD
  have hl : lv_has ls 6 [(4, .int (iI x4_1)), (3, .int (iI x3_1)), (0, .ref (a 0)), (1, .int (iI behind)), (2, .int (iI kind))] := hl
  refine lv_iload hx hb dX7_nextPlace_6 (lv_at hl 0 rfl) ?_
  refine lv_aload_n hx hb dX7_nextPlace_8 rfl (lv_at hl 2 rfl) ?_
  refine va_get (v := .ref (a 1)) (ci := 7) (C := RX7) (T := TX7) (N := 12) hx hb hts imX7_nextPlace_X7 hown hK hP 0 rfl rfl 0 (by decide) k1 (fun _ h9 => h9) rfl dX7_nextPlace_9 ?_
  refine lv_iconst (v := iI 3) hx hb dX7_nextPlace_12 rfl ?_
  refine zr_iald (n := 370) (f := (s.2 0)) (i := 3) hx hb hK hP 1 rfl rg_3 ⟨by decide, by decide⟩ dX7_nextPlace_13 ?_
  refine zr_icmp_ge (tgt := 71) (x := x4_1) (y := (s.2 0) 3) hx hb rx4_1 ((r_s.2 0) 3) dX7_nextPlace_14 (by decide) (fun c9 => ?_) (fun c9 => ?_)
  · have h12 := h8.2 c9
    refine lv_iload_n hx hb dX7_nextPlace_71 rfl (lv_at hl 1 rfl) ?_
    exact zr_iret (z := x3_1) hx hb hr hlocks hK () hP hD hS dX7_nextPlace_72 ⟨rx3_1, h12⟩
  · have h13 := h8.1 c9
    refine lv_aload_n hx hb dX7_nextPlace_17 rfl (lv_at hl 2 rfl) ?_
    refine lv_iload hx hb dX7_nextPlace_18 (lv_at hl 0 rfl) ?_
    obtain ⟨b14, h15⟩ := h13
    refine zc_vi (As := [.int (iI x4_1)]) (rest := []) (w2 := fun u_16 => W7 G a s) (c_X7_place l G a s x4_1 r_s rx4_1 b14) ⟨hx, hb, hml, hown, hts⟩ (cwV 1 hts gX7_nextPlace_X7_place rfl rfl rfl hdX7_place ⟨Nat.le_of_ble_eq_true rfl, Nat.le_of_ble_eq_true rfl⟩) hK hP hD hS hA (q0 := 0) rfl rfl [0, 1, 2, 3, 4, 5, 6] [] [0, 1, 2, 3, 4, 5, 6] rfl rfl rfl rfl (by decide) (fun _ => rfl) rfl rfl hl.1 rfl (Nat.le_of_ble_eq_true rfl) dX7_nextPlace_20 ⟨Nat.zero_le _, Nat.zero_le _⟩ (fun z17 u_16 H locs hw hP hD hS => ?_)
    obtain ⟨rfl, r18⟩ := hw
    have hP : va_P G.1 vwCl (W7 G a s) H := hP
    have hD : va_D A (W7 G a s) := hD
    refine lv_istore (lv' := [(5, .int (iI ((s.2 0) (250 + x4_1)))), (4, .int (iI x4_1)), (3, .int (iI x3_1)), (0, .ref (a 0)), (1, .int (iI behind)), (2, .int (iI kind))]) hx hb dX7_nextPlace_23 hl (by decide) rfl (fun ls hl => ?_)
    refine lv_iload hx hb dX7_nextPlace_25 (lv_at hl 0 rfl) ?_
    refine lv_bipush (v := iI 10) hx hb dX7_nextPlace_27 (by decide) ?_
    refine zr_icmp_lt (tgt := 63) (x := (s.2 0) (250 + x4_1)) (y := 10) hx hb r18 rg_10 dX7_nextPlace_29 (by decide) (fun c19 => ?_) (fun c19 => ?_)
    · have h22 := h15.1 c19
      refine lv_iload_n hx hb dX7_nextPlace_63 rfl (lv_at hl 2 rfl) ?_
      refine lv_istore_n (lv' := [(3, .int (iI x3_1)), (5, .int (iI ((s.2 0) (250 + x4_1)))), (4, .int (iI x4_1)), (0, .ref (a 0)), (1, .int (iI behind)), (2, .int (iI kind))]) hx hb dX7_nextPlace_64 rfl hl (by decide) rfl (fun ls hl => ?_)
      obtain ⟨r23, h24⟩ := h22
      refine zr_iinc (x := x4_1) (lv' := [(4, .int (iI (x4_1 + 1))), (3, .int (iI x3_1)), (5, .int (iI ((s.2 0) (250 + x4_1)))), (0, .ref (a 0)), (1, .int (iI behind)), (2, .int (iI kind))]) hx hb dX7_nextPlace_65 hl (k := 2) rfl (by decide) rfl (fun ls hl => ?_)
      refine lv_goto (tgt := 6) hx hb dX7_nextPlace_68 (by decide) ?_
      obtain ⟨h25, h26⟩ := h24
      exact ih6 ((x3_1, x4_1 + 1)) H locs ls ⟨⟨rx3_1, r23⟩, h25⟩ h26 hP hD hS (lv_sub hl [0, 1, 3, 4, 5] rfl)
    · have h27 := h15.2 c19
      refine lv_iload hx hb dX7_nextPlace_32 (lv_at hl 0 rfl) ?_
      refine lv_iload_n hx hb dX7_nextPlace_34 rfl (lv_at hl 4 rfl) ?_
      refine zr_icmp_le (tgt := 63) (x := (s.2 0) (250 + x4_1)) (y := behind) hx hb r18 r_behind dX7_nextPlace_35 (by decide) (fun c28 => ?_) (fun c28 => ?_)
      · have h31 := h27.2 c28
        refine lv_iload_n hx hb dX7_nextPlace_63 rfl (lv_at hl 2 rfl) ?_
        refine lv_istore_n (lv' := [(3, .int (iI x3_1)), (5, .int (iI ((s.2 0) (250 + x4_1)))), (4, .int (iI x4_1)), (0, .ref (a 0)), (1, .int (iI behind)), (2, .int (iI kind))]) hx hb dX7_nextPlace_64 rfl hl (by decide) rfl (fun ls hl => ?_)
        obtain ⟨r32, h33⟩ := h31
        refine zr_iinc (x := x4_1) (lv' := [(4, .int (iI (x4_1 + 1))), (3, .int (iI x3_1)), (5, .int (iI ((s.2 0) (250 + x4_1)))), (0, .ref (a 0)), (1, .int (iI behind)), (2, .int (iI kind))]) hx hb dX7_nextPlace_65 hl (k := 2) rfl (by decide) rfl (fun ls hl => ?_)
        refine lv_goto (tgt := 6) hx hb dX7_nextPlace_68 (by decide) ?_
        obtain ⟨h34, h35⟩ := h33
        exact ih6 ((x3_1, x4_1 + 1)) H locs ls ⟨⟨rx3_1, r32⟩, h34⟩ h35 hP hD hS (lv_sub hl [0, 1, 3, 4, 5] rfl)
      · have h36 := h27.1 c28
        refine lv_iload hx hb dX7_nextPlace_38 (lv_at hl 0 rfl) ?_
        refine lv_iconst (v := iI 2) hx hb dX7_nextPlace_40 rfl ?_
        obtain ⟨r37, h38⟩ := h36
        refine zr_irem (x := (s.2 0) (250 + x4_1)) (y := 2) hx hb r18 (by decide) (by decide) r37 dX7_nextPlace_41 ?_
        refine lv_iload_n hx hb dX7_nextPlace_42 rfl (lv_at hl 5 rfl) ?_
        refine zr_icmp_ne (tgt := 63) (x := ((s.2 0) (250 + x4_1)) % 2) (y := kind) hx hb (rg_mod r18 r37 (by decide)) r_kind dX7_nextPlace_43 (by decide) (fun c39 => ?_) (fun c39 => ?_)
        · have h42 := h38.2 c39
          refine lv_iload_n hx hb dX7_nextPlace_63 rfl (lv_at hl 2 rfl) ?_
          refine lv_istore_n (lv' := [(3, .int (iI x3_1)), (5, .int (iI ((s.2 0) (250 + x4_1)))), (4, .int (iI x4_1)), (0, .ref (a 0)), (1, .int (iI behind)), (2, .int (iI kind))]) hx hb dX7_nextPlace_64 rfl hl (by decide) rfl (fun ls hl => ?_)
          obtain ⟨r43, h44⟩ := h42
          refine zr_iinc (x := x4_1) (lv' := [(4, .int (iI (x4_1 + 1))), (3, .int (iI x3_1)), (5, .int (iI ((s.2 0) (250 + x4_1)))), (0, .ref (a 0)), (1, .int (iI behind)), (2, .int (iI kind))]) hx hb dX7_nextPlace_65 hl (k := 2) rfl (by decide) rfl (fun ls hl => ?_)
          refine lv_goto (tgt := 6) hx hb dX7_nextPlace_68 (by decide) ?_
          obtain ⟨h45, h46⟩ := h44
          exact ih6 ((x3_1, x4_1 + 1)) H locs ls ⟨⟨rx3_1, r43⟩, h45⟩ h46 hP hD hS (lv_sub hl [0, 1, 3, 4, 5] rfl)
        · have h47 := h38.1 c39
          refine lv_iload_n hx hb dX7_nextPlace_46 rfl (lv_at hl 2 rfl) ?_
          refine lv_bipush (v := iI (-6)) hx hb dX7_nextPlace_47 (by decide) ?_
          refine zr_icmp_eq (tgt := 58) (x := x3_1) (y := (-6)) hx hb rx3_1 rg_m6 dX7_nextPlace_49 (by decide) (fun c48 => ?_) (fun c48 => ?_)
          · have h51 := h47.1 c48
            refine lv_iload hx hb dX7_nextPlace_58 (lv_at hl 0 rfl) ?_
            refine lv_goto (tgt := 64) hx hb dX7_nextPlace_60 (by decide) ?_
            refine lv_istore_n (lv' := [(3, .int (iI ((s.2 0) (250 + x4_1)))), (5, .int (iI ((s.2 0) (250 + x4_1)))), (4, .int (iI x4_1)), (0, .ref (a 0)), (1, .int (iI behind)), (2, .int (iI kind))]) hx hb dX7_nextPlace_64 rfl hl (by decide) rfl (fun ls hl => ?_)
            obtain ⟨r52, h53⟩ := h51
            refine zr_iinc (x := x4_1) (lv' := [(4, .int (iI (x4_1 + 1))), (3, .int (iI ((s.2 0) (250 + x4_1)))), (5, .int (iI ((s.2 0) (250 + x4_1)))), (0, .ref (a 0)), (1, .int (iI behind)), (2, .int (iI kind))]) hx hb dX7_nextPlace_65 hl (k := 2) rfl (by decide) rfl (fun ls hl => ?_)
            refine lv_goto (tgt := 6) hx hb dX7_nextPlace_68 (by decide) ?_
            obtain ⟨h54, h55⟩ := h53
            exact ih6 (((s.2 0) (250 + x4_1), x4_1 + 1)) H locs ls ⟨⟨r18, r52⟩, h54⟩ h55 hP hD hS (lv_sub hl [0, 1, 3, 4, 5] rfl)
          · have h56 := h47.2 c48
            refine lv_iload hx hb dX7_nextPlace_52 (lv_at hl 0 rfl) ?_
            refine lv_iload_n hx hb dX7_nextPlace_54 rfl (lv_at hl 2 rfl) ?_
            refine zr_icmp_ge (tgt := 63) (x := (s.2 0) (250 + x4_1)) (y := x3_1) hx hb r18 rx3_1 dX7_nextPlace_55 (by decide) (fun c57 => ?_) (fun c57 => ?_)
            · have h60 := h56.2 c57
              refine lv_iload_n hx hb dX7_nextPlace_63 rfl (lv_at hl 2 rfl) ?_
              refine lv_istore_n (lv' := [(3, .int (iI x3_1)), (5, .int (iI ((s.2 0) (250 + x4_1)))), (4, .int (iI x4_1)), (0, .ref (a 0)), (1, .int (iI behind)), (2, .int (iI kind))]) hx hb dX7_nextPlace_64 rfl hl (by decide) rfl (fun ls hl => ?_)
              obtain ⟨r61, h62⟩ := h60
              refine zr_iinc (x := x4_1) (lv' := [(4, .int (iI (x4_1 + 1))), (3, .int (iI x3_1)), (5, .int (iI ((s.2 0) (250 + x4_1)))), (0, .ref (a 0)), (1, .int (iI behind)), (2, .int (iI kind))]) hx hb dX7_nextPlace_65 hl (k := 2) rfl (by decide) rfl (fun ls hl => ?_)
              refine lv_goto (tgt := 6) hx hb dX7_nextPlace_68 (by decide) ?_
              obtain ⟨h63, h64⟩ := h62
              exact ih6 ((x3_1, x4_1 + 1)) H locs ls ⟨⟨rx3_1, r61⟩, h63⟩ h64 hP hD hS (lv_sub hl [0, 1, 3, 4, 5] rfl)
            · have h65 := h56.1 c57
              refine lv_iload hx hb dX7_nextPlace_58 (lv_at hl 0 rfl) ?_
              refine lv_goto (tgt := 64) hx hb dX7_nextPlace_60 (by decide) ?_
              refine lv_istore_n (lv' := [(3, .int (iI ((s.2 0) (250 + x4_1)))), (5, .int (iI ((s.2 0) (250 + x4_1)))), (4, .int (iI x4_1)), (0, .ref (a 0)), (1, .int (iI behind)), (2, .int (iI kind))]) hx hb dX7_nextPlace_64 rfl hl (by decide) rfl (fun ls hl => ?_)
              obtain ⟨r66, h67⟩ := h65
              refine zr_iinc (x := x4_1) (lv' := [(4, .int (iI (x4_1 + 1))), (3, .int (iI ((s.2 0) (250 + x4_1)))), (5, .int (iI ((s.2 0) (250 + x4_1)))), (0, .ref (a 0)), (1, .int (iI behind)), (2, .int (iI kind))]) hx hb dX7_nextPlace_65 hl (k := 2) rfl (by decide) rfl (fun ls hl => ?_)
              refine lv_goto (tgt := 6) hx hb dX7_nextPlace_68 (by decide) ?_
              obtain ⟨h68, h69⟩ := h67
              exact ih6 (((s.2 0) (250 + x4_1), x4_1 + 1)) H locs ls ⟨⟨r18, r66⟩, h68⟩ h69 hP hD hS (lv_sub hl [0, 1, 3, 4, 5] rfl)
theorem c_X7_nextPlace (l : Launch) (G : ZG) (a : Nat → Nat) (s : SS) (behind : Int) (kind : Int)  (r_s : RG s) (r_behind : rg behind) (r_kind : rg kind) (p0 : Vb (s.2 0)) : ZI l G yX7_nextPlace wsX7_nextPlace 1 21 [.ref (a 0), .int (iI behind), .int (iI kind)] (W7 G a s) (fun _ : Unit => W7 G a s) (fun (z : Int) (_ : Unit) => z = (nxP (s.2 0) behind kind ((s.2 0) 3).toNat) ∧ rg z) := by
  refine ZI.fn (w1 := fun u : Unit => W7 G a s) (fun z u hq => ?_) (c0_X7_nextPlace l G a s behind kind (fun z => z = (nxP (s.2 0) behind kind ((s.2 0) 3).toNat)) r_s r_behind r_kind (sp_X7_nextPlace s behind kind r_s r_behind r_kind p0))
  obtain ⟨rz, ez⟩ := hq
  exact ⟨rfl, ⟨ez, rz⟩⟩
theorem hdX7_many : yX7_many.cls = RX7 ∧ yX7_many.cls ≠ "java/lang/invoke/MethodHandle" ∧ yX7_many.cls ≠ "java/lang/invoke/VarHandle" ∧ (parseMethodDescriptor yX7_many.desc).map (fun d => d.parameters.length) = some 1 := by decide +kernel
set_option maxRecDepth 100000 in
set_option maxHeartbeats 4000000 in
theorem c0_X7_many (l : Launch) (G : ZG) (a : Nat → Nat) (s : SS) (kind : Int) (P : Int → Prop) (r_s : RG s) (r_kind : rg kind) (hwp : wp_X7_many s kind P) : ZI l G yX7_many wsX7_many 2 46 [.ref (a 0), .int (iI kind)] (W7 G a s) (fun u : Unit => W7 G a s) (fun (z : Int) (u : Unit) => rg z ∧ P z) := by
  unfold wp_X7_many at hwp
  refine zm_i (cc := cX7_many) (maxL := 4) (ret := some .int) (own := RX7) (lvs := [(0, .ref (a 0)), (1, .int (iI kind))]) (by decide) rfl rfl (Nat.le_of_ble_eq_true rfl) rfl ?_
  intro p e sT m args below meth c ls A hx hb hr hml hown hts hlocks hK hP hD hS hA hl
  refine lv_iconst (v := iI 0) hx hb dX7_many_0 rfl ?_
  refine lv_istore_n (lv' := [(2, .int (iI 0)), (0, .ref (a 0)), (1, .int (iI kind))]) hx hb dX7_many_1 rfl hl (by decide) rfl (fun ls hl => ?_)
  refine lv_aload_n hx hb dX7_many_2 rfl (lv_at hl 1 rfl) ?_
  refine lv_iconst (v := iI 0) hx hb dX7_many_3 rfl ?_
  refine lv_iload_n hx hb dX7_many_4 rfl (lv_at hl 2 rfl) ?_
  obtain ⟨b1, h2⟩ := hwp
  refine zc_vi (As := [.int (iI 0), .int (iI kind)]) (rest := []) (w2 := fun u_3 => W7 G a s) (c_X7_nextPlace l G a s 0 kind r_s rg_0 r_kind b1) ⟨hx, hb, hml, hown, hts⟩ (cwV 2 hts gX7_many_X7_nextPlace rfl rfl rfl hdX7_nextPlace ⟨Nat.le_of_ble_eq_true rfl, Nat.le_of_ble_eq_true rfl⟩) hK hP hD hS hA (q0 := 0) rfl rfl [0, 1, 2, 3, 4, 5, 6] [] [0, 1, 2, 3, 4, 5, 6] rfl rfl rfl rfl (by decide) (fun _ => rfl) rfl rfl hl.1 rfl (Nat.le_of_ble_eq_true rfl) dX7_many_5 ⟨Nat.zero_le _, Nat.zero_le _⟩ (fun z4 u_3 H locs hw hP hD hS => ?_)
  obtain ⟨rfl, r5⟩ := hw
  have hP : va_P G.1 vwCl (W7 G a s) H := hP
  have hD : va_D A (W7 G a s) := hD
  refine lv_istore_n (lv' := [(3, .int (iI (nxP (s.2 0) (0 : Int) kind ((s.2 0) 3).toNat))), (2, .int (iI 0)), (0, .ref (a 0)), (1, .int (iI kind))]) hx hb dX7_many_8 rfl hl (by decide) rfl (fun ls hl => ?_)
  obtain ⟨I7, μ8, h9, h10⟩ := h2
  refine zr_loop (G := G) (σ := Int × Int) (fun x_6 => (rg x_6.1 ∧ rg x_6.2) ∧ I7 x_6.1 x_6.2) (fun x_6 => μ8 x_6.1 x_6.2) (fun x_6 => W7 G a s) (fun x_6 => [(3, .int (iI x_6.2)), (2, .int (iI x_6.1)), (0, .ref (a 0)), (1, .int (iI kind))]) ((0, nxP (s.2 0) (0 : Int) kind ((s.2 0) 3).toNat)) ⟨⟨rg_0, r5⟩, h9⟩ hP hD hS (lv_sub hl [0, 1, 2, 3] rfl) ?_
  clear hP hD hS hl
  intro x_6 H locs ls ih11 h12 hP hD hS hl
  obtain ⟨x2_6, x3_6⟩ := x_6
  obtain ⟨⟨rx2_6, rx3_6⟩, h12⟩ := h12
  have h13 := h10 x2_6 x3_6 rx2_6 rx3_6 h12
  have hP : va_P G.1 vwCl (W7 G a s) H := hP
  have hD : va_D A (W7 G a s) := hD
  have hl : lv_has ls 4 [(3, .int (iI x3_6)), (2, .int (iI x2_6)), (0, .ref (a 0)), (1, .int (iI kind))] := hl
  refine lv_iload_n hx hb dX7_many_9 rfl (lv_at hl 0 rfl) ?_
  refine lv_bipush (v := iI (-6)) hx hb dX7_many_10 (by decide) ?_
  refine zr_icmp_eq (tgt := 28) (x := x3_6) (y := (-6)) hx hb rx3_6 rg_m6 dX7_many_12 (by decide) (fun c14 => ?_) (fun c14 => ?_)
  · have h17 := h13.1 c14
    refine lv_iload_n hx hb dX7_many_28 rfl (lv_at hl 1 rfl) ?_
    exact zr_iret (z := x2_6) hx hb hr hlocks hK () hP hD hS dX7_many_29 ⟨rx2_6, h17⟩
  · have h18 := h13.2 c14
    obtain ⟨r19, h20⟩ := h18
    refine zr_iinc (x := x2_6) (lv' := [(2, .int (iI (x2_6 + 1))), (3, .int (iI x3_6)), (0, .ref (a 0)), (1, .int (iI kind))]) hx hb dX7_many_15 hl (k := 1) rfl (by decide) rfl (fun ls hl => ?_)
    refine lv_aload_n hx hb dX7_many_18 rfl (lv_at hl 2 rfl) ?_
    refine lv_iload_n hx hb dX7_many_19 rfl (lv_at hl 1 rfl) ?_
    refine lv_iload_n hx hb dX7_many_20 rfl (lv_at hl 3 rfl) ?_
    refine zc_vi (As := [.int (iI x3_6), .int (iI kind)]) (rest := []) (w2 := fun u_21 => W7 G a s) (c_X7_nextPlace l G a s x3_6 kind r_s rx3_6 r_kind b1) ⟨hx, hb, hml, hown, hts⟩ (cwV 2 hts gX7_many_X7_nextPlace rfl rfl rfl hdX7_nextPlace ⟨Nat.le_of_ble_eq_true rfl, Nat.le_of_ble_eq_true rfl⟩) hK hP hD hS hA (q0 := 0) rfl rfl [0, 1, 2, 3, 4, 5, 6] [] [0, 1, 2, 3, 4, 5, 6] rfl rfl rfl rfl (by decide) (fun _ => rfl) rfl rfl hl.1 rfl (Nat.le_of_ble_eq_true rfl) dX7_many_21 ⟨Nat.zero_le _, Nat.zero_le _⟩ (fun z22 u_21 H locs hw hP hD hS => ?_)
    obtain ⟨rfl, r23⟩ := hw
    have hP : va_P G.1 vwCl (W7 G a s) H := hP
    have hD : va_D A (W7 G a s) := hD
    refine lv_istore_n (lv' := [(3, .int (iI (nxP (s.2 0) x3_6 kind ((s.2 0) 3).toNat))), (2, .int (iI (x2_6 + 1))), (0, .ref (a 0)), (1, .int (iI kind))]) hx hb dX7_many_24 rfl hl (by decide) rfl (fun ls hl => ?_)
    refine lv_goto (tgt := 9) hx hb dX7_many_25 (by decide) ?_
    obtain ⟨h24, h25⟩ := h20
    exact ih11 ((x2_6 + 1, nxP (s.2 0) x3_6 kind ((s.2 0) 3).toNat)) H locs ls ⟨⟨r19, r23⟩, h24⟩ h25 hP hD hS (lv_sub hl [0, 1, 2, 3] rfl)
theorem c_X7_many (l : Launch) (G : ZG) (a : Nat → Nat) (s : SS) (kind : Int)  (r_s : RG s) (r_kind : rg kind) (p0 : Vb (s.2 0)) (p1 : kind = 0 ∨ kind = 1) : ZI l G yX7_many wsX7_many 2 46 [.ref (a 0), .int (iI kind)] (W7 G a s) (fun _ : Unit => W7 G a s) (fun (z : Int) (_ : Unit) => z = (manyZ (s.2 0) kind) ∧ rg z) := by
  refine ZI.fn (w1 := fun u : Unit => W7 G a s) (fun z u hq => ?_) (c0_X7_many l G a s kind (fun z => z = (manyZ (s.2 0) kind)) r_s r_kind (sp_X7_many s kind r_s r_kind p0 p1))
  obtain ⟨rz, ez⟩ := hq
  exact ⟨rfl, ⟨ez, rz⟩⟩
theorem hdX7_runMany : yX7_runMany.cls = RX7 ∧ yX7_runMany.cls ≠ "java/lang/invoke/MethodHandle" ∧ yX7_runMany.cls ≠ "java/lang/invoke/VarHandle" ∧ (parseMethodDescriptor yX7_runMany.desc).map (fun d => d.parameters.length) = some 0 := by decide +kernel
set_option maxRecDepth 100000 in
set_option maxHeartbeats 4000000 in
theorem c0_X7_runMany (l : Launch) (G : ZG) (a : Nat → Nat) (s : SS)  (P : Int → Prop) (r_s : RG s)  (hwp : wp_X7_runMany s P) : ZI l G yX7_runMany wsX7_runMany 3 69 [.ref (a 0)] (W7 G a s) (fun u : Unit => W7 G a s) (fun (z : Int) (u : Unit) => rg z ∧ P z) := by
  unfold wp_X7_runMany at hwp
  refine zm_i (cc := cX7_runMany) (maxL := 1) (ret := some .int) (own := RX7) (lvs := [(0, .ref (a 0))]) (by decide) rfl rfl (Nat.le_of_ble_eq_true rfl) rfl ?_
  intro p e sT m args below meth c ls A hx hb hr hml hown hts hlocks hK hP hD hS hA hl
  refine lv_aload_n hx hb dX7_runMany_0 rfl (lv_at hl 0 rfl) ?_
  refine lv_iconst (v := iI 0) hx hb dX7_runMany_1 rfl ?_
  obtain ⟨b1, h2⟩ := hwp
  obtain ⟨b3, h4⟩ := h2
  refine zc_vi (As := [.int (iI 0)]) (rest := []) (w2 := fun u_5 => W7 G a s) (c_X7_many l G a s 0 r_s rg_0 b1 b3) ⟨hx, hb, hml, hown, hts⟩ (cwV 1 hts gX7_runMany_X7_many rfl rfl rfl hdX7_many ⟨Nat.le_of_ble_eq_true rfl, Nat.le_of_ble_eq_true rfl⟩) hK hP hD hS hA (q0 := 0) rfl rfl [0, 1, 2, 3, 4, 5, 6] [] [0, 1, 2, 3, 4, 5, 6] rfl rfl rfl rfl (by decide) (fun _ => rfl) rfl rfl hl.1 rfl (Nat.le_of_ble_eq_true rfl) dX7_runMany_2 ⟨Nat.zero_le _, Nat.zero_le _⟩ (fun z6 u_5 H locs hw hP hD hS => ?_)
  obtain ⟨rfl, r7⟩ := hw
  have hP : va_P G.1 vwCl (W7 G a s) H := hP
  have hD : va_D A (W7 G a s) := hD
  exact zr_iret (z := manyZ (s.2 0) (0 : Int)) hx hb hr hlocks hK () hP hD hS dX7_runMany_5 ⟨r7, h4⟩
theorem c_X7_runMany (l : Launch) (G : ZG) (a : Nat → Nat) (s : SS)   (r_s : RG s)  (p0 : Vb (s.2 0)) : ZI l G yX7_runMany wsX7_runMany 3 69 [.ref (a 0)] (W7 G a s) (fun _ : Unit => W7 G a s) (fun (z : Int) (_ : Unit) => z = (manyZ (s.2 0) 0) ∧ rg z) := by
  refine ZI.fn (w1 := fun u : Unit => W7 G a s) (fun z u hq => ?_) (c0_X7_runMany l G a s (fun z => z = (manyZ (s.2 0) 0)) r_s  (sp_X7_runMany s r_s  p0))
  obtain ⟨rz, ez⟩ := hq
  exact ⟨rfl, ⟨ez, rz⟩⟩
theorem imX7_becomesRun_X7 : ∀ w ∈ wsX70, w ∈ wsX7_becomesRun := fun _ h => (List.mem_cons_of_mem _ (List.mem_append_right _ h))
theorem hdX7_becomesRun : yX7_becomesRun.cls = RX7 ∧ yX7_becomesRun.cls ≠ "java/lang/invoke/MethodHandle" ∧ yX7_becomesRun.cls ≠ "java/lang/invoke/VarHandle" ∧ (parseMethodDescriptor yX7_becomesRun.desc).map (fun d => d.parameters.length) = some 1 := by decide +kernel
set_option maxRecDepth 100000 in
set_option maxHeartbeats 4000000 in
theorem c0_X7_becomesRun (l : Launch) (G : ZG) (a : Nat → Nat) (s : SS) (place : Int) (P : Int → SS → Prop) (r_s : RG s) (r_place : rg place) (hwp : wp_X7_becomesRun s place P) : ZI l G yX7_becomesRun wsX7_becomesRun 1 21 [.ref (a 0), .int (iI place)] (W7 G a s) (fun u : SS => W7 G a u) (fun (z : Int) (u : SS) => rg z ∧ RG u ∧ P z u) := by
  unfold wp_X7_becomesRun at hwp
  refine zm_i (cc := cX7_becomesRun) (maxL := 3) (ret := some .int) (own := RX7) (lvs := [(0, .ref (a 0)), (1, .int (iI place))]) (by decide) rfl rfl (Nat.le_of_ble_eq_true rfl) rfl ?_
  intro p e sT m args below meth c ls A hx hb hr hml hown hts hlocks hK hP hD hS hA hl
  have k1 := hts (.fieldLink RX7 7 "GrantedSortModel" "z" "[I") (List.mem_of_getElem? (i := 1) rfl)
  refine lv_iconst (v := iI 0) hx hb dX7_becomesRun_0 rfl ?_
  refine lv_istore_n (lv' := [(2, .int (iI 0)), (0, .ref (a 0)), (1, .int (iI place))]) hx hb dX7_becomesRun_1 rfl hl (by decide) rfl (fun ls hl => ?_)
  obtain ⟨I2, μ3, h4, h5⟩ := hwp
  refine zr_loop (G := G) (σ := Int × SS) (fun x_1 => (rg x_1.1 ∧ RG x_1.2) ∧ I2 x_1.1 x_1.2) (fun x_1 => μ3 x_1.1 x_1.2) (fun x_1 => W7 G a x_1.2) (fun x_1 => [(2, .int (iI x_1.1)), (0, .ref (a 0)), (1, .int (iI place))]) ((0, s)) ⟨⟨rg_0, r_s⟩, h4⟩ hP hD hS (lv_sub hl [0, 1, 2] rfl) ?_
  clear hP hD hS hl
  intro x_1 H locs ls ih6 h7 hP hD hS hl
  obtain ⟨x2_1, s0_1⟩ := x_1
  obtain ⟨⟨rx2_1, rs0_1⟩, h7⟩ := h7
  have h8 := h5 x2_1 s0_1 rx2_1 rs0_1 h7
  have hP : va_P G.1 vwCl (W7 G a s0_1) H := hP
  have hD : va_D A (W7 G a s0_1) := hD
  have hl : lv_has ls 3 [(2, .int (iI x2_1)), (0, .ref (a 0)), (1, .int (iI place))] := hl
  refine lv_iload_n hx hb dX7_becomesRun_2 rfl (lv_at hl 0 rfl) ?_
  refine lv_aload_n hx hb dX7_becomesRun_3 rfl (lv_at hl 1 rfl) ?_
  refine va_get (v := .ref (a 1)) (ci := 7) (C := RX7) (T := TX7) (N := 12) hx hb hts imX7_becomesRun_X7 hown hK hP 0 rfl rfl 0 (by decide) k1 (fun _ h9 => h9) rfl dX7_becomesRun_4 ?_
  refine lv_iconst (v := iI 3) hx hb dX7_becomesRun_7 rfl ?_
  refine zr_iald (n := 370) (f := (s0_1.2 0)) (i := 3) hx hb hK hP 1 rfl rg_3 ⟨by decide, by decide⟩ dX7_becomesRun_8 ?_
  refine zr_icmp_ge (tgt := 56) (x := x2_1) (y := (s0_1.2 0) 3) hx hb rx2_1 ((rs0_1.2 0) 3) dX7_becomesRun_9 (by decide) (fun c9 => ?_) (fun c9 => ?_)
  · have h12 := h8.2 c9
    refine lv_aload_n hx hb dX7_becomesRun_56 rfl (lv_at hl 1 rfl) ?_
    refine va_get (v := .ref (a 1)) (ci := 7) (C := RX7) (T := TX7) (N := 12) hx hb hts imX7_becomesRun_X7 hown hK hP 0 rfl rfl 0 (by decide) k1 (fun _ h9 => h9) rfl dX7_becomesRun_57 ?_
    refine lv_iconst (v := iI 4) hx hb dX7_becomesRun_60 rfl ?_
    refine lv_dup2_11 hx hb dX7_becomesRun_61 rfl rfl ?_
    refine zr_iald (n := 370) (f := (s0_1.2 0)) (i := 4) hx hb hK hP 1 rfl rg_4 ⟨by decide, by decide⟩ dX7_becomesRun_62 ?_
    refine lv_iconst (v := iI 1) hx hb dX7_becomesRun_63 rfl ?_
    refine zr_iadd (x := (s0_1.2 0) 4) (y := 1) hx hb dX7_becomesRun_64 ?_
    obtain ⟨r13, h14⟩ := h12
    refine zr_iast (n := 370) (f := (s0_1.2 0)) (i := 4) (x := ((s0_1.2 0) 4) + 1) hx hb hK hP hD hS 1 rfl rg_4 ⟨by decide, by decide⟩ dX7_becomesRun_65 (fun H locs hP hD hS => ?_)
    have hP : va_P G.1 vwCl (W7 G a (sA s0_1 0 (uZ (s0_1.2 0) 4 (((s0_1.2 0) 4) + 1)))) H := hP
    have hD : va_D A (W7 G a (sA s0_1 0 (uZ (s0_1.2 0) 4 (((s0_1.2 0) 4) + 1)))) := hD
    refine lv_aload_n hx hb dX7_becomesRun_66 rfl (lv_at hl 1 rfl) ?_
    refine va_get (v := .ref (a 1)) (ci := 7) (C := RX7) (T := TX7) (N := 12) hx hb hts imX7_becomesRun_X7 hown hK hP 0 rfl rfl 0 (by decide) k1 (fun _ h9 => h9) rfl dX7_becomesRun_67 ?_
    refine lv_iconst (v := iI 4) hx hb dX7_becomesRun_70 rfl ?_
    refine zr_iald (n := 370) (f := uZ (s0_1.2 0) 4 (((s0_1.2 0) 4) + 1)) (i := 4) hx hb hK hP 1 rfl rg_4 ⟨by decide, by decide⟩ dX7_becomesRun_71 ?_
    refine W.eq (g2 := F0 m 72 ls (.int (iI (((s0_1.2 0) 4) + 1)) :: [])) rfl ?_
    refine lv_iconst (v := iI 1) hx hb dX7_becomesRun_72 rfl ?_
    refine zr_isub (x := ((s0_1.2 0) 4) + 1) (y := 1) hx hb dX7_becomesRun_73 ?_
    obtain ⟨r15, h16⟩ := h14
    exact zr_iret (z := (((s0_1.2 0) 4) + 1) - 1) hx hb hr hlocks hK (sA s0_1 0 (uZ (s0_1.2 0) 4 (((s0_1.2 0) 4) + 1))) hP hD hS dX7_becomesRun_74 ⟨r15, (RG_A rs0_1 (rgA_u (i := 4) (rs0_1.2 0) r13)), h16⟩
  · have h17 := h8.1 c9
    refine lv_aload_n hx hb dX7_becomesRun_12 rfl (lv_at hl 1 rfl) ?_
    refine va_get (v := .ref (a 1)) (ci := 7) (C := RX7) (T := TX7) (N := 12) hx hb hts imX7_becomesRun_X7 hown hK hP 0 rfl rfl 0 (by decide) k1 (fun _ h9 => h9) rfl dX7_becomesRun_13 ?_
    refine lv_sipush (v := iI 250) hx hb dX7_becomesRun_16 (by decide) ?_
    refine lv_iload_n hx hb dX7_becomesRun_19 rfl (lv_at hl 0 rfl) ?_
    refine zr_iadd (x := 250) (y := x2_1) hx hb dX7_becomesRun_20 ?_
    obtain ⟨r18, h19⟩ := h17
    refine lv_aload_n hx hb dX7_becomesRun_21 rfl (lv_at hl 1 rfl) ?_
    refine lv_iload_n hx hb dX7_becomesRun_22 rfl (lv_at hl 0 rfl) ?_
    obtain ⟨b20, h21⟩ := h19
    refine zc_vi (As := [.int (iI x2_1)]) (rest := [.int (iI (250 + x2_1)), .ref (a 1)]) (w2 := fun u_22 => W7 G a s0_1) (c_X7_place l G a s0_1 x2_1 rs0_1 rx2_1 b20) ⟨hx, hb, hml, hown, hts⟩ (cwV 1 hts gX7_becomesRun_X7_place rfl rfl rfl hdX7_place ⟨Nat.le_of_ble_eq_true rfl, Nat.le_of_ble_eq_true rfl⟩) hK hP hD hS hA (q0 := 0) rfl rfl [0, 1, 2, 3, 4, 5, 6] [] [0, 1, 2, 3, 4, 5, 6] rfl rfl rfl rfl (by decide) (fun _ => rfl) rfl rfl hl.1 rfl (Nat.le_of_ble_eq_true rfl) dX7_becomesRun_23 ⟨Nat.zero_le _, Nat.zero_le _⟩ (fun z23 u_22 H locs hw hP hD hS => ?_)
    obtain ⟨rfl, r24⟩ := hw
    have hP : va_P G.1 vwCl (W7 G a s0_1) H := hP
    have hD : va_D A (W7 G a s0_1) := hD
    refine lv_iload_n hx hb dX7_becomesRun_26 rfl (lv_at hl 2 rfl) ?_
    refine zr_icmp_ne (tgt := 44) (x := (s0_1.2 0) (250 + x2_1)) (y := place) hx hb r24 r_place dX7_becomesRun_27 (by decide) (fun c25 => ?_) (fun c25 => ?_)
    · have h28 := h21.2 c25
      refine lv_aload_n hx hb dX7_becomesRun_44 rfl (lv_at hl 1 rfl) ?_
      refine lv_iload_n hx hb dX7_becomesRun_45 rfl (lv_at hl 0 rfl) ?_
      refine zc_vi (As := [.int (iI x2_1)]) (rest := [.int (iI (250 + x2_1)), .ref (a 1)]) (w2 := fun u_29 => W7 G a s0_1) (c_X7_place l G a s0_1 x2_1 rs0_1 rx2_1 b20) ⟨hx, hb, hml, hown, hts⟩ (cwV 1 hts gX7_becomesRun_X7_place rfl rfl rfl hdX7_place ⟨Nat.le_of_ble_eq_true rfl, Nat.le_of_ble_eq_true rfl⟩) hK hP hD hS hA (q0 := 0) rfl rfl [0, 1, 2, 3, 4, 5, 6] [] [0, 1, 2, 3, 4, 5, 6] rfl rfl rfl rfl (by decide) (fun _ => rfl) rfl rfl hl.1 rfl (Nat.le_of_ble_eq_true rfl) dX7_becomesRun_46 ⟨Nat.zero_le _, Nat.zero_le _⟩ (fun z30 u_29 H locs hw hP hD hS => ?_)
      obtain ⟨rfl, r31⟩ := hw
      have hP : va_P G.1 vwCl (W7 G a s0_1) H := hP
      have hD : va_D A (W7 G a s0_1) := hD
      obtain ⟨b32, h33⟩ := h28
      refine zr_iast (n := 370) (f := (s0_1.2 0)) (i := 250 + x2_1) (x := (s0_1.2 0) (250 + x2_1)) hx hb hK hP hD hS 1 rfl r18 b32 dX7_becomesRun_49 (fun H locs hP hD hS => ?_)
      have hP : va_P G.1 vwCl (W7 G a (sA s0_1 0 (uZ (s0_1.2 0) (250 + x2_1) ((s0_1.2 0) (250 + x2_1))))) H := hP
      have hD : va_D A (W7 G a (sA s0_1 0 (uZ (s0_1.2 0) (250 + x2_1) ((s0_1.2 0) (250 + x2_1))))) := hD
      obtain ⟨r34, h35⟩ := h33
      refine zr_iinc (x := x2_1) (lv' := [(2, .int (iI (x2_1 + 1))), (0, .ref (a 0)), (1, .int (iI place))]) hx hb dX7_becomesRun_50 hl (k := 0) rfl (by decide) rfl (fun ls hl => ?_)
      refine lv_goto (tgt := 2) hx hb dX7_becomesRun_53 (by decide) ?_
      obtain ⟨h36, h37⟩ := h35
      exact ih6 ((x2_1 + 1, sA s0_1 0 (uZ (s0_1.2 0) (250 + x2_1) ((s0_1.2 0) (250 + x2_1))))) H locs ls ⟨⟨r34, (RG_A rs0_1 (rgA_u (i := 250 + x2_1) (rs0_1.2 0) r31))⟩, h36⟩ h37 hP hD hS (lv_sub hl [0, 1, 2] rfl)
    · have h38 := h21.1 c25
      refine lv_bipush (v := iI 10) hx hb dX7_becomesRun_30 (by decide) ?_
      refine lv_iconst (v := iI 2) hx hb dX7_becomesRun_32 rfl ?_
      refine lv_aload_n hx hb dX7_becomesRun_33 rfl (lv_at hl 1 rfl) ?_
      refine va_get (v := .ref (a 1)) (ci := 7) (C := RX7) (T := TX7) (N := 12) hx hb hts imX7_becomesRun_X7 hown hK hP 0 rfl rfl 0 (by decide) k1 (fun _ h9 => h9) rfl dX7_becomesRun_34 ?_
      refine lv_iconst (v := iI 4) hx hb dX7_becomesRun_37 rfl ?_
      refine zr_iald (n := 370) (f := (s0_1.2 0)) (i := 4) hx hb hK hP 1 rfl rg_4 ⟨by decide, by decide⟩ dX7_becomesRun_38 ?_
      refine zr_imul (x := 2) (y := (s0_1.2 0) 4) hx hb dX7_becomesRun_39 ?_
      obtain ⟨r39, h40⟩ := h38
      refine zr_iadd (x := 10) (y := 2 * ((s0_1.2 0) 4)) hx hb dX7_becomesRun_40 ?_
      obtain ⟨r41, h42⟩ := h40
      refine lv_goto (tgt := 49) hx hb dX7_becomesRun_41 (by decide) ?_
      obtain ⟨b43, h44⟩ := h42
      refine zr_iast (n := 370) (f := (s0_1.2 0)) (i := 250 + x2_1) (x := 10 + (2 * ((s0_1.2 0) 4))) hx hb hK hP hD hS 1 rfl r18 b43 dX7_becomesRun_49 (fun H locs hP hD hS => ?_)
      have hP : va_P G.1 vwCl (W7 G a (sA s0_1 0 (uZ (s0_1.2 0) (250 + x2_1) (10 + (2 * ((s0_1.2 0) 4)))))) H := hP
      have hD : va_D A (W7 G a (sA s0_1 0 (uZ (s0_1.2 0) (250 + x2_1) (10 + (2 * ((s0_1.2 0) 4)))))) := hD
      obtain ⟨r45, h46⟩ := h44
      refine zr_iinc (x := x2_1) (lv' := [(2, .int (iI (x2_1 + 1))), (0, .ref (a 0)), (1, .int (iI place))]) hx hb dX7_becomesRun_50 hl (k := 0) rfl (by decide) rfl (fun ls hl => ?_)
      refine lv_goto (tgt := 2) hx hb dX7_becomesRun_53 (by decide) ?_
      obtain ⟨h47, h48⟩ := h46
      exact ih6 ((x2_1 + 1, sA s0_1 0 (uZ (s0_1.2 0) (250 + x2_1) (10 + (2 * ((s0_1.2 0) 4)))))) H locs ls ⟨⟨r45, (RG_A rs0_1 (rgA_u (i := 250 + x2_1) (rs0_1.2 0) r41))⟩, h47⟩ h48 hP hD hS (lv_sub hl [0, 1, 2] rfl)
theorem c_X7_becomesRun (l : Launch) (G : ZG) (a : Nat → Nat) (s : SS) (place : Int)  (r_s : RG s) (r_place : rg place) (p0 : Vb (s.2 0)) : ZI l G yX7_becomesRun wsX7_becomesRun 1 21 [.ref (a 0), .int (iI place)] (W7 G a s) (fun _ : Unit => W7 G a (sA s 0 (becm (s.2 0) place))) (fun (z : Int) (_ : Unit) => z = ((s.2 0) 4) ∧ rg z ∧ RG (sA s 0 (becm (s.2 0) place))) := by
  refine ZI.fn (w1 := fun u : SS => W7 G a u) (fun z u hq => ?_) (c0_X7_becomesRun l G a s place (fun z o0 => z = ((s.2 0) 4) ∧ o0 = (sA s 0 (becm (s.2 0) place))) r_s r_place (sp_X7_becomesRun s place r_s r_place p0))
  obtain ⟨rz, ro0, ⟨ez, eo0⟩⟩ := hq
  exact ⟨by rw [eo0], ⟨ez, rz, (by rw [← eo0]; exact ro0)⟩⟩
theorem imX7_writes_X7 : ∀ w ∈ wsX70, w ∈ wsX7_writes := fun _ h => (List.mem_cons_of_mem _ (List.mem_append_right _ h))
theorem hdX7_writes : yX7_writes.cls = RX7 ∧ yX7_writes.cls ≠ "java/lang/invoke/MethodHandle" ∧ yX7_writes.cls ≠ "java/lang/invoke/VarHandle" ∧ (parseMethodDescriptor yX7_writes.desc).map (fun d => d.parameters.length) = some 0 := by decide +kernel
set_option maxRecDepth 100000 in
set_option maxHeartbeats 4000000 in
theorem c0_X7_writes (l : Launch) (G : ZG) (a : Nat → Nat) (s : SS)  (P : Int → SS → Prop) (r_s : RG s)  (hwp : wp_X7_writes s P) : ZI l G yX7_writes wsX7_writes 2 44 [.ref (a 0)] (W7 G a s) (fun u : SS => W7 G a u) (fun (z : Int) (u : SS) => rg z ∧ RG u ∧ P z u) := by
  unfold wp_X7_writes at hwp
  refine zm_i (cc := cX7_writes) (maxL := 2) (ret := some .int) (own := RX7) (lvs := [(0, .ref (a 0))]) (by decide) rfl rfl (Nat.le_of_ble_eq_true rfl) rfl ?_
  intro p e sT m args below meth c ls A hx hb hr hml hown hts hlocks hK hP hD hS hA hl
  have k1 := hts (.fieldLink RX7 7 "GrantedSortModel" "z" "[I") (List.mem_of_getElem? (i := 1) rfl)
  refine lv_aload_n hx hb dX7_writes_0 rfl (lv_at hl 0 rfl) ?_
  refine lv_iconst (v := iI 1) hx hb dX7_writes_1 rfl ?_
  obtain ⟨b1, h2⟩ := hwp
  refine zc_vi (As := [.int (iI 1)]) (rest := []) (w2 := fun u_3 => W7 G a s) (c_X7_rowsAt l G a s 1 r_s rg_1 b1) ⟨hx, hb, hml, hown, hts⟩ (cwV 1 hts gX7_writes_X7_rowsAt rfl rfl rfl hdX7_rowsAt ⟨Nat.le_of_ble_eq_true rfl, Nat.le_of_ble_eq_true rfl⟩) hK hP hD hS hA (q0 := 0) rfl rfl [0, 1, 2, 3, 4, 5, 6] [] [0, 1, 2, 3, 4, 5, 6] rfl rfl rfl rfl (by decide) (fun _ => rfl) rfl rfl hl.1 rfl (Nat.le_of_ble_eq_true rfl) dX7_writes_2 ⟨Nat.zero_le _, Nat.zero_le _⟩ (fun z4 u_3 H locs hw hP hD hS => ?_)
  obtain ⟨rfl, r5⟩ := hw
  have hP : va_P G.1 vwCl (W7 G a s) H := hP
  have hD : va_D A (W7 G a s) := hD
  refine lv_istore_n (lv' := [(1, .int (iI (rowsAt (s.2 0) (1 : Int)))), (0, .ref (a 0))]) hx hb dX7_writes_5 rfl hl (by decide) rfl (fun ls hl => ?_)
  refine lv_iload_n hx hb dX7_writes_6 rfl (lv_at hl 0 rfl) ?_
  refine zr_if_ne (tgt := 13) (x := rowsAt (s.2 0) (1 : Int)) hx hb r5 dX7_writes_7 (by decide) (fun c6 => ?_) (fun c6 => ?_)
  · have h9 := h2.2 c6
    refine lv_aload_n hx hb dX7_writes_13 rfl (lv_at hl 1 rfl) ?_
    refine va_get (v := .ref (a 1)) (ci := 7) (C := RX7) (T := TX7) (N := 12) hx hb hts imX7_writes_X7 hown hK hP 0 rfl rfl 0 (by decide) k1 (fun _ h9 => h9) rfl dX7_writes_14 ?_
    refine lv_bipush (v := iI 7) hx hb dX7_writes_17 (by decide) ?_
    refine lv_dup2_11 hx hb dX7_writes_19 rfl rfl ?_
    refine zr_iald (n := 370) (f := (s.2 0)) (i := 7) hx hb hK hP 1 rfl rg_7 ⟨by decide, by decide⟩ dX7_writes_20 ?_
    refine lv_iload_n hx hb dX7_writes_21 rfl (lv_at hl 0 rfl) ?_
    refine zr_iadd (x := (s.2 0) 7) (y := rowsAt (s.2 0) (1 : Int)) hx hb dX7_writes_22 ?_
    obtain ⟨r10, h11⟩ := h9
    refine zr_iast (n := 370) (f := (s.2 0)) (i := 7) (x := ((s.2 0) 7) + (rowsAt (s.2 0) (1 : Int))) hx hb hK hP hD hS 1 rfl rg_7 ⟨by decide, by decide⟩ dX7_writes_23 (fun H locs hP hD hS => ?_)
    have hP : va_P G.1 vwCl (W7 G a (sA s 0 (uZ (s.2 0) 7 (((s.2 0) 7) + (rowsAt (s.2 0) (1 : Int)))))) H := hP
    have hD : va_D A (W7 G a (sA s 0 (uZ (s.2 0) 7 (((s.2 0) 7) + (rowsAt (s.2 0) (1 : Int)))))) := hD
    refine lv_aload_n hx hb dX7_writes_24 rfl (lv_at hl 1 rfl) ?_
    refine lv_iconst (v := iI 1) hx hb dX7_writes_25 rfl ?_
    obtain ⟨b12, h13⟩ := h11
    refine zc_vi (As := [.int (iI 1)]) (rest := []) (w2 := fun u_15 => W7 G a (sA s 0 (becm (uZ (s.2 0) 7 (((s.2 0) 7) + (rowsAt (s.2 0) (1 : Int)))) (1 : Int)))) (c_X7_becomesRun l G a (sA s 0 (uZ (s.2 0) 7 (((s.2 0) 7) + (rowsAt (s.2 0) (1 : Int))))) 1 (RG_A r_s (rgA_u (i := 7) (r_s.2 0) r10)) rg_1 b12) ⟨hx, hb, hml, hown, hts⟩ (cwV 1 hts gX7_writes_X7_becomesRun rfl rfl rfl hdX7_becomesRun ⟨Nat.le_of_ble_eq_true rfl, Nat.le_of_ble_eq_true rfl⟩) hK hP hD hS hA (q0 := 0) rfl rfl [0, 1, 2, 3, 4, 5, 6] [] [0, 1, 2, 3, 4, 5, 6] rfl rfl rfl rfl (by decide) (fun _ => rfl) rfl rfl hl.1 rfl (Nat.le_of_ble_eq_true rfl) dX7_writes_26 ⟨Nat.zero_le _, Nat.zero_le _⟩ (fun z16 u_15 H locs hw hP hD hS => ?_)
    obtain ⟨rfl, r17, r14⟩ := hw
    have hP : va_P G.1 vwCl (W7 G a (sA s 0 (becm (uZ (s.2 0) 7 (((s.2 0) 7) + (rowsAt (s.2 0) (1 : Int)))) (1 : Int)))) H := hP
    have hD : va_D A (W7 G a (sA s 0 (becm (uZ (s.2 0) 7 (((s.2 0) 7) + (rowsAt (s.2 0) (1 : Int)))) (1 : Int)))) := hD
    exact zr_iret (z := (uZ (s.2 0) 7 (((s.2 0) 7) + (rowsAt (s.2 0) (1 : Int)))) 4) hx hb hr hlocks hK (sA s 0 (becm (uZ (s.2 0) 7 (((s.2 0) 7) + (rowsAt (s.2 0) (1 : Int)))) (1 : Int))) hP hD hS dX7_writes_29 ⟨r17, (RG_A r_s (r14.2 0)), h13⟩
  · have h18 := h2.1 c6
    refine lv_bipush (v := iI (-6)) hx hb dX7_writes_10 (by decide) ?_
    exact zr_iret (z := (-6)) hx hb hr hlocks hK (s) hP hD hS dX7_writes_12 ⟨rg_m6, r_s, h18⟩
theorem c_X7_writes (l : Launch) (G : ZG) (a : Nat → Nat) (s : SS)   (r_s : RG s)  (p0 : Vb (s.2 0)) (p1 : rg ((s.2 0) 7 + rowsAt (s.2 0) 1)) : ZI l G yX7_writes wsX7_writes 2 44 [.ref (a 0)] (W7 G a s) (fun _ : Unit => W7 G a (sA s 0 (wriZ (s.2 0)))) (fun (z : Int) (_ : Unit) => z = (if rowsAt (s.2 0) 1 = 0 then -6 else (s.2 0) 4) ∧ rg z ∧ RG (sA s 0 (wriZ (s.2 0)))) := by
  refine ZI.fn (w1 := fun u : SS => W7 G a u) (fun z u hq => ?_) (c0_X7_writes l G a s (fun z o0 => z = (if rowsAt (s.2 0) 1 = 0 then -6 else (s.2 0) 4) ∧ o0 = (sA s 0 (wriZ (s.2 0)))) r_s  (sp_X7_writes s r_s  p0 p1))
  obtain ⟨rz, ro0, ⟨ez, eo0⟩⟩ := hq
  exact ⟨by rw [eo0], ⟨ez, rz, (by rw [← eo0]; exact ro0)⟩⟩
theorem imX7_sameInMemory_X7 : ∀ w ∈ wsX70, w ∈ wsX7_sameInMemory := fun _ h => (List.mem_cons_of_mem _ (List.mem_append_right _ h))
theorem hdX7_sameInMemory : yX7_sameInMemory.cls = RX7 ∧ yX7_sameInMemory.cls ≠ "java/lang/invoke/MethodHandle" ∧ yX7_sameInMemory.cls ≠ "java/lang/invoke/VarHandle" ∧ (parseMethodDescriptor yX7_sameInMemory.desc).map (fun d => d.parameters.length) = some 1 := by decide +kernel
set_option maxRecDepth 100000 in
set_option maxHeartbeats 4000000 in
theorem c0_X7_sameInMemory (l : Launch) (G : ZG) (a : Nat → Nat) (s : SS) (key : Int) (P : Int → Prop) (r_s : RG s) (r_key : rg key) (hwp : wp_X7_sameInMemory s key P) : ZI l G yX7_sameInMemory wsX7_sameInMemory 1 21 [.ref (a 0), .int (iI key)] (W7 G a s) (fun u : Unit => W7 G a s) (fun (z : Int) (u : Unit) => rg z ∧ P z) := by
  unfold wp_X7_sameInMemory at hwp
  refine zm_i (cc := cX7_sameInMemory) (maxL := 4) (ret := some .int) (own := RX7) (lvs := [(0, .ref (a 0)), (1, .int (iI key))]) (by decide) rfl rfl (Nat.le_of_ble_eq_true rfl) rfl ?_
  intro p e sT m args below meth c ls A hx hb hr hml hown hts hlocks hK hP hD hS hA hl
  have k1 := hts (.fieldLink RX7 7 "GrantedSortModel" "z" "[I") (List.mem_of_getElem? (i := 1) rfl)
  refine lv_bipush (v := iI (-6)) hx hb dX7_sameInMemory_0 (by decide) ?_
  refine lv_istore_n (lv' := [(2, .int (iI (-6))), (0, .ref (a 0)), (1, .int (iI key))]) hx hb dX7_sameInMemory_2 rfl hl (by decide) rfl (fun ls hl => ?_)
  refine lv_iconst (v := iI 0) hx hb dX7_sameInMemory_3 rfl ?_
  refine lv_istore_n (lv' := [(3, .int (iI 0)), (2, .int (iI (-6))), (0, .ref (a 0)), (1, .int (iI key))]) hx hb dX7_sameInMemory_4 rfl hl (by decide) rfl (fun ls hl => ?_)
  obtain ⟨I2, μ3, h4, h5⟩ := hwp
  refine zr_loop (G := G) (σ := Int × Int) (fun x_1 => (rg x_1.1 ∧ rg x_1.2) ∧ I2 x_1.1 x_1.2) (fun x_1 => μ3 x_1.1 x_1.2) (fun x_1 => W7 G a s) (fun x_1 => [(3, .int (iI x_1.2)), (2, .int (iI x_1.1)), (0, .ref (a 0)), (1, .int (iI key))]) (((-6), 0)) ⟨⟨rg_m6, rg_0⟩, h4⟩ hP hD hS (lv_sub hl [0, 1, 2, 3] rfl) ?_
  clear hP hD hS hl
  intro x_1 H locs ls ih6 h7 hP hD hS hl
  obtain ⟨x2_1, x3_1⟩ := x_1
  obtain ⟨⟨rx2_1, rx3_1⟩, h7⟩ := h7
  have h8 := h5 x2_1 x3_1 rx2_1 rx3_1 h7
  have hP : va_P G.1 vwCl (W7 G a s) H := hP
  have hD : va_D A (W7 G a s) := hD
  have hl : lv_has ls 4 [(3, .int (iI x3_1)), (2, .int (iI x2_1)), (0, .ref (a 0)), (1, .int (iI key))] := hl
  refine lv_iload_n hx hb dX7_sameInMemory_5 rfl (lv_at hl 0 rfl) ?_
  refine lv_aload_n hx hb dX7_sameInMemory_6 rfl (lv_at hl 2 rfl) ?_
  refine va_get (v := .ref (a 1)) (ci := 7) (C := RX7) (T := TX7) (N := 12) hx hb hts imX7_sameInMemory_X7 hown hK hP 0 rfl rfl 0 (by decide) k1 (fun _ h9 => h9) rfl dX7_sameInMemory_7 ?_
  refine lv_iconst (v := iI 3) hx hb dX7_sameInMemory_10 rfl ?_
  refine zr_iald (n := 370) (f := (s.2 0)) (i := 3) hx hb hK hP 1 rfl rg_3 ⟨by decide, by decide⟩ dX7_sameInMemory_11 ?_
  refine zr_icmp_ge (tgt := 49) (x := x3_1) (y := (s.2 0) 3) hx hb rx3_1 ((r_s.2 0) 3) dX7_sameInMemory_12 (by decide) (fun c9 => ?_) (fun c9 => ?_)
  · have h12 := h8.2 c9
    refine lv_iload_n hx hb dX7_sameInMemory_49 rfl (lv_at hl 1 rfl) ?_
    exact zr_iret (z := x2_1) hx hb hr hlocks hK () hP hD hS dX7_sameInMemory_50 ⟨rx2_1, h12⟩
  · have h13 := h8.1 c9
    refine lv_aload_n hx hb dX7_sameInMemory_15 rfl (lv_at hl 2 rfl) ?_
    refine lv_iload_n hx hb dX7_sameInMemory_16 rfl (lv_at hl 0 rfl) ?_
    obtain ⟨b14, h15⟩ := h13
    refine zc_vi (As := [.int (iI x3_1)]) (rest := []) (w2 := fun u_16 => W7 G a s) (c_X7_place l G a s x3_1 r_s rx3_1 b14) ⟨hx, hb, hml, hown, hts⟩ (cwV 1 hts gX7_sameInMemory_X7_place rfl rfl rfl hdX7_place ⟨Nat.le_of_ble_eq_true rfl, Nat.le_of_ble_eq_true rfl⟩) hK hP hD hS hA (q0 := 0) rfl rfl [0, 1, 2, 3, 4, 5, 6] [] [0, 1, 2, 3, 4, 5, 6] rfl rfl rfl rfl (by decide) (fun _ => rfl) rfl rfl hl.1 rfl (Nat.le_of_ble_eq_true rfl) dX7_sameInMemory_17 ⟨Nat.zero_le _, Nat.zero_le _⟩ (fun z17 u_16 H locs hw hP hD hS => ?_)
    obtain ⟨rfl, r18⟩ := hw
    have hP : va_P G.1 vwCl (W7 G a s) H := hP
    have hD : va_D A (W7 G a s) := hD
    refine lv_iconst (v := iI 1) hx hb dX7_sameInMemory_20 rfl ?_
    refine zr_icmp_ne (tgt := 41) (x := (s.2 0) (250 + x3_1)) (y := 1) hx hb r18 rg_1 dX7_sameInMemory_21 (by decide) (fun c19 => ?_) (fun c19 => ?_)
    · have h22 := h15.2 c19
      refine lv_iload_n hx hb dX7_sameInMemory_41 rfl (lv_at hl 1 rfl) ?_
      refine lv_istore_n (lv' := [(2, .int (iI x2_1)), (3, .int (iI x3_1)), (0, .ref (a 0)), (1, .int (iI key))]) hx hb dX7_sameInMemory_42 rfl hl (by decide) rfl (fun ls hl => ?_)
      obtain ⟨r23, h24⟩ := h22
      refine zr_iinc (x := x3_1) (lv' := [(3, .int (iI (x3_1 + 1))), (2, .int (iI x2_1)), (0, .ref (a 0)), (1, .int (iI key))]) hx hb dX7_sameInMemory_43 hl (k := 1) rfl (by decide) rfl (fun ls hl => ?_)
      refine lv_goto (tgt := 5) hx hb dX7_sameInMemory_46 (by decide) ?_
      obtain ⟨h25, h26⟩ := h24
      exact ih6 ((x2_1, x3_1 + 1)) H locs ls ⟨⟨rx2_1, r23⟩, h25⟩ h26 hP hD hS (lv_sub hl [0, 1, 2, 3] rfl)
    · have h27 := h15.1 c19
      refine lv_aload_n hx hb dX7_sameInMemory_24 rfl (lv_at hl 2 rfl) ?_
      refine va_get (v := .ref (a 1)) (ci := 7) (C := RX7) (T := TX7) (N := 12) hx hb hts imX7_sameInMemory_X7 hown hK hP 0 rfl rfl 0 (by decide) k1 (fun _ h9 => h9) rfl dX7_sameInMemory_25 ?_
      refine lv_bipush (v := iI 10) hx hb dX7_sameInMemory_28 (by decide) ?_
      refine lv_iload_n hx hb dX7_sameInMemory_30 rfl (lv_at hl 0 rfl) ?_
      refine zr_iadd (x := 10) (y := x3_1) hx hb dX7_sameInMemory_31 ?_
      obtain ⟨r28, h29⟩ := h27
      obtain ⟨b30, h31⟩ := h29
      refine zr_iald (n := 370) (f := (s.2 0)) (i := 10 + x3_1) hx hb hK hP 1 rfl r28 b30 dX7_sameInMemory_32 ?_
      refine lv_iload_n hx hb dX7_sameInMemory_33 rfl (lv_at hl 3 rfl) ?_
      refine zr_icmp_ne (tgt := 41) (x := (s.2 0) (10 + x3_1)) (y := key) hx hb ((r_s.2 0) (10 + x3_1)) r_key dX7_sameInMemory_34 (by decide) (fun c32 => ?_) (fun c32 => ?_)
      · have h35 := h31.2 c32
        refine lv_iload_n hx hb dX7_sameInMemory_41 rfl (lv_at hl 1 rfl) ?_
        refine lv_istore_n (lv' := [(2, .int (iI x2_1)), (3, .int (iI x3_1)), (0, .ref (a 0)), (1, .int (iI key))]) hx hb dX7_sameInMemory_42 rfl hl (by decide) rfl (fun ls hl => ?_)
        obtain ⟨r36, h37⟩ := h35
        refine zr_iinc (x := x3_1) (lv' := [(3, .int (iI (x3_1 + 1))), (2, .int (iI x2_1)), (0, .ref (a 0)), (1, .int (iI key))]) hx hb dX7_sameInMemory_43 hl (k := 1) rfl (by decide) rfl (fun ls hl => ?_)
        refine lv_goto (tgt := 5) hx hb dX7_sameInMemory_46 (by decide) ?_
        obtain ⟨h38, h39⟩ := h37
        exact ih6 ((x2_1, x3_1 + 1)) H locs ls ⟨⟨rx2_1, r36⟩, h38⟩ h39 hP hD hS (lv_sub hl [0, 1, 2, 3] rfl)
      · have h40 := h31.1 c32
        refine lv_iload_n hx hb dX7_sameInMemory_37 rfl (lv_at hl 0 rfl) ?_
        refine lv_goto (tgt := 42) hx hb dX7_sameInMemory_38 (by decide) ?_
        refine lv_istore_n (lv' := [(2, .int (iI x3_1)), (3, .int (iI x3_1)), (0, .ref (a 0)), (1, .int (iI key))]) hx hb dX7_sameInMemory_42 rfl hl (by decide) rfl (fun ls hl => ?_)
        obtain ⟨r41, h42⟩ := h40
        refine zr_iinc (x := x3_1) (lv' := [(3, .int (iI (x3_1 + 1))), (2, .int (iI x3_1)), (0, .ref (a 0)), (1, .int (iI key))]) hx hb dX7_sameInMemory_43 hl (k := 1) rfl (by decide) rfl (fun ls hl => ?_)
        refine lv_goto (tgt := 5) hx hb dX7_sameInMemory_46 (by decide) ?_
        obtain ⟨h43, h44⟩ := h42
        exact ih6 ((x3_1, x3_1 + 1)) H locs ls ⟨⟨rx3_1, r41⟩, h43⟩ h44 hP hD hS (lv_sub hl [0, 1, 2, 3] rfl)
theorem c_X7_sameInMemory (l : Launch) (G : ZG) (a : Nat → Nat) (s : SS) (key : Int)  (r_s : RG s) (r_key : rg key) (p0 : Vb (s.2 0)) : ZI l G yX7_sameInMemory wsX7_sameInMemory 1 21 [.ref (a 0), .int (iI key)] (W7 G a s) (fun _ : Unit => W7 G a s) (fun (z : Int) (_ : Unit) => z = (samZ (s.2 0) key ((s.2 0) 3).toNat) ∧ rg z) := by
  refine ZI.fn (w1 := fun u : Unit => W7 G a s) (fun z u hq => ?_) (c0_X7_sameInMemory l G a s key (fun z => z = (samZ (s.2 0) key ((s.2 0) 3).toNat)) r_s r_key (sp_X7_sameInMemory s key r_s r_key p0))
  obtain ⟨rz, ez⟩ := hq
  exact ⟨rfl, ⟨ez, rz⟩⟩
theorem imX7_adds_X7 : ∀ w ∈ wsX70, w ∈ wsX7_adds := fun _ h => (List.mem_cons_of_mem _ (List.mem_append_right _ h))
theorem hdX7_adds : yX7_adds.cls = RX7 ∧ yX7_adds.cls ≠ "java/lang/invoke/MethodHandle" ∧ yX7_adds.cls ≠ "java/lang/invoke/VarHandle" ∧ (parseMethodDescriptor yX7_adds.desc).map (fun d => d.parameters.length) = some 1 := by decide +kernel
set_option maxRecDepth 100000 in
set_option maxHeartbeats 4000000 in
theorem c0_X7_adds (l : Launch) (G : ZG) (a : Nat → Nat) (s : SS) (key : Int) (P : Int → SS → Prop) (r_s : RG s) (r_key : rg key) (hwp : wp_X7_adds s key P) : ZI l G yX7_adds wsX7_adds 3 65 [.ref (a 0), .int (iI key)] (W7 G a s) (fun u : SS => W7 G a u) (fun (z : Int) (u : SS) => rg z ∧ RG u ∧ P z u) := by
  unfold wp_X7_adds at hwp
  refine zm_i (cc := cX7_adds) (maxL := 4) (ret := some .int) (own := RX7) (lvs := [(0, .ref (a 0)), (1, .int (iI key))]) (by decide) rfl rfl (Nat.le_of_ble_eq_true rfl) rfl ?_
  intro p e sT m args below meth c ls A hx hb hr hml hown hts hlocks hK hP hD hS hA hl
  have k1 := hts (.fieldLink RX7 7 "GrantedSortModel" "z" "[I") (List.mem_of_getElem? (i := 1) rfl)
  refine lv_aload_n hx hb dX7_adds_0 rfl (lv_at hl 0 rfl) ?_
  refine va_get (v := .ref (a 1)) (ci := 7) (C := RX7) (T := TX7) (N := 12) hx hb hts imX7_adds_X7 hown hK hP 0 rfl rfl 0 (by decide) k1 (fun _ h9 => h9) rfl dX7_adds_1 ?_
  refine lv_iconst (v := iI 1) hx hb dX7_adds_4 rfl ?_
  refine zr_iald (n := 370) (f := (s.2 0)) (i := 1) hx hb hK hP 1 rfl rg_1 ⟨by decide, by decide⟩ dX7_adds_5 ?_
  refine lv_iconst (v := iI 1) hx hb dX7_adds_6 rfl ?_
  refine zr_icmp_ne (tgt := 18) (x := (s.2 0) 1) (y := 1) hx hb ((r_s.2 0) 1) rg_1 dX7_adds_7 (by decide) (fun c1 => ?_) (fun c1 => ?_)
  · have h4 := hwp.2 c1
    refine lv_bipush (v := iI (-6)) hx hb dX7_adds_18 (by decide) ?_
    refine lv_istore_n (lv' := [(2, .int (iI (-6))), (0, .ref (a 0)), (1, .int (iI key))]) hx hb dX7_adds_20 rfl hl (by decide) rfl (fun ls hl => ?_)
    refine lv_aload_n hx hb dX7_adds_21 rfl (lv_at hl 1 rfl) ?_
    refine va_get (v := .ref (a 1)) (ci := 7) (C := RX7) (T := TX7) (N := 12) hx hb hts imX7_adds_X7 hown hK hP 0 rfl rfl 0 (by decide) k1 (fun _ h9 => h9) rfl dX7_adds_22 ?_
    refine lv_iconst (v := iI 3) hx hb dX7_adds_25 rfl ?_
    refine zr_iald (n := 370) (f := (s.2 0)) (i := 3) hx hb hK hP 1 rfl rg_3 ⟨by decide, by decide⟩ dX7_adds_26 ?_
    refine lv_istore_n (lv' := [(3, .int (iI ((s.2 0) 3))), (2, .int (iI (-6))), (0, .ref (a 0)), (1, .int (iI key))]) hx hb dX7_adds_27 rfl hl (by decide) rfl (fun ls hl => ?_)
    refine lv_iload_n hx hb dX7_adds_28 rfl (lv_at hl 1 rfl) ?_
    refine lv_bipush (v := iI (-6)) hx hb dX7_adds_29 (by decide) ?_
    refine zr_icmp_ne (tgt := 53) (x := (-6)) (y := (-6)) hx hb rg_m6 rg_m6 dX7_adds_31 (by decide) (fun c => absurd (by decide) c) (fun _ => ?_)
    refine lv_aload_n hx hb dX7_adds_34 rfl (lv_at hl 2 rfl) ?_
    refine lv_iconst (v := iI 1) hx hb dX7_adds_35 rfl ?_
    obtain ⟨b5, h6⟩ := h4
    refine zc_vi (As := [.int (iI 1)]) (rest := []) (w2 := fun u_7 => W7 G a s) (c_X7_rowsAt l G a s 1 r_s rg_1 b5) ⟨hx, hb, hml, hown, hts⟩ (cwV 1 hts gX7_adds_X7_rowsAt rfl rfl rfl hdX7_rowsAt ⟨Nat.le_of_ble_eq_true rfl, Nat.le_of_ble_eq_true rfl⟩) hK hP hD hS hA (q0 := 0) rfl rfl [0, 1, 2, 3, 4, 5, 6] [] [0, 1, 2, 3, 4, 5, 6] rfl rfl rfl rfl (by decide) (fun _ => rfl) rfl rfl hl.1 rfl (Nat.le_of_ble_eq_true rfl) dX7_adds_36 ⟨Nat.zero_le _, Nat.zero_le _⟩ (fun z8 u_7 H locs hw hP hD hS => ?_)
    obtain ⟨rfl, r9⟩ := hw
    have hP : va_P G.1 vwCl (W7 G a s) H := hP
    have hD : va_D A (W7 G a s) := hD
    refine lv_aload_n hx hb dX7_adds_39 rfl (lv_at hl 2 rfl) ?_
    refine va_get (v := .ref (a 1)) (ci := 7) (C := RX7) (T := TX7) (N := 12) hx hb hts imX7_adds_X7 hown hK hP 0 rfl rfl 0 (by decide) k1 (fun _ h9 => h9) rfl dX7_adds_40 ?_
    refine lv_iconst (v := iI 0) hx hb dX7_adds_43 rfl ?_
    refine zr_iald (n := 370) (f := (s.2 0)) (i := 0) hx hb hK hP 1 rfl rg_0 ⟨by decide, by decide⟩ dX7_adds_44 ?_
    refine zr_icmp_ne (tgt := 53) (x := rowsAt (s.2 0) (1 : Int)) (y := (s.2 0) 0) hx hb r9 ((r_s.2 0) 0) dX7_adds_45 (by decide) (fun c10 => ?_) (fun c10 => ?_)
    · have h13 := h6.2 c10
      refine lv_aload_n hx hb dX7_adds_53 rfl (lv_at hl 2 rfl) ?_
      refine va_get (v := .ref (a 1)) (ci := 7) (C := RX7) (T := TX7) (N := 12) hx hb hts imX7_adds_X7 hown hK hP 0 rfl rfl 0 (by decide) k1 (fun _ h9 => h9) rfl dX7_adds_54 ?_
      refine lv_iconst (v := iI 3) hx hb dX7_adds_57 rfl ?_
      refine lv_dup2_11 hx hb dX7_adds_58 rfl rfl ?_
      refine zr_iald (n := 370) (f := (s.2 0)) (i := 3) hx hb hK hP 1 rfl rg_3 ⟨by decide, by decide⟩ dX7_adds_59 ?_
      refine lv_iconst (v := iI 1) hx hb dX7_adds_60 rfl ?_
      refine zr_iadd (x := (s.2 0) 3) (y := 1) hx hb dX7_adds_61 ?_
      obtain ⟨r14, h15⟩ := h13
      refine zr_iast (n := 370) (f := (s.2 0)) (i := 3) (x := ((s.2 0) 3) + 1) hx hb hK hP hD hS 1 rfl rg_3 ⟨by decide, by decide⟩ dX7_adds_62 (fun H locs hP hD hS => ?_)
      have hP : va_P G.1 vwCl (W7 G a (sA s 0 (uZ (s.2 0) 3 (((s.2 0) 3) + 1)))) H := hP
      have hD : va_D A (W7 G a (sA s 0 (uZ (s.2 0) 3 (((s.2 0) 3) + 1)))) := hD
      refine lv_aload_n hx hb dX7_adds_63 rfl (lv_at hl 2 rfl) ?_
      refine va_get (v := .ref (a 1)) (ci := 7) (C := RX7) (T := TX7) (N := 12) hx hb hts imX7_adds_X7 hown hK hP 0 rfl rfl 0 (by decide) k1 (fun _ h9 => h9) rfl dX7_adds_64 ?_
      refine lv_bipush (v := iI 10) hx hb dX7_adds_67 (by decide) ?_
      refine lv_iload_n hx hb dX7_adds_69 rfl (lv_at hl 0 rfl) ?_
      refine zr_iadd (x := 10) (y := (s.2 0) 3) hx hb dX7_adds_70 ?_
      obtain ⟨r16, h17⟩ := h15
      refine lv_iload_n hx hb dX7_adds_71 rfl (lv_at hl 3 rfl) ?_
      obtain ⟨b18, h19⟩ := h17
      refine zr_iast (n := 370) (f := uZ (s.2 0) 3 (((s.2 0) 3) + 1)) (i := 10 + ((s.2 0) 3)) (x := key) hx hb hK hP hD hS 1 rfl r16 b18 dX7_adds_72 (fun H locs hP hD hS => ?_)
      have hP : va_P G.1 vwCl (W7 G a (sA s 0 (uZ (uZ (s.2 0) 3 (((s.2 0) 3) + 1)) (10 + ((s.2 0) 3)) key))) H := hP
      have hD : va_D A (W7 G a (sA s 0 (uZ (uZ (s.2 0) 3 (((s.2 0) 3) + 1)) (10 + ((s.2 0) 3)) key))) := hD
      refine lv_aload_n hx hb dX7_adds_73 rfl (lv_at hl 2 rfl) ?_
      refine va_get (v := .ref (a 1)) (ci := 7) (C := RX7) (T := TX7) (N := 12) hx hb hts imX7_adds_X7 hown hK hP 0 rfl rfl 0 (by decide) k1 (fun _ h9 => h9) rfl dX7_adds_74 ?_
      refine lv_sipush (v := iI 130) hx hb dX7_adds_77 (by decide) ?_
      refine lv_iload_n hx hb dX7_adds_80 rfl (lv_at hl 0 rfl) ?_
      refine zr_iadd (x := 130) (y := (s.2 0) 3) hx hb dX7_adds_81 ?_
      obtain ⟨r20, h21⟩ := h19
      refine lv_iload_n hx hb dX7_adds_82 rfl (lv_at hl 1 rfl) ?_
      refine lv_bipush (v := iI (-6)) hx hb dX7_adds_83 (by decide) ?_
      refine zr_icmp_ne (tgt := 92) (x := (-6)) (y := (-6)) hx hb rg_m6 rg_m6 dX7_adds_85 (by decide) (fun c => absurd (by decide) c) (fun _ => ?_)
      refine lv_iconst (v := iI 1) hx hb dX7_adds_88 rfl ?_
      refine lv_goto (tgt := 93) hx hb dX7_adds_89 (by decide) ?_
      obtain ⟨b22, h23⟩ := h21
      refine zr_iast (n := 370) (f := uZ (uZ (s.2 0) 3 (((s.2 0) 3) + 1)) (10 + ((s.2 0) 3)) key) (i := 130 + ((s.2 0) 3)) (x := 1) hx hb hK hP hD hS 1 rfl r20 b22 dX7_adds_93 (fun H locs hP hD hS => ?_)
      have hP : va_P G.1 vwCl (W7 G a (sA s 0 (uZ (uZ (uZ (s.2 0) 3 (((s.2 0) 3) + 1)) (10 + ((s.2 0) 3)) key) (130 + ((s.2 0) 3)) 1))) H := hP
      have hD : va_D A (W7 G a (sA s 0 (uZ (uZ (uZ (s.2 0) 3 (((s.2 0) 3) + 1)) (10 + ((s.2 0) 3)) key) (130 + ((s.2 0) 3)) 1))) := hD
      refine lv_aload_n hx hb dX7_adds_94 rfl (lv_at hl 2 rfl) ?_
      refine va_get (v := .ref (a 1)) (ci := 7) (C := RX7) (T := TX7) (N := 12) hx hb hts imX7_adds_X7 hown hK hP 0 rfl rfl 0 (by decide) k1 (fun _ h9 => h9) rfl dX7_adds_95 ?_
      refine lv_sipush (v := iI 250) hx hb dX7_adds_98 (by decide) ?_
      refine lv_iload_n hx hb dX7_adds_101 rfl (lv_at hl 0 rfl) ?_
      refine zr_iadd (x := 250) (y := (s.2 0) 3) hx hb dX7_adds_102 ?_
      obtain ⟨r24, h25⟩ := h23
      refine lv_iload_n hx hb dX7_adds_103 rfl (lv_at hl 1 rfl) ?_
      refine lv_bipush (v := iI (-6)) hx hb dX7_adds_104 (by decide) ?_
      refine zr_icmp_ne (tgt := 113) (x := (-6)) (y := (-6)) hx hb rg_m6 rg_m6 dX7_adds_106 (by decide) (fun c => absurd (by decide) c) (fun _ => ?_)
      refine lv_iconst (v := iI 1) hx hb dX7_adds_109 rfl ?_
      refine lv_goto (tgt := 114) hx hb dX7_adds_110 (by decide) ?_
      obtain ⟨b26, h27⟩ := h25
      refine zr_iast (n := 370) (f := uZ (uZ (uZ (s.2 0) 3 (((s.2 0) 3) + 1)) (10 + ((s.2 0) 3)) key) (130 + ((s.2 0) 3)) 1) (i := 250 + ((s.2 0) 3)) (x := 1) hx hb hK hP hD hS 1 rfl r24 b26 dX7_adds_114 (fun H locs hP hD hS => ?_)
      have hP : va_P G.1 vwCl (W7 G a (sA s 0 (uZ (uZ (uZ (uZ (s.2 0) 3 (((s.2 0) 3) + 1)) (10 + ((s.2 0) 3)) key) (130 + ((s.2 0) 3)) 1) (250 + ((s.2 0) 3)) 1))) H := hP
      have hD : va_D A (W7 G a (sA s 0 (uZ (uZ (uZ (uZ (s.2 0) 3 (((s.2 0) 3) + 1)) (10 + ((s.2 0) 3)) key) (130 + ((s.2 0) 3)) 1) (250 + ((s.2 0) 3)) 1))) := hD
      refine lv_iload_n hx hb dX7_adds_115 rfl (lv_at hl 1 rfl) ?_
      refine lv_bipush (v := iI (-6)) hx hb dX7_adds_116 (by decide) ?_
      refine zr_icmp_eq (tgt := 135) (x := (-6)) (y := (-6)) hx hb rg_m6 rg_m6 dX7_adds_118 (by decide) (fun _ => ?_) (fun c => absurd (by decide) c)
      refine lv_iload_n hx hb dX7_adds_135 rfl (lv_at hl 0 rfl) ?_
      exact zr_iret (z := (s.2 0) 3) hx hb hr hlocks hK (sA s 0 (uZ (uZ (uZ (uZ (s.2 0) 3 (((s.2 0) 3) + 1)) (10 + ((s.2 0) 3)) key) (130 + ((s.2 0) 3)) 1) (250 + ((s.2 0) 3)) 1)) hP hD hS dX7_adds_136 ⟨((r_s.2 0) 3), (RG_A r_s (rgA_u (i := 250 + ((s.2 0) 3)) (rgA_u (i := 130 + ((s.2 0) 3)) (rgA_u (i := 10 + ((s.2 0) 3)) (rgA_u (i := 3) (r_s.2 0) r14) r_key) rg_1) rg_1)), h27⟩
    · have h28 := h6.1 c10
      refine lv_aload_n hx hb dX7_adds_48 rfl (lv_at hl 2 rfl) ?_
      obtain ⟨b29, h30⟩ := h28
      refine zc_vi (As := []) (rest := []) (w2 := fun u_32 => W7 G a (sA s 0 (wriZ (s.2 0)))) (c_X7_writes l G a s r_s b5 b29) ⟨hx, hb, hml, hown, hts⟩ (cwV 0 hts gX7_adds_X7_writes rfl rfl rfl hdX7_writes ⟨Nat.le_of_ble_eq_true rfl, Nat.le_of_ble_eq_true rfl⟩) hK hP hD hS hA (q0 := 0) rfl rfl [0, 1, 2, 3, 4, 5, 6] [] [0, 1, 2, 3, 4, 5, 6] rfl rfl rfl rfl (by decide) (fun _ => rfl) rfl rfl hl.1 rfl (Nat.le_of_ble_eq_true rfl) dX7_adds_49 ⟨Nat.zero_le _, Nat.zero_le _⟩ (fun z33 u_32 H locs hw hP hD hS => ?_)
      obtain ⟨rfl, r34, r31⟩ := hw
      have hP : va_P G.1 vwCl (W7 G a (sA s 0 (wriZ (s.2 0)))) H := hP
      have hD : va_D A (W7 G a (sA s 0 (wriZ (s.2 0)))) := hD
      refine lv_pop hx hb dX7_adds_52 rfl ?_
      refine lv_aload_n hx hb dX7_adds_53 rfl (lv_at hl 2 rfl) ?_
      refine va_get (v := .ref (a 1)) (ci := 7) (C := RX7) (T := TX7) (N := 12) hx hb hts imX7_adds_X7 hown hK hP 0 rfl rfl 0 (by decide) k1 (fun _ h9 => h9) rfl dX7_adds_54 ?_
      refine lv_iconst (v := iI 3) hx hb dX7_adds_57 rfl ?_
      refine lv_dup2_11 hx hb dX7_adds_58 rfl rfl ?_
      refine zr_iald (n := 370) (f := wriZ (s.2 0)) (i := 3) hx hb hK hP 1 rfl rg_3 ⟨by decide, by decide⟩ dX7_adds_59 ?_
      refine lv_iconst (v := iI 1) hx hb dX7_adds_60 rfl ?_
      refine zr_iadd (x := (wriZ (s.2 0)) 3) (y := 1) hx hb dX7_adds_61 ?_
      obtain ⟨r35, h36⟩ := h30
      refine zr_iast (n := 370) (f := wriZ (s.2 0)) (i := 3) (x := ((wriZ (s.2 0)) 3) + 1) hx hb hK hP hD hS 1 rfl rg_3 ⟨by decide, by decide⟩ dX7_adds_62 (fun H locs hP hD hS => ?_)
      have hP : va_P G.1 vwCl (W7 G a (sA s 0 (uZ (wriZ (s.2 0)) 3 (((wriZ (s.2 0)) 3) + 1)))) H := hP
      have hD : va_D A (W7 G a (sA s 0 (uZ (wriZ (s.2 0)) 3 (((wriZ (s.2 0)) 3) + 1)))) := hD
      refine lv_aload_n hx hb dX7_adds_63 rfl (lv_at hl 2 rfl) ?_
      refine va_get (v := .ref (a 1)) (ci := 7) (C := RX7) (T := TX7) (N := 12) hx hb hts imX7_adds_X7 hown hK hP 0 rfl rfl 0 (by decide) k1 (fun _ h9 => h9) rfl dX7_adds_64 ?_
      refine lv_bipush (v := iI 10) hx hb dX7_adds_67 (by decide) ?_
      refine lv_iload_n hx hb dX7_adds_69 rfl (lv_at hl 0 rfl) ?_
      refine zr_iadd (x := 10) (y := (s.2 0) 3) hx hb dX7_adds_70 ?_
      obtain ⟨r37, h38⟩ := h36
      refine lv_iload_n hx hb dX7_adds_71 rfl (lv_at hl 3 rfl) ?_
      obtain ⟨b39, h40⟩ := h38
      refine zr_iast (n := 370) (f := uZ (wriZ (s.2 0)) 3 (((wriZ (s.2 0)) 3) + 1)) (i := 10 + ((s.2 0) 3)) (x := key) hx hb hK hP hD hS 1 rfl r37 b39 dX7_adds_72 (fun H locs hP hD hS => ?_)
      have hP : va_P G.1 vwCl (W7 G a (sA s 0 (uZ (uZ (wriZ (s.2 0)) 3 (((wriZ (s.2 0)) 3) + 1)) (10 + ((s.2 0) 3)) key))) H := hP
      have hD : va_D A (W7 G a (sA s 0 (uZ (uZ (wriZ (s.2 0)) 3 (((wriZ (s.2 0)) 3) + 1)) (10 + ((s.2 0) 3)) key))) := hD
      refine lv_aload_n hx hb dX7_adds_73 rfl (lv_at hl 2 rfl) ?_
      refine va_get (v := .ref (a 1)) (ci := 7) (C := RX7) (T := TX7) (N := 12) hx hb hts imX7_adds_X7 hown hK hP 0 rfl rfl 0 (by decide) k1 (fun _ h9 => h9) rfl dX7_adds_74 ?_
      refine lv_sipush (v := iI 130) hx hb dX7_adds_77 (by decide) ?_
      refine lv_iload_n hx hb dX7_adds_80 rfl (lv_at hl 0 rfl) ?_
      refine zr_iadd (x := 130) (y := (s.2 0) 3) hx hb dX7_adds_81 ?_
      obtain ⟨r41, h42⟩ := h40
      refine lv_iload_n hx hb dX7_adds_82 rfl (lv_at hl 1 rfl) ?_
      refine lv_bipush (v := iI (-6)) hx hb dX7_adds_83 (by decide) ?_
      refine zr_icmp_ne (tgt := 92) (x := (-6)) (y := (-6)) hx hb rg_m6 rg_m6 dX7_adds_85 (by decide) (fun c => absurd (by decide) c) (fun _ => ?_)
      refine lv_iconst (v := iI 1) hx hb dX7_adds_88 rfl ?_
      refine lv_goto (tgt := 93) hx hb dX7_adds_89 (by decide) ?_
      obtain ⟨b43, h44⟩ := h42
      refine zr_iast (n := 370) (f := uZ (uZ (wriZ (s.2 0)) 3 (((wriZ (s.2 0)) 3) + 1)) (10 + ((s.2 0) 3)) key) (i := 130 + ((s.2 0) 3)) (x := 1) hx hb hK hP hD hS 1 rfl r41 b43 dX7_adds_93 (fun H locs hP hD hS => ?_)
      have hP : va_P G.1 vwCl (W7 G a (sA s 0 (uZ (uZ (uZ (wriZ (s.2 0)) 3 (((wriZ (s.2 0)) 3) + 1)) (10 + ((s.2 0) 3)) key) (130 + ((s.2 0) 3)) 1))) H := hP
      have hD : va_D A (W7 G a (sA s 0 (uZ (uZ (uZ (wriZ (s.2 0)) 3 (((wriZ (s.2 0)) 3) + 1)) (10 + ((s.2 0) 3)) key) (130 + ((s.2 0) 3)) 1))) := hD
      refine lv_aload_n hx hb dX7_adds_94 rfl (lv_at hl 2 rfl) ?_
      refine va_get (v := .ref (a 1)) (ci := 7) (C := RX7) (T := TX7) (N := 12) hx hb hts imX7_adds_X7 hown hK hP 0 rfl rfl 0 (by decide) k1 (fun _ h9 => h9) rfl dX7_adds_95 ?_
      refine lv_sipush (v := iI 250) hx hb dX7_adds_98 (by decide) ?_
      refine lv_iload_n hx hb dX7_adds_101 rfl (lv_at hl 0 rfl) ?_
      refine zr_iadd (x := 250) (y := (s.2 0) 3) hx hb dX7_adds_102 ?_
      obtain ⟨r45, h46⟩ := h44
      refine lv_iload_n hx hb dX7_adds_103 rfl (lv_at hl 1 rfl) ?_
      refine lv_bipush (v := iI (-6)) hx hb dX7_adds_104 (by decide) ?_
      refine zr_icmp_ne (tgt := 113) (x := (-6)) (y := (-6)) hx hb rg_m6 rg_m6 dX7_adds_106 (by decide) (fun c => absurd (by decide) c) (fun _ => ?_)
      refine lv_iconst (v := iI 1) hx hb dX7_adds_109 rfl ?_
      refine lv_goto (tgt := 114) hx hb dX7_adds_110 (by decide) ?_
      obtain ⟨b47, h48⟩ := h46
      refine zr_iast (n := 370) (f := uZ (uZ (uZ (wriZ (s.2 0)) 3 (((wriZ (s.2 0)) 3) + 1)) (10 + ((s.2 0) 3)) key) (130 + ((s.2 0) 3)) 1) (i := 250 + ((s.2 0) 3)) (x := 1) hx hb hK hP hD hS 1 rfl r45 b47 dX7_adds_114 (fun H locs hP hD hS => ?_)
      have hP : va_P G.1 vwCl (W7 G a (sA s 0 (uZ (uZ (uZ (uZ (wriZ (s.2 0)) 3 (((wriZ (s.2 0)) 3) + 1)) (10 + ((s.2 0) 3)) key) (130 + ((s.2 0) 3)) 1) (250 + ((s.2 0) 3)) 1))) H := hP
      have hD : va_D A (W7 G a (sA s 0 (uZ (uZ (uZ (uZ (wriZ (s.2 0)) 3 (((wriZ (s.2 0)) 3) + 1)) (10 + ((s.2 0) 3)) key) (130 + ((s.2 0) 3)) 1) (250 + ((s.2 0) 3)) 1))) := hD
      refine lv_iload_n hx hb dX7_adds_115 rfl (lv_at hl 1 rfl) ?_
      refine lv_bipush (v := iI (-6)) hx hb dX7_adds_116 (by decide) ?_
      refine zr_icmp_eq (tgt := 135) (x := (-6)) (y := (-6)) hx hb rg_m6 rg_m6 dX7_adds_118 (by decide) (fun _ => ?_) (fun c => absurd (by decide) c)
      refine lv_iload_n hx hb dX7_adds_135 rfl (lv_at hl 0 rfl) ?_
      exact zr_iret (z := (s.2 0) 3) hx hb hr hlocks hK (sA s 0 (uZ (uZ (uZ (uZ (wriZ (s.2 0)) 3 (((wriZ (s.2 0)) 3) + 1)) (10 + ((s.2 0) 3)) key) (130 + ((s.2 0) 3)) 1) (250 + ((s.2 0) 3)) 1)) hP hD hS dX7_adds_136 ⟨((r_s.2 0) 3), (RG_A r_s (rgA_u (i := 250 + ((s.2 0) 3)) (rgA_u (i := 130 + ((s.2 0) 3)) (rgA_u (i := 10 + ((s.2 0) 3)) (rgA_u (i := 3) (r31.2 0) r35) r_key) rg_1) rg_1)), h48⟩
  · have h49 := hwp.1 c1
    refine lv_aload_n hx hb dX7_adds_10 rfl (lv_at hl 0 rfl) ?_
    refine lv_iload_n hx hb dX7_adds_11 rfl (lv_at hl 1 rfl) ?_
    obtain ⟨b50, h51⟩ := h49
    refine zc_vi (As := [.int (iI key)]) (rest := []) (w2 := fun u_52 => W7 G a s) (c_X7_sameInMemory l G a s key r_s r_key b50) ⟨hx, hb, hml, hown, hts⟩ (cwV 1 hts gX7_adds_X7_sameInMemory rfl rfl rfl hdX7_sameInMemory ⟨Nat.le_of_ble_eq_true rfl, Nat.le_of_ble_eq_true rfl⟩) hK hP hD hS hA (q0 := 0) rfl rfl [0, 1, 2, 3, 4, 5, 6] [] [0, 1, 2, 3, 4, 5, 6] rfl rfl rfl rfl (by decide) (fun _ => rfl) rfl rfl hl.1 rfl (Nat.le_of_ble_eq_true rfl) dX7_adds_12 ⟨Nat.zero_le _, Nat.zero_le _⟩ (fun z53 u_52 H locs hw hP hD hS => ?_)
    obtain ⟨rfl, r54⟩ := hw
    have hP : va_P G.1 vwCl (W7 G a s) H := hP
    have hD : va_D A (W7 G a s) := hD
    refine lv_goto (tgt := 20) hx hb dX7_adds_15 (by decide) ?_
    refine lv_istore_n (lv' := [(2, .int (iI (samZ (s.2 0) key ((s.2 0) 3).toNat))), (0, .ref (a 0)), (1, .int (iI key))]) hx hb dX7_adds_20 rfl hl (by decide) rfl (fun ls hl => ?_)
    refine lv_aload_n hx hb dX7_adds_21 rfl (lv_at hl 1 rfl) ?_
    refine va_get (v := .ref (a 1)) (ci := 7) (C := RX7) (T := TX7) (N := 12) hx hb hts imX7_adds_X7 hown hK hP 0 rfl rfl 0 (by decide) k1 (fun _ h9 => h9) rfl dX7_adds_22 ?_
    refine lv_iconst (v := iI 3) hx hb dX7_adds_25 rfl ?_
    refine zr_iald (n := 370) (f := (s.2 0)) (i := 3) hx hb hK hP 1 rfl rg_3 ⟨by decide, by decide⟩ dX7_adds_26 ?_
    refine lv_istore_n (lv' := [(3, .int (iI ((s.2 0) 3))), (2, .int (iI (samZ (s.2 0) key ((s.2 0) 3).toNat))), (0, .ref (a 0)), (1, .int (iI key))]) hx hb dX7_adds_27 rfl hl (by decide) rfl (fun ls hl => ?_)
    refine lv_iload_n hx hb dX7_adds_28 rfl (lv_at hl 1 rfl) ?_
    refine lv_bipush (v := iI (-6)) hx hb dX7_adds_29 (by decide) ?_
    refine zr_icmp_ne (tgt := 53) (x := samZ (s.2 0) key ((s.2 0) 3).toNat) (y := (-6)) hx hb r54 rg_m6 dX7_adds_31 (by decide) (fun c55 => ?_) (fun c55 => ?_)
    · have h58 := h51.2 c55
      refine lv_aload_n hx hb dX7_adds_53 rfl (lv_at hl 2 rfl) ?_
      refine va_get (v := .ref (a 1)) (ci := 7) (C := RX7) (T := TX7) (N := 12) hx hb hts imX7_adds_X7 hown hK hP 0 rfl rfl 0 (by decide) k1 (fun _ h9 => h9) rfl dX7_adds_54 ?_
      refine lv_iconst (v := iI 3) hx hb dX7_adds_57 rfl ?_
      refine lv_dup2_11 hx hb dX7_adds_58 rfl rfl ?_
      refine zr_iald (n := 370) (f := (s.2 0)) (i := 3) hx hb hK hP 1 rfl rg_3 ⟨by decide, by decide⟩ dX7_adds_59 ?_
      refine lv_iconst (v := iI 1) hx hb dX7_adds_60 rfl ?_
      refine zr_iadd (x := (s.2 0) 3) (y := 1) hx hb dX7_adds_61 ?_
      obtain ⟨r59, h60⟩ := h58
      refine zr_iast (n := 370) (f := (s.2 0)) (i := 3) (x := ((s.2 0) 3) + 1) hx hb hK hP hD hS 1 rfl rg_3 ⟨by decide, by decide⟩ dX7_adds_62 (fun H locs hP hD hS => ?_)
      have hP : va_P G.1 vwCl (W7 G a (sA s 0 (uZ (s.2 0) 3 (((s.2 0) 3) + 1)))) H := hP
      have hD : va_D A (W7 G a (sA s 0 (uZ (s.2 0) 3 (((s.2 0) 3) + 1)))) := hD
      refine lv_aload_n hx hb dX7_adds_63 rfl (lv_at hl 2 rfl) ?_
      refine va_get (v := .ref (a 1)) (ci := 7) (C := RX7) (T := TX7) (N := 12) hx hb hts imX7_adds_X7 hown hK hP 0 rfl rfl 0 (by decide) k1 (fun _ h9 => h9) rfl dX7_adds_64 ?_
      refine lv_bipush (v := iI 10) hx hb dX7_adds_67 (by decide) ?_
      refine lv_iload_n hx hb dX7_adds_69 rfl (lv_at hl 0 rfl) ?_
      refine zr_iadd (x := 10) (y := (s.2 0) 3) hx hb dX7_adds_70 ?_
      obtain ⟨r61, h62⟩ := h60
      refine lv_iload_n hx hb dX7_adds_71 rfl (lv_at hl 3 rfl) ?_
      obtain ⟨b63, h64⟩ := h62
      refine zr_iast (n := 370) (f := uZ (s.2 0) 3 (((s.2 0) 3) + 1)) (i := 10 + ((s.2 0) 3)) (x := key) hx hb hK hP hD hS 1 rfl r61 b63 dX7_adds_72 (fun H locs hP hD hS => ?_)
      have hP : va_P G.1 vwCl (W7 G a (sA s 0 (uZ (uZ (s.2 0) 3 (((s.2 0) 3) + 1)) (10 + ((s.2 0) 3)) key))) H := hP
      have hD : va_D A (W7 G a (sA s 0 (uZ (uZ (s.2 0) 3 (((s.2 0) 3) + 1)) (10 + ((s.2 0) 3)) key))) := hD
      refine lv_aload_n hx hb dX7_adds_73 rfl (lv_at hl 2 rfl) ?_
      refine va_get (v := .ref (a 1)) (ci := 7) (C := RX7) (T := TX7) (N := 12) hx hb hts imX7_adds_X7 hown hK hP 0 rfl rfl 0 (by decide) k1 (fun _ h9 => h9) rfl dX7_adds_74 ?_
      refine lv_sipush (v := iI 130) hx hb dX7_adds_77 (by decide) ?_
      refine lv_iload_n hx hb dX7_adds_80 rfl (lv_at hl 0 rfl) ?_
      refine zr_iadd (x := 130) (y := (s.2 0) 3) hx hb dX7_adds_81 ?_
      obtain ⟨r65, h66⟩ := h64
      refine lv_iload_n hx hb dX7_adds_82 rfl (lv_at hl 1 rfl) ?_
      refine lv_bipush (v := iI (-6)) hx hb dX7_adds_83 (by decide) ?_
      refine zr_icmp_ne (tgt := 92) (x := samZ (s.2 0) key ((s.2 0) 3).toNat) (y := (-6)) hx hb r54 rg_m6 dX7_adds_85 (by decide) (fun _ => ?_) (fun c => absurd c c55)
      refine lv_iconst (v := iI 0) hx hb dX7_adds_92 rfl ?_
      obtain ⟨b67, h68⟩ := h66
      refine zr_iast (n := 370) (f := uZ (uZ (s.2 0) 3 (((s.2 0) 3) + 1)) (10 + ((s.2 0) 3)) key) (i := 130 + ((s.2 0) 3)) (x := 0) hx hb hK hP hD hS 1 rfl r65 b67 dX7_adds_93 (fun H locs hP hD hS => ?_)
      have hP : va_P G.1 vwCl (W7 G a (sA s 0 (uZ (uZ (uZ (s.2 0) 3 (((s.2 0) 3) + 1)) (10 + ((s.2 0) 3)) key) (130 + ((s.2 0) 3)) 0))) H := hP
      have hD : va_D A (W7 G a (sA s 0 (uZ (uZ (uZ (s.2 0) 3 (((s.2 0) 3) + 1)) (10 + ((s.2 0) 3)) key) (130 + ((s.2 0) 3)) 0))) := hD
      refine lv_aload_n hx hb dX7_adds_94 rfl (lv_at hl 2 rfl) ?_
      refine va_get (v := .ref (a 1)) (ci := 7) (C := RX7) (T := TX7) (N := 12) hx hb hts imX7_adds_X7 hown hK hP 0 rfl rfl 0 (by decide) k1 (fun _ h9 => h9) rfl dX7_adds_95 ?_
      refine lv_sipush (v := iI 250) hx hb dX7_adds_98 (by decide) ?_
      refine lv_iload_n hx hb dX7_adds_101 rfl (lv_at hl 0 rfl) ?_
      refine zr_iadd (x := 250) (y := (s.2 0) 3) hx hb dX7_adds_102 ?_
      obtain ⟨r69, h70⟩ := h68
      refine lv_iload_n hx hb dX7_adds_103 rfl (lv_at hl 1 rfl) ?_
      refine lv_bipush (v := iI (-6)) hx hb dX7_adds_104 (by decide) ?_
      refine zr_icmp_ne (tgt := 113) (x := samZ (s.2 0) key ((s.2 0) 3).toNat) (y := (-6)) hx hb r54 rg_m6 dX7_adds_106 (by decide) (fun _ => ?_) (fun c => absurd c c55)
      refine lv_iconst (v := iI 0) hx hb dX7_adds_113 rfl ?_
      obtain ⟨b71, h72⟩ := h70
      refine zr_iast (n := 370) (f := uZ (uZ (uZ (s.2 0) 3 (((s.2 0) 3) + 1)) (10 + ((s.2 0) 3)) key) (130 + ((s.2 0) 3)) 0) (i := 250 + ((s.2 0) 3)) (x := 0) hx hb hK hP hD hS 1 rfl r69 b71 dX7_adds_114 (fun H locs hP hD hS => ?_)
      have hP : va_P G.1 vwCl (W7 G a (sA s 0 (uZ (uZ (uZ (uZ (s.2 0) 3 (((s.2 0) 3) + 1)) (10 + ((s.2 0) 3)) key) (130 + ((s.2 0) 3)) 0) (250 + ((s.2 0) 3)) 0))) H := hP
      have hD : va_D A (W7 G a (sA s 0 (uZ (uZ (uZ (uZ (s.2 0) 3 (((s.2 0) 3) + 1)) (10 + ((s.2 0) 3)) key) (130 + ((s.2 0) 3)) 0) (250 + ((s.2 0) 3)) 0))) := hD
      refine lv_iload_n hx hb dX7_adds_115 rfl (lv_at hl 1 rfl) ?_
      refine lv_bipush (v := iI (-6)) hx hb dX7_adds_116 (by decide) ?_
      refine zr_icmp_eq (tgt := 135) (x := samZ (s.2 0) key ((s.2 0) 3).toNat) (y := (-6)) hx hb r54 rg_m6 dX7_adds_118 (by decide) (fun c => absurd c c55) (fun _ => ?_)
      refine lv_aload_n hx hb dX7_adds_121 rfl (lv_at hl 2 rfl) ?_
      refine va_get (v := .ref (a 1)) (ci := 7) (C := RX7) (T := TX7) (N := 12) hx hb hts imX7_adds_X7 hown hK hP 0 rfl rfl 0 (by decide) k1 (fun _ h9 => h9) rfl dX7_adds_122 ?_
      refine lv_sipush (v := iI 130) hx hb dX7_adds_125 (by decide) ?_
      refine lv_iload_n hx hb dX7_adds_128 rfl (lv_at hl 1 rfl) ?_
      refine zr_iadd (x := 130) (y := samZ (s.2 0) key ((s.2 0) 3).toNat) hx hb dX7_adds_129 ?_
      obtain ⟨r73, h74⟩ := h72
      refine lv_dup2_11 hx hb dX7_adds_130 rfl rfl ?_
      obtain ⟨b75, h76⟩ := h74
      refine zr_iald (n := 370) (f := uZ (uZ (uZ (uZ (s.2 0) 3 (((s.2 0) 3) + 1)) (10 + ((s.2 0) 3)) key) (130 + ((s.2 0) 3)) 0) (250 + ((s.2 0) 3)) 0) (i := 130 + (samZ (s.2 0) key ((s.2 0) 3).toNat)) hx hb hK hP 1 rfl r73 b75 dX7_adds_131 ?_
      refine lv_iconst (v := iI 1) hx hb dX7_adds_132 rfl ?_
      refine zr_iadd (x := (uZ (uZ (uZ (uZ (s.2 0) 3 (((s.2 0) 3) + 1)) (10 + ((s.2 0) 3)) key) (130 + ((s.2 0) 3)) 0) (250 + ((s.2 0) 3)) 0) (130 + (samZ (s.2 0) key ((s.2 0) 3).toNat))) (y := 1) hx hb dX7_adds_133 ?_
      obtain ⟨r77, h78⟩ := h76
      refine zr_iast (n := 370) (f := uZ (uZ (uZ (uZ (s.2 0) 3 (((s.2 0) 3) + 1)) (10 + ((s.2 0) 3)) key) (130 + ((s.2 0) 3)) 0) (250 + ((s.2 0) 3)) 0) (i := 130 + (samZ (s.2 0) key ((s.2 0) 3).toNat)) (x := ((uZ (uZ (uZ (uZ (s.2 0) 3 (((s.2 0) 3) + 1)) (10 + ((s.2 0) 3)) key) (130 + ((s.2 0) 3)) 0) (250 + ((s.2 0) 3)) 0) (130 + (samZ (s.2 0) key ((s.2 0) 3).toNat))) + 1) hx hb hK hP hD hS 1 rfl r73 b75 dX7_adds_134 (fun H locs hP hD hS => ?_)
      have hP : va_P G.1 vwCl (W7 G a (sA s 0 (uZ (uZ (uZ (uZ (uZ (s.2 0) 3 (((s.2 0) 3) + 1)) (10 + ((s.2 0) 3)) key) (130 + ((s.2 0) 3)) 0) (250 + ((s.2 0) 3)) 0) (130 + (samZ (s.2 0) key ((s.2 0) 3).toNat)) (((uZ (uZ (uZ (uZ (s.2 0) 3 (((s.2 0) 3) + 1)) (10 + ((s.2 0) 3)) key) (130 + ((s.2 0) 3)) 0) (250 + ((s.2 0) 3)) 0) (130 + (samZ (s.2 0) key ((s.2 0) 3).toNat))) + 1)))) H := hP
      have hD : va_D A (W7 G a (sA s 0 (uZ (uZ (uZ (uZ (uZ (s.2 0) 3 (((s.2 0) 3) + 1)) (10 + ((s.2 0) 3)) key) (130 + ((s.2 0) 3)) 0) (250 + ((s.2 0) 3)) 0) (130 + (samZ (s.2 0) key ((s.2 0) 3).toNat)) (((uZ (uZ (uZ (uZ (s.2 0) 3 (((s.2 0) 3) + 1)) (10 + ((s.2 0) 3)) key) (130 + ((s.2 0) 3)) 0) (250 + ((s.2 0) 3)) 0) (130 + (samZ (s.2 0) key ((s.2 0) 3).toNat))) + 1)))) := hD
      refine lv_iload_n hx hb dX7_adds_135 rfl (lv_at hl 0 rfl) ?_
      exact zr_iret (z := (s.2 0) 3) hx hb hr hlocks hK (sA s 0 (uZ (uZ (uZ (uZ (uZ (s.2 0) 3 (((s.2 0) 3) + 1)) (10 + ((s.2 0) 3)) key) (130 + ((s.2 0) 3)) 0) (250 + ((s.2 0) 3)) 0) (130 + (samZ (s.2 0) key ((s.2 0) 3).toNat)) (((uZ (uZ (uZ (uZ (s.2 0) 3 (((s.2 0) 3) + 1)) (10 + ((s.2 0) 3)) key) (130 + ((s.2 0) 3)) 0) (250 + ((s.2 0) 3)) 0) (130 + (samZ (s.2 0) key ((s.2 0) 3).toNat))) + 1))) hP hD hS dX7_adds_136 ⟨((r_s.2 0) 3), (RG_A r_s (rgA_u (i := 130 + (samZ (s.2 0) key ((s.2 0) 3).toNat)) (rgA_u (i := 250 + ((s.2 0) 3)) (rgA_u (i := 130 + ((s.2 0) 3)) (rgA_u (i := 10 + ((s.2 0) 3)) (rgA_u (i := 3) (r_s.2 0) r59) r_key) rg_0) rg_0) r77)), h78⟩
    · have h79 := h51.1 c55
      refine lv_aload_n hx hb dX7_adds_34 rfl (lv_at hl 2 rfl) ?_
      refine lv_iconst (v := iI 1) hx hb dX7_adds_35 rfl ?_
      refine zc_vi (As := [.int (iI 1)]) (rest := []) (w2 := fun u_80 => W7 G a s) (c_X7_rowsAt l G a s 1 r_s rg_1 b50) ⟨hx, hb, hml, hown, hts⟩ (cwV 1 hts gX7_adds_X7_rowsAt rfl rfl rfl hdX7_rowsAt ⟨Nat.le_of_ble_eq_true rfl, Nat.le_of_ble_eq_true rfl⟩) hK hP hD hS hA (q0 := 0) rfl rfl [0, 1, 2, 3, 4, 5, 6] [] [0, 1, 2, 3, 4, 5, 6] rfl rfl rfl rfl (by decide) (fun _ => rfl) rfl rfl hl.1 rfl (Nat.le_of_ble_eq_true rfl) dX7_adds_36 ⟨Nat.zero_le _, Nat.zero_le _⟩ (fun z81 u_80 H locs hw hP hD hS => ?_)
      obtain ⟨rfl, r82⟩ := hw
      have hP : va_P G.1 vwCl (W7 G a s) H := hP
      have hD : va_D A (W7 G a s) := hD
      refine lv_aload_n hx hb dX7_adds_39 rfl (lv_at hl 2 rfl) ?_
      refine va_get (v := .ref (a 1)) (ci := 7) (C := RX7) (T := TX7) (N := 12) hx hb hts imX7_adds_X7 hown hK hP 0 rfl rfl 0 (by decide) k1 (fun _ h9 => h9) rfl dX7_adds_40 ?_
      refine lv_iconst (v := iI 0) hx hb dX7_adds_43 rfl ?_
      refine zr_iald (n := 370) (f := (s.2 0)) (i := 0) hx hb hK hP 1 rfl rg_0 ⟨by decide, by decide⟩ dX7_adds_44 ?_
      refine zr_icmp_ne (tgt := 53) (x := rowsAt (s.2 0) (1 : Int)) (y := (s.2 0) 0) hx hb r82 ((r_s.2 0) 0) dX7_adds_45 (by decide) (fun c83 => ?_) (fun c83 => ?_)
      · have h86 := h79.2 c83
        refine lv_aload_n hx hb dX7_adds_53 rfl (lv_at hl 2 rfl) ?_
        refine va_get (v := .ref (a 1)) (ci := 7) (C := RX7) (T := TX7) (N := 12) hx hb hts imX7_adds_X7 hown hK hP 0 rfl rfl 0 (by decide) k1 (fun _ h9 => h9) rfl dX7_adds_54 ?_
        refine lv_iconst (v := iI 3) hx hb dX7_adds_57 rfl ?_
        refine lv_dup2_11 hx hb dX7_adds_58 rfl rfl ?_
        refine zr_iald (n := 370) (f := (s.2 0)) (i := 3) hx hb hK hP 1 rfl rg_3 ⟨by decide, by decide⟩ dX7_adds_59 ?_
        refine lv_iconst (v := iI 1) hx hb dX7_adds_60 rfl ?_
        refine zr_iadd (x := (s.2 0) 3) (y := 1) hx hb dX7_adds_61 ?_
        obtain ⟨r87, h88⟩ := h86
        refine zr_iast (n := 370) (f := (s.2 0)) (i := 3) (x := ((s.2 0) 3) + 1) hx hb hK hP hD hS 1 rfl rg_3 ⟨by decide, by decide⟩ dX7_adds_62 (fun H locs hP hD hS => ?_)
        have hP : va_P G.1 vwCl (W7 G a (sA s 0 (uZ (s.2 0) 3 (((s.2 0) 3) + 1)))) H := hP
        have hD : va_D A (W7 G a (sA s 0 (uZ (s.2 0) 3 (((s.2 0) 3) + 1)))) := hD
        refine lv_aload_n hx hb dX7_adds_63 rfl (lv_at hl 2 rfl) ?_
        refine va_get (v := .ref (a 1)) (ci := 7) (C := RX7) (T := TX7) (N := 12) hx hb hts imX7_adds_X7 hown hK hP 0 rfl rfl 0 (by decide) k1 (fun _ h9 => h9) rfl dX7_adds_64 ?_
        refine lv_bipush (v := iI 10) hx hb dX7_adds_67 (by decide) ?_
        refine lv_iload_n hx hb dX7_adds_69 rfl (lv_at hl 0 rfl) ?_
        refine zr_iadd (x := 10) (y := (s.2 0) 3) hx hb dX7_adds_70 ?_
        obtain ⟨r89, h90⟩ := h88
        refine lv_iload_n hx hb dX7_adds_71 rfl (lv_at hl 3 rfl) ?_
        obtain ⟨b91, h92⟩ := h90
        refine zr_iast (n := 370) (f := uZ (s.2 0) 3 (((s.2 0) 3) + 1)) (i := 10 + ((s.2 0) 3)) (x := key) hx hb hK hP hD hS 1 rfl r89 b91 dX7_adds_72 (fun H locs hP hD hS => ?_)
        have hP : va_P G.1 vwCl (W7 G a (sA s 0 (uZ (uZ (s.2 0) 3 (((s.2 0) 3) + 1)) (10 + ((s.2 0) 3)) key))) H := hP
        have hD : va_D A (W7 G a (sA s 0 (uZ (uZ (s.2 0) 3 (((s.2 0) 3) + 1)) (10 + ((s.2 0) 3)) key))) := hD
        refine lv_aload_n hx hb dX7_adds_73 rfl (lv_at hl 2 rfl) ?_
        refine va_get (v := .ref (a 1)) (ci := 7) (C := RX7) (T := TX7) (N := 12) hx hb hts imX7_adds_X7 hown hK hP 0 rfl rfl 0 (by decide) k1 (fun _ h9 => h9) rfl dX7_adds_74 ?_
        refine lv_sipush (v := iI 130) hx hb dX7_adds_77 (by decide) ?_
        refine lv_iload_n hx hb dX7_adds_80 rfl (lv_at hl 0 rfl) ?_
        refine zr_iadd (x := 130) (y := (s.2 0) 3) hx hb dX7_adds_81 ?_
        obtain ⟨r93, h94⟩ := h92
        refine lv_iload_n hx hb dX7_adds_82 rfl (lv_at hl 1 rfl) ?_
        refine lv_bipush (v := iI (-6)) hx hb dX7_adds_83 (by decide) ?_
        refine zr_icmp_ne (tgt := 92) (x := samZ (s.2 0) key ((s.2 0) 3).toNat) (y := (-6)) hx hb r54 rg_m6 dX7_adds_85 (by decide) (fun c => absurd c55 c) (fun _ => ?_)
        refine lv_iconst (v := iI 1) hx hb dX7_adds_88 rfl ?_
        refine lv_goto (tgt := 93) hx hb dX7_adds_89 (by decide) ?_
        obtain ⟨b95, h96⟩ := h94
        refine zr_iast (n := 370) (f := uZ (uZ (s.2 0) 3 (((s.2 0) 3) + 1)) (10 + ((s.2 0) 3)) key) (i := 130 + ((s.2 0) 3)) (x := 1) hx hb hK hP hD hS 1 rfl r93 b95 dX7_adds_93 (fun H locs hP hD hS => ?_)
        have hP : va_P G.1 vwCl (W7 G a (sA s 0 (uZ (uZ (uZ (s.2 0) 3 (((s.2 0) 3) + 1)) (10 + ((s.2 0) 3)) key) (130 + ((s.2 0) 3)) 1))) H := hP
        have hD : va_D A (W7 G a (sA s 0 (uZ (uZ (uZ (s.2 0) 3 (((s.2 0) 3) + 1)) (10 + ((s.2 0) 3)) key) (130 + ((s.2 0) 3)) 1))) := hD
        refine lv_aload_n hx hb dX7_adds_94 rfl (lv_at hl 2 rfl) ?_
        refine va_get (v := .ref (a 1)) (ci := 7) (C := RX7) (T := TX7) (N := 12) hx hb hts imX7_adds_X7 hown hK hP 0 rfl rfl 0 (by decide) k1 (fun _ h9 => h9) rfl dX7_adds_95 ?_
        refine lv_sipush (v := iI 250) hx hb dX7_adds_98 (by decide) ?_
        refine lv_iload_n hx hb dX7_adds_101 rfl (lv_at hl 0 rfl) ?_
        refine zr_iadd (x := 250) (y := (s.2 0) 3) hx hb dX7_adds_102 ?_
        obtain ⟨r97, h98⟩ := h96
        refine lv_iload_n hx hb dX7_adds_103 rfl (lv_at hl 1 rfl) ?_
        refine lv_bipush (v := iI (-6)) hx hb dX7_adds_104 (by decide) ?_
        refine zr_icmp_ne (tgt := 113) (x := samZ (s.2 0) key ((s.2 0) 3).toNat) (y := (-6)) hx hb r54 rg_m6 dX7_adds_106 (by decide) (fun c => absurd c55 c) (fun _ => ?_)
        refine lv_iconst (v := iI 1) hx hb dX7_adds_109 rfl ?_
        refine lv_goto (tgt := 114) hx hb dX7_adds_110 (by decide) ?_
        obtain ⟨b99, h100⟩ := h98
        refine zr_iast (n := 370) (f := uZ (uZ (uZ (s.2 0) 3 (((s.2 0) 3) + 1)) (10 + ((s.2 0) 3)) key) (130 + ((s.2 0) 3)) 1) (i := 250 + ((s.2 0) 3)) (x := 1) hx hb hK hP hD hS 1 rfl r97 b99 dX7_adds_114 (fun H locs hP hD hS => ?_)
        have hP : va_P G.1 vwCl (W7 G a (sA s 0 (uZ (uZ (uZ (uZ (s.2 0) 3 (((s.2 0) 3) + 1)) (10 + ((s.2 0) 3)) key) (130 + ((s.2 0) 3)) 1) (250 + ((s.2 0) 3)) 1))) H := hP
        have hD : va_D A (W7 G a (sA s 0 (uZ (uZ (uZ (uZ (s.2 0) 3 (((s.2 0) 3) + 1)) (10 + ((s.2 0) 3)) key) (130 + ((s.2 0) 3)) 1) (250 + ((s.2 0) 3)) 1))) := hD
        refine lv_iload_n hx hb dX7_adds_115 rfl (lv_at hl 1 rfl) ?_
        refine lv_bipush (v := iI (-6)) hx hb dX7_adds_116 (by decide) ?_
        refine zr_icmp_eq (tgt := 135) (x := samZ (s.2 0) key ((s.2 0) 3).toNat) (y := (-6)) hx hb r54 rg_m6 dX7_adds_118 (by decide) (fun _ => ?_) (fun c => absurd c55 c)
        refine lv_iload_n hx hb dX7_adds_135 rfl (lv_at hl 0 rfl) ?_
        exact zr_iret (z := (s.2 0) 3) hx hb hr hlocks hK (sA s 0 (uZ (uZ (uZ (uZ (s.2 0) 3 (((s.2 0) 3) + 1)) (10 + ((s.2 0) 3)) key) (130 + ((s.2 0) 3)) 1) (250 + ((s.2 0) 3)) 1)) hP hD hS dX7_adds_136 ⟨((r_s.2 0) 3), (RG_A r_s (rgA_u (i := 250 + ((s.2 0) 3)) (rgA_u (i := 130 + ((s.2 0) 3)) (rgA_u (i := 10 + ((s.2 0) 3)) (rgA_u (i := 3) (r_s.2 0) r87) r_key) rg_1) rg_1)), h100⟩
      · have h101 := h79.1 c83
        refine lv_aload_n hx hb dX7_adds_48 rfl (lv_at hl 2 rfl) ?_
        obtain ⟨b102, h103⟩ := h101
        refine zc_vi (As := []) (rest := []) (w2 := fun u_105 => W7 G a (sA s 0 (wriZ (s.2 0)))) (c_X7_writes l G a s r_s b50 b102) ⟨hx, hb, hml, hown, hts⟩ (cwV 0 hts gX7_adds_X7_writes rfl rfl rfl hdX7_writes ⟨Nat.le_of_ble_eq_true rfl, Nat.le_of_ble_eq_true rfl⟩) hK hP hD hS hA (q0 := 0) rfl rfl [0, 1, 2, 3, 4, 5, 6] [] [0, 1, 2, 3, 4, 5, 6] rfl rfl rfl rfl (by decide) (fun _ => rfl) rfl rfl hl.1 rfl (Nat.le_of_ble_eq_true rfl) dX7_adds_49 ⟨Nat.zero_le _, Nat.zero_le _⟩ (fun z106 u_105 H locs hw hP hD hS => ?_)
        obtain ⟨rfl, r107, r104⟩ := hw
        have hP : va_P G.1 vwCl (W7 G a (sA s 0 (wriZ (s.2 0)))) H := hP
        have hD : va_D A (W7 G a (sA s 0 (wriZ (s.2 0)))) := hD
        refine lv_pop hx hb dX7_adds_52 rfl ?_
        refine lv_aload_n hx hb dX7_adds_53 rfl (lv_at hl 2 rfl) ?_
        refine va_get (v := .ref (a 1)) (ci := 7) (C := RX7) (T := TX7) (N := 12) hx hb hts imX7_adds_X7 hown hK hP 0 rfl rfl 0 (by decide) k1 (fun _ h9 => h9) rfl dX7_adds_54 ?_
        refine lv_iconst (v := iI 3) hx hb dX7_adds_57 rfl ?_
        refine lv_dup2_11 hx hb dX7_adds_58 rfl rfl ?_
        refine zr_iald (n := 370) (f := wriZ (s.2 0)) (i := 3) hx hb hK hP 1 rfl rg_3 ⟨by decide, by decide⟩ dX7_adds_59 ?_
        refine lv_iconst (v := iI 1) hx hb dX7_adds_60 rfl ?_
        refine zr_iadd (x := (wriZ (s.2 0)) 3) (y := 1) hx hb dX7_adds_61 ?_
        obtain ⟨r108, h109⟩ := h103
        refine zr_iast (n := 370) (f := wriZ (s.2 0)) (i := 3) (x := ((wriZ (s.2 0)) 3) + 1) hx hb hK hP hD hS 1 rfl rg_3 ⟨by decide, by decide⟩ dX7_adds_62 (fun H locs hP hD hS => ?_)
        have hP : va_P G.1 vwCl (W7 G a (sA s 0 (uZ (wriZ (s.2 0)) 3 (((wriZ (s.2 0)) 3) + 1)))) H := hP
        have hD : va_D A (W7 G a (sA s 0 (uZ (wriZ (s.2 0)) 3 (((wriZ (s.2 0)) 3) + 1)))) := hD
        refine lv_aload_n hx hb dX7_adds_63 rfl (lv_at hl 2 rfl) ?_
        refine va_get (v := .ref (a 1)) (ci := 7) (C := RX7) (T := TX7) (N := 12) hx hb hts imX7_adds_X7 hown hK hP 0 rfl rfl 0 (by decide) k1 (fun _ h9 => h9) rfl dX7_adds_64 ?_
        refine lv_bipush (v := iI 10) hx hb dX7_adds_67 (by decide) ?_
        refine lv_iload_n hx hb dX7_adds_69 rfl (lv_at hl 0 rfl) ?_
        refine zr_iadd (x := 10) (y := (s.2 0) 3) hx hb dX7_adds_70 ?_
        obtain ⟨r110, h111⟩ := h109
        refine lv_iload_n hx hb dX7_adds_71 rfl (lv_at hl 3 rfl) ?_
        obtain ⟨b112, h113⟩ := h111
        refine zr_iast (n := 370) (f := uZ (wriZ (s.2 0)) 3 (((wriZ (s.2 0)) 3) + 1)) (i := 10 + ((s.2 0) 3)) (x := key) hx hb hK hP hD hS 1 rfl r110 b112 dX7_adds_72 (fun H locs hP hD hS => ?_)
        have hP : va_P G.1 vwCl (W7 G a (sA s 0 (uZ (uZ (wriZ (s.2 0)) 3 (((wriZ (s.2 0)) 3) + 1)) (10 + ((s.2 0) 3)) key))) H := hP
        have hD : va_D A (W7 G a (sA s 0 (uZ (uZ (wriZ (s.2 0)) 3 (((wriZ (s.2 0)) 3) + 1)) (10 + ((s.2 0) 3)) key))) := hD
        refine lv_aload_n hx hb dX7_adds_73 rfl (lv_at hl 2 rfl) ?_
        refine va_get (v := .ref (a 1)) (ci := 7) (C := RX7) (T := TX7) (N := 12) hx hb hts imX7_adds_X7 hown hK hP 0 rfl rfl 0 (by decide) k1 (fun _ h9 => h9) rfl dX7_adds_74 ?_
        refine lv_sipush (v := iI 130) hx hb dX7_adds_77 (by decide) ?_
        refine lv_iload_n hx hb dX7_adds_80 rfl (lv_at hl 0 rfl) ?_
        refine zr_iadd (x := 130) (y := (s.2 0) 3) hx hb dX7_adds_81 ?_
        obtain ⟨r114, h115⟩ := h113
        refine lv_iload_n hx hb dX7_adds_82 rfl (lv_at hl 1 rfl) ?_
        refine lv_bipush (v := iI (-6)) hx hb dX7_adds_83 (by decide) ?_
        refine zr_icmp_ne (tgt := 92) (x := samZ (s.2 0) key ((s.2 0) 3).toNat) (y := (-6)) hx hb r54 rg_m6 dX7_adds_85 (by decide) (fun c => absurd c55 c) (fun _ => ?_)
        refine lv_iconst (v := iI 1) hx hb dX7_adds_88 rfl ?_
        refine lv_goto (tgt := 93) hx hb dX7_adds_89 (by decide) ?_
        obtain ⟨b116, h117⟩ := h115
        refine zr_iast (n := 370) (f := uZ (uZ (wriZ (s.2 0)) 3 (((wriZ (s.2 0)) 3) + 1)) (10 + ((s.2 0) 3)) key) (i := 130 + ((s.2 0) 3)) (x := 1) hx hb hK hP hD hS 1 rfl r114 b116 dX7_adds_93 (fun H locs hP hD hS => ?_)
        have hP : va_P G.1 vwCl (W7 G a (sA s 0 (uZ (uZ (uZ (wriZ (s.2 0)) 3 (((wriZ (s.2 0)) 3) + 1)) (10 + ((s.2 0) 3)) key) (130 + ((s.2 0) 3)) 1))) H := hP
        have hD : va_D A (W7 G a (sA s 0 (uZ (uZ (uZ (wriZ (s.2 0)) 3 (((wriZ (s.2 0)) 3) + 1)) (10 + ((s.2 0) 3)) key) (130 + ((s.2 0) 3)) 1))) := hD
        refine lv_aload_n hx hb dX7_adds_94 rfl (lv_at hl 2 rfl) ?_
        refine va_get (v := .ref (a 1)) (ci := 7) (C := RX7) (T := TX7) (N := 12) hx hb hts imX7_adds_X7 hown hK hP 0 rfl rfl 0 (by decide) k1 (fun _ h9 => h9) rfl dX7_adds_95 ?_
        refine lv_sipush (v := iI 250) hx hb dX7_adds_98 (by decide) ?_
        refine lv_iload_n hx hb dX7_adds_101 rfl (lv_at hl 0 rfl) ?_
        refine zr_iadd (x := 250) (y := (s.2 0) 3) hx hb dX7_adds_102 ?_
        obtain ⟨r118, h119⟩ := h117
        refine lv_iload_n hx hb dX7_adds_103 rfl (lv_at hl 1 rfl) ?_
        refine lv_bipush (v := iI (-6)) hx hb dX7_adds_104 (by decide) ?_
        refine zr_icmp_ne (tgt := 113) (x := samZ (s.2 0) key ((s.2 0) 3).toNat) (y := (-6)) hx hb r54 rg_m6 dX7_adds_106 (by decide) (fun c => absurd c55 c) (fun _ => ?_)
        refine lv_iconst (v := iI 1) hx hb dX7_adds_109 rfl ?_
        refine lv_goto (tgt := 114) hx hb dX7_adds_110 (by decide) ?_
        obtain ⟨b120, h121⟩ := h119
        refine zr_iast (n := 370) (f := uZ (uZ (uZ (wriZ (s.2 0)) 3 (((wriZ (s.2 0)) 3) + 1)) (10 + ((s.2 0) 3)) key) (130 + ((s.2 0) 3)) 1) (i := 250 + ((s.2 0) 3)) (x := 1) hx hb hK hP hD hS 1 rfl r118 b120 dX7_adds_114 (fun H locs hP hD hS => ?_)
        have hP : va_P G.1 vwCl (W7 G a (sA s 0 (uZ (uZ (uZ (uZ (wriZ (s.2 0)) 3 (((wriZ (s.2 0)) 3) + 1)) (10 + ((s.2 0) 3)) key) (130 + ((s.2 0) 3)) 1) (250 + ((s.2 0) 3)) 1))) H := hP
        have hD : va_D A (W7 G a (sA s 0 (uZ (uZ (uZ (uZ (wriZ (s.2 0)) 3 (((wriZ (s.2 0)) 3) + 1)) (10 + ((s.2 0) 3)) key) (130 + ((s.2 0) 3)) 1) (250 + ((s.2 0) 3)) 1))) := hD
        refine lv_iload_n hx hb dX7_adds_115 rfl (lv_at hl 1 rfl) ?_
        refine lv_bipush (v := iI (-6)) hx hb dX7_adds_116 (by decide) ?_
        refine zr_icmp_eq (tgt := 135) (x := samZ (s.2 0) key ((s.2 0) 3).toNat) (y := (-6)) hx hb r54 rg_m6 dX7_adds_118 (by decide) (fun _ => ?_) (fun c => absurd c55 c)
        refine lv_iload_n hx hb dX7_adds_135 rfl (lv_at hl 0 rfl) ?_
        exact zr_iret (z := (s.2 0) 3) hx hb hr hlocks hK (sA s 0 (uZ (uZ (uZ (uZ (wriZ (s.2 0)) 3 (((wriZ (s.2 0)) 3) + 1)) (10 + ((s.2 0) 3)) key) (130 + ((s.2 0) 3)) 1) (250 + ((s.2 0) 3)) 1)) hP hD hS dX7_adds_136 ⟨((r_s.2 0) 3), (RG_A r_s (rgA_u (i := 250 + ((s.2 0) 3)) (rgA_u (i := 130 + ((s.2 0) 3)) (rgA_u (i := 10 + ((s.2 0) 3)) (rgA_u (i := 3) (r104.2 0) r108) r_key) rg_1) rg_1)), h121⟩
theorem c_X7_adds (l : Launch) (G : ZG) (a : Nat → Nat) (s : SS) (key : Int)  (r_s : RG s) (r_key : rg key) (p0 : Vb (s.2 0)) (p1 : rg ((s.2 0) 7 + rowsAt (s.2 0) 1)) (p2 : (s.2 0) 3 < 120) (p3 : ∀ r, 0 ≤ r → r < (s.2 0) 3 → 0 ≤ (s.2 0) (130 + r) ∧ (s.2 0) (130 + r) ≤ 120) : ZI l G yX7_adds wsX7_adds 3 65 [.ref (a 0), .int (iI key)] (W7 G a s) (fun _ : Unit => W7 G a (sA s 0 (addZ (s.2 0) key))) (fun (z : Int) (_ : Unit) => z = ((s.2 0) 3) ∧ rg z ∧ RG (sA s 0 (addZ (s.2 0) key))) := by
  refine ZI.fn (w1 := fun u : SS => W7 G a u) (fun z u hq => ?_) (c0_X7_adds l G a s key (fun z o0 => z = ((s.2 0) 3) ∧ o0 = (sA s 0 (addZ (s.2 0) key))) r_s r_key (sp_X7_adds s key r_s r_key p0 p1 p2 p3))
  obtain ⟨rz, ro0, ⟨ez, eo0⟩⟩ := hq
  exact ⟨by rw [eo0], ⟨ez, rz, (by rw [← eo0]; exact ro0)⟩⟩
