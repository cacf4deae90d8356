theorem hdX7_liesInInput : yX7_liesInInput.cls = RX7 ∧ yX7_liesInInput.cls ≠ "java/lang/invoke/MethodHandle" ∧ yX7_liesInInput.cls ≠ "java/lang/invoke/VarHandle" ∧ (parseMethodDescriptor yX7_liesInInput.desc).map (fun d => d.parameters.length) = some 1 := by decide +kernel
set_option maxRecDepth 100000 in
set_option maxHeartbeats 4000000 in
theorem c0_X7_liesInInput (l : Launch) (G : ZG) (a : Nat → Nat) (s : SS) (row : Int) (P : Int → Prop) (r_s : RG s) (r_row : rg row) (hwp : wp_X7_liesInInput s row P) : ZI l G yX7_liesInInput wsX7_liesInInput 1 21 [.ref (a 0), .int (iI row)] (W7 G a s) (fun u : Unit => W7 G a s) (fun (z : Int) (u : Unit) => rg z ∧ P z) := by
  unfold wp_X7_liesInInput at hwp
  refine zm_i (cc := cX7_liesInInput) (maxL := 2) (ret := some .boolean) (own := RX7) (lvs := [(0, .ref (a 0)), (1, .int (iI row))]) (by decide) rfl rfl (Nat.le_of_ble_eq_true rfl) rfl ?_
  intro p e sT m args below meth c ls A hx hb hr hml hown hts hlocks hK hP hD hS hA hl
  refine lv_aload_n hx hb dX7_liesInInput_0 rfl (lv_at hl 0 rfl) ?_
  refine lv_iload_n hx hb dX7_liesInInput_1 rfl (lv_at hl 1 rfl) ?_
  obtain ⟨b1, h2⟩ := hwp
  refine zc_vi (As := [.int (iI row)]) (rest := []) (w2 := fun u_3 => W7 G a s) (c_X7_place l G a s row r_s r_row b1) ⟨hx, hb, hml, hown, hts⟩ (cwV 1 hts gX7_liesInInput_X7_place rfl rfl rfl hdX7_place ⟨Nat.le_of_ble_eq_true rfl, Nat.le_of_ble_eq_true rfl⟩) hK hP hD hS hA (q0 := 0) rfl rfl [0, 1, 2, 3, 4, 5, 6] [] [0, 1, 2, 3, 4, 5, 6] rfl rfl rfl rfl (by decide) (fun _ => rfl) rfl rfl hl.1 rfl (Nat.le_of_ble_eq_true rfl) dX7_liesInInput_2 ⟨Nat.zero_le _, Nat.zero_le _⟩ (fun z4 u_3 H locs hw hP hD hS => ?_)
  obtain ⟨rfl, r5⟩ := hw
  have hP : va_P G.1 vwCl (W7 G a s) H := hP
  have hD : va_D A (W7 G a s) := hD
  refine lv_bipush (v := iI 11) hx hb dX7_liesInInput_5 (by decide) ?_
  refine zr_icmp_lt (tgt := 25) (x := (s.2 0) (250 + row)) (y := 11) hx hb r5 rg_11 dX7_liesInInput_7 (by decide) (fun c6 => ?_) (fun c6 => ?_)
  · have h9 := h2.1 c6
    refine lv_iconst (v := iI 0) hx hb dX7_liesInInput_25 rfl ?_
    exact zr_zret (z := 0) hx hb hr hlocks hK (Or.inl rfl) () hP hD hS dX7_liesInInput_26 ⟨rg_0, h9⟩
  · have h10 := h2.2 c6
    refine lv_aload_n hx hb dX7_liesInInput_10 rfl (lv_at hl 0 rfl) ?_
    refine lv_iload_n hx hb dX7_liesInInput_11 rfl (lv_at hl 1 rfl) ?_
    refine zc_vi (As := [.int (iI row)]) (rest := []) (w2 := fun u_11 => W7 G a s) (c_X7_place l G a s row r_s r_row b1) ⟨hx, hb, hml, hown, hts⟩ (cwV 1 hts gX7_liesInInput_X7_place rfl rfl rfl hdX7_place ⟨Nat.le_of_ble_eq_true rfl, Nat.le_of_ble_eq_true rfl⟩) hK hP hD hS hA (q0 := 0) rfl rfl [0, 1, 2, 3, 4, 5, 6] [] [0, 1, 2, 3, 4, 5, 6] rfl rfl rfl rfl (by decide) (fun _ => rfl) rfl rfl hl.1 rfl (Nat.le_of_ble_eq_true rfl) dX7_liesInInput_12 ⟨Nat.zero_le _, Nat.zero_le _⟩ (fun z12 u_11 H locs hw hP hD hS => ?_)
    obtain ⟨rfl, r13⟩ := hw
    have hP : va_P G.1 vwCl (W7 G a s) H := hP
    have hD : va_D A (W7 G a s) := hD
    refine lv_iconst (v := iI 2) hx hb dX7_liesInInput_15 rfl ?_
    obtain ⟨r14, h15⟩ := h10
    refine zr_irem (x := (s.2 0) (250 + row)) (y := 2) hx hb r13 (by decide) (by decide) r14 dX7_liesInInput_16 ?_
    refine lv_iconst (v := iI 1) hx hb dX7_liesInInput_17 rfl ?_
    refine zr_icmp_ne (tgt := 25) (x := ((s.2 0) (250 + row)) % 2) (y := 1) hx hb (rg_mod r13 r14 (by decide)) rg_1 dX7_liesInInput_18 (by decide) (fun c16 => ?_) (fun c16 => ?_)
    · have h19 := h15.2 c16
      refine lv_iconst (v := iI 0) hx hb dX7_liesInInput_25 rfl ?_
      exact zr_zret (z := 0) hx hb hr hlocks hK (Or.inl rfl) () hP hD hS dX7_liesInInput_26 ⟨rg_0, h19⟩
    · have h20 := h15.1 c16
      refine lv_iconst (v := iI 1) hx hb dX7_liesInInput_21 rfl ?_
      refine lv_goto (tgt := 26) hx hb dX7_liesInInput_22 (by decide) ?_
      exact zr_zret (z := 1) hx hb hr hlocks hK (Or.inr rfl) () hP hD hS dX7_liesInInput_26 ⟨rg_1, h20⟩
theorem c_X7_liesInInput (l : Launch) (G : ZG) (a : Nat → Nat) (s : SS) (row : Int)  (r_s : RG s) (r_row : rg row) (p0 : 0 ≤ row ∧ row < 120) : ZI l G yX7_liesInInput wsX7_liesInInput 1 21 [.ref (a 0), .int (iI row)] (W7 G a s) (fun _ : Unit => W7 G a s) (fun (z : Int) (_ : Unit) => z = (pz (11 ≤ (s.2 0) (250 + row) ∧ (s.2 0) (250 + row) % 2 = 1)) ∧ rg z) := by
  refine ZI.fn (w1 := fun u : Unit => W7 G a s) (fun z u hq => ?_) (c0_X7_liesInInput l G a s row (fun z => z = (pz (11 ≤ (s.2 0) (250 + row) ∧ (s.2 0) (250 + row) % 2 = 1))) r_s r_row (sp_X7_liesInInput s row r_s r_row p0))
  obtain ⟨rz, ez⟩ := hq
  exact ⟨rfl, ⟨ez, rz⟩⟩
theorem imX7_rowsInInputs_X7 : ∀ w ∈ wsX70, w ∈ wsX7_rowsInInputs := fun _ h => (List.mem_cons_of_mem _ (List.mem_append_right _ h))
theorem hdX7_rowsInInputs : yX7_rowsInInputs.cls = RX7 ∧ yX7_rowsInInputs.cls ≠ "java/lang/invoke/MethodHandle" ∧ yX7_rowsInInputs.cls ≠ "java/lang/invoke/VarHandle" ∧ (parseMethodDescriptor yX7_rowsInInputs.desc).map (fun d => d.parameters.length) = some 0 := by decide +kernel
set_option maxRecDepth 100000 in
set_option maxHeartbeats 4000000 in
theorem c0_X7_rowsInInputs (l : Launch) (G : ZG) (a : Nat → Nat) (s : SS)  (P : Int → Prop) (r_s : RG s)  (hwp : wp_X7_rowsInInputs s P) : ZI l G yX7_rowsInInputs wsX7_rowsInInputs 2 42 [.ref (a 0)] (W7 G a s) (fun u : Unit => W7 G a s) (fun (z : Int) (u : Unit) => rg z ∧ P z) := by
  unfold wp_X7_rowsInInputs at hwp
  refine zm_i (cc := cX7_rowsInInputs) (maxL := 3) (ret := some .int) (own := RX7) (lvs := [(0, .ref (a 0))]) (by decide) rfl rfl (Nat.le_of_ble_eq_true rfl) rfl ?_
  intro p e sT m args below meth c ls A hx hb hr hml hown hts hlocks hK hP hD hS hA hl
  have k1 := hts (.fieldLink RX7 7 "GrantedSortModel" "z" "[I") (List.mem_of_getElem? (i := 1) rfl)
  refine lv_iconst (v := iI 0) hx hb dX7_rowsInInputs_0 rfl ?_
  refine lv_istore_n (lv' := [(1, .int (iI 0)), (0, .ref (a 0))]) hx hb dX7_rowsInInputs_1 rfl hl (by decide) rfl (fun ls hl => ?_)
  refine lv_iconst (v := iI 0) hx hb dX7_rowsInInputs_2 rfl ?_
  refine lv_istore_n (lv' := [(2, .int (iI 0)), (1, .int (iI 0)), (0, .ref (a 0))]) hx hb dX7_rowsInInputs_3 rfl hl (by decide) rfl (fun ls hl => ?_)
  obtain ⟨I2, μ3, h4, h5⟩ := hwp
  refine zr_loop (G := G) (σ := Int × Int) (fun x_1 => (rg x_1.1 ∧ rg x_1.2) ∧ I2 x_1.1 x_1.2) (fun x_1 => μ3 x_1.1 x_1.2) (fun x_1 => W7 G a s) (fun x_1 => [(2, .int (iI x_1.2)), (1, .int (iI x_1.1)), (0, .ref (a 0))]) ((0, 0)) ⟨⟨rg_0, rg_0⟩, h4⟩ hP hD hS (lv_sub hl [0, 1, 2] rfl) ?_
  clear hP hD hS hl
  intro x_1 H locs ls ih6 h7 hP hD hS hl
  obtain ⟨x1_1, x2_1⟩ := x_1
  obtain ⟨⟨rx1_1, rx2_1⟩, h7⟩ := h7
  have h8 := h5 x1_1 x2_1 rx1_1 rx2_1 h7
  have hP : va_P G.1 vwCl (W7 G a s) H := hP
  have hD : va_D A (W7 G a s) := hD
  have hl : lv_has ls 3 [(2, .int (iI x2_1)), (1, .int (iI x1_1)), (0, .ref (a 0))] := hl
  refine lv_iload_n hx hb dX7_rowsInInputs_4 rfl (lv_at hl 0 rfl) ?_
  refine lv_aload_n hx hb dX7_rowsInInputs_5 rfl (lv_at hl 2 rfl) ?_
  refine va_get (v := .ref (a 1)) (ci := 7) (C := RX7) (T := TX7) (N := 12) hx hb hts imX7_rowsInInputs_X7 hown hK hP 0 rfl rfl 0 (by decide) k1 (fun _ h9 => h9) rfl dX7_rowsInInputs_6 ?_
  refine lv_iconst (v := iI 3) hx hb dX7_rowsInInputs_9 rfl ?_
  refine zr_iald (n := 370) (f := (s.2 0)) (i := 3) hx hb hK hP 1 rfl rg_3 ⟨by decide, by decide⟩ dX7_rowsInInputs_10 ?_
  refine zr_icmp_ge (tgt := 36) (x := x2_1) (y := (s.2 0) 3) hx hb rx2_1 ((r_s.2 0) 3) dX7_rowsInInputs_11 (by decide) (fun c9 => ?_) (fun c9 => ?_)
  · have h12 := h8.2 c9
    refine lv_iload_n hx hb dX7_rowsInInputs_36 rfl (lv_at hl 1 rfl) ?_
    exact zr_iret (z := x1_1) hx hb hr hlocks hK () hP hD hS dX7_rowsInInputs_37 ⟨rx1_1, h12⟩
  · have h13 := h8.1 c9
    refine lv_iload_n hx hb dX7_rowsInInputs_14 rfl (lv_at hl 1 rfl) ?_
    refine lv_aload_n hx hb dX7_rowsInInputs_15 rfl (lv_at hl 2 rfl) ?_
    refine lv_iload_n hx hb dX7_rowsInInputs_16 rfl (lv_at hl 0 rfl) ?_
    obtain ⟨b14, h15⟩ := h13
    refine zc_vi (As := [.int (iI x2_1)]) (rest := [.int (iI x1_1)]) (w2 := fun u_16 => W7 G a s) (c_X7_liesInInput l G a s x2_1 r_s rx2_1 b14) ⟨hx, hb, hml, hown, hts⟩ (cwV 1 hts gX7_rowsInInputs_X7_liesInInput rfl rfl rfl hdX7_liesInInput ⟨Nat.le_of_ble_eq_true rfl, Nat.le_of_ble_eq_true rfl⟩) hK hP hD hS hA (q0 := 0) rfl rfl [0, 1, 2, 3, 4, 5, 6] [] [0, 1, 2, 3, 4, 5, 6] rfl rfl rfl rfl (by decide) (fun _ => rfl) rfl rfl hl.1 rfl (Nat.le_of_ble_eq_true rfl) dX7_rowsInInputs_17 ⟨Nat.zero_le _, Nat.zero_le _⟩ (fun z17 u_16 H locs hw hP hD hS => ?_)
    obtain ⟨rfl, r18⟩ := hw
    have hP : va_P G.1 vwCl (W7 G a s) H := hP
    have hD : va_D A (W7 G a s) := hD
    refine zr_ifB_eq (tgt := 27)  hx hb dX7_rowsInInputs_20 (by decide) (fun c19 => ?_) (fun c19 => ?_)
    · have h22 := h15.2 c19
      refine lv_iconst (v := iI 0) hx hb dX7_rowsInInputs_27 rfl ?_
      refine zr_iadd (x := x1_1) (y := 0) hx hb dX7_rowsInInputs_28 ?_
      obtain ⟨r23, h24⟩ := h22
      refine lv_istore_n (lv' := [(1, .int (iI (x1_1 + 0))), (2, .int (iI x2_1)), (0, .ref (a 0))]) hx hb dX7_rowsInInputs_29 rfl hl (by decide) rfl (fun ls hl => ?_)
      obtain ⟨r25, h26⟩ := h24
      refine zr_iinc (x := x2_1) (lv' := [(2, .int (iI (x2_1 + 1))), (1, .int (iI (x1_1 + 0))), (0, .ref (a 0))]) hx hb dX7_rowsInInputs_30 hl (k := 1) rfl (by decide) rfl (fun ls hl => ?_)
      refine lv_goto (tgt := 4) hx hb dX7_rowsInInputs_33 (by decide) ?_
      obtain ⟨h27, h28⟩ := h26
      exact ih6 ((x1_1 + 0, x2_1 + 1)) H locs ls ⟨⟨r23, r25⟩, h27⟩ h28 hP hD hS (lv_sub hl [0, 1, 2] rfl)
    · have h29 := h15.1 c19
      refine lv_iconst (v := iI 1) hx hb dX7_rowsInInputs_23 rfl ?_
      refine lv_goto (tgt := 28) hx hb dX7_rowsInInputs_24 (by decide) ?_
      refine zr_iadd (x := x1_1) (y := 1) hx hb dX7_rowsInInputs_28 ?_
      obtain ⟨r30, h31⟩ := h29
      refine lv_istore_n (lv' := [(1, .int (iI (x1_1 + 1))), (2, .int (iI x2_1)), (0, .ref (a 0))]) hx hb dX7_rowsInInputs_29 rfl hl (by decide) rfl (fun ls hl => ?_)
      obtain ⟨r32, h33⟩ := h31
      refine zr_iinc (x := x2_1) (lv' := [(2, .int (iI (x2_1 + 1))), (1, .int (iI (x1_1 + 1))), (0, .ref (a 0))]) hx hb dX7_rowsInInputs_30 hl (k := 1) rfl (by decide) rfl (fun ls hl => ?_)
      refine lv_goto (tgt := 4) hx hb dX7_rowsInInputs_33 (by decide) ?_
      obtain ⟨h34, h35⟩ := h33
      exact ih6 ((x1_1 + 1, x2_1 + 1)) H locs ls ⟨⟨r30, r32⟩, h34⟩ h35 hP hD hS (lv_sub hl [0, 1, 2] rfl)
theorem c_X7_rowsInInputs (l : Launch) (G : ZG) (a : Nat → Nat) (s : SS)   (r_s : RG s)  (p0 : Vb (s.2 0)) : ZI l G yX7_rowsInInputs wsX7_rowsInInputs 2 42 [.ref (a 0)] (W7 G a s) (fun _ : Unit => W7 G a s) (fun (z : Int) (_ : Unit) => z = (riZ (s.2 0)) ∧ rg z) := by
  refine ZI.fn (w1 := fun u : Unit => W7 G a s) (fun z u hq => ?_) (c0_X7_rowsInInputs l G a s (fun z => z = (riZ (s.2 0))) r_s  (sp_X7_rowsInInputs s r_s  p0))
  obtain ⟨rz, ez⟩ := hq
  exact ⟨rfl, ⟨ez, rz⟩⟩
theorem imX7_firstRow_X7 : ∀ w ∈ wsX70, w ∈ wsX7_firstRow := fun _ h => (List.mem_cons_of_mem _ (List.mem_append_right _ h))
theorem hdX7_firstRow : yX7_firstRow.cls = RX7 ∧ yX7_firstRow.cls ≠ "java/lang/invoke/MethodHandle" ∧ yX7_firstRow.cls ≠ "java/lang/invoke/VarHandle" ∧ (parseMethodDescriptor yX7_firstRow.desc).map (fun d => d.parameters.length) = some 0 := by decide +kernel
set_option maxRecDepth 100000 in
set_option maxHeartbeats 4000000 in
theorem c0_X7_firstRow (l : Launch) (G : ZG) (a : Nat → Nat) (s : SS)  (P : Int → Prop) (r_s : RG s)  (hwp : wp_X7_firstRow s P) : ZI l G yX7_firstRow wsX7_firstRow 2 42 [.ref (a 0)] (W7 G a s) (fun u : Unit => W7 G a s) (fun (z : Int) (u : Unit) => rg z ∧ P z) := by
  unfold wp_X7_firstRow at hwp
  refine zm_i (cc := cX7_firstRow) (maxL := 3) (ret := some .int) (own := RX7) (lvs := [(0, .ref (a 0))]) (by decide) rfl rfl (Nat.le_of_ble_eq_true rfl) rfl ?_
  intro p e sT m args below meth c ls A hx hb hr hml hown hts hlocks hK hP hD hS hA hl
  have k1 := hts (.fieldLink RX7 7 "GrantedSortModel" "z" "[I") (List.mem_of_getElem? (i := 1) rfl)
  refine lv_bipush (v := iI (-6)) hx hb dX7_firstRow_0 (by decide) ?_
  refine lv_istore_n (lv' := [(1, .int (iI (-6))), (0, .ref (a 0))]) hx hb dX7_firstRow_2 rfl hl (by decide) rfl (fun ls hl => ?_)
  refine lv_iconst (v := iI 0) hx hb dX7_firstRow_3 rfl ?_
  refine lv_istore_n (lv' := [(2, .int (iI 0)), (1, .int (iI (-6))), (0, .ref (a 0))]) hx hb dX7_firstRow_4 rfl hl (by decide) rfl (fun ls hl => ?_)
  obtain ⟨I2, μ3, h4, h5⟩ := hwp
  refine zr_loop (G := G) (σ := Int × Int) (fun x_1 => (rg x_1.1 ∧ rg x_1.2) ∧ I2 x_1.1 x_1.2) (fun x_1 => μ3 x_1.1 x_1.2) (fun x_1 => W7 G a s) (fun x_1 => [(2, .int (iI x_1.2)), (1, .int (iI x_1.1)), (0, .ref (a 0))]) (((-6), 0)) ⟨⟨rg_m6, rg_0⟩, h4⟩ hP hD hS (lv_sub hl [0, 1, 2] rfl) ?_
  clear hP hD hS hl
  intro x_1 H locs ls ih6 h7 hP hD hS hl
  obtain ⟨x1_1, x2_1⟩ := x_1
  obtain ⟨⟨rx1_1, rx2_1⟩, h7⟩ := h7
  have h8 := h5 x1_1 x2_1 rx1_1 rx2_1 h7
  have hP : va_P G.1 vwCl (W7 G a s) H := hP
  have hD : va_D A (W7 G a s) := hD
  have hl : lv_has ls 3 [(2, .int (iI x2_1)), (1, .int (iI x1_1)), (0, .ref (a 0))] := hl
  refine lv_iload_n hx hb dX7_firstRow_5 rfl (lv_at hl 0 rfl) ?_
  refine lv_aload_n hx hb dX7_firstRow_6 rfl (lv_at hl 2 rfl) ?_
  refine va_get (v := .ref (a 1)) (ci := 7) (C := RX7) (T := TX7) (N := 12) hx hb hts imX7_firstRow_X7 hown hK hP 0 rfl rfl 0 (by decide) k1 (fun _ h9 => h9) rfl dX7_firstRow_7 ?_
  refine lv_iconst (v := iI 3) hx hb dX7_firstRow_10 rfl ?_
  refine zr_iald (n := 370) (f := (s.2 0)) (i := 3) hx hb hK hP 1 rfl rg_3 ⟨by decide, by decide⟩ dX7_firstRow_11 ?_
  refine zr_icmp_ge (tgt := 62) (x := x2_1) (y := (s.2 0) 3) hx hb rx2_1 ((r_s.2 0) 3) dX7_firstRow_12 (by decide) (fun c9 => ?_) (fun c9 => ?_)
  · have h12 := h8.2 c9
    refine lv_iload_n hx hb dX7_firstRow_62 rfl (lv_at hl 1 rfl) ?_
    exact zr_iret (z := x1_1) hx hb hr hlocks hK () hP hD hS dX7_firstRow_63 ⟨rx1_1, h12⟩
  · have h13 := h8.1 c9
    refine lv_aload_n hx hb dX7_firstRow_15 rfl (lv_at hl 2 rfl) ?_
    refine lv_iload_n hx hb dX7_firstRow_16 rfl (lv_at hl 0 rfl) ?_
    obtain ⟨b14, h15⟩ := h13
    refine zc_vi (As := [.int (iI x2_1)]) (rest := []) (w2 := fun u_16 => W7 G a s) (c_X7_liesInInput l G a s x2_1 r_s rx2_1 b14) ⟨hx, hb, hml, hown, hts⟩ (cwV 1 hts gX7_firstRow_X7_liesInInput rfl rfl rfl hdX7_liesInInput ⟨Nat.le_of_ble_eq_true rfl, Nat.le_of_ble_eq_true rfl⟩) hK hP hD hS hA (q0 := 0) rfl rfl [0, 1, 2, 3, 4, 5, 6] [] [0, 1, 2, 3, 4, 5, 6] rfl rfl rfl rfl (by decide) (fun _ => rfl) rfl rfl hl.1 rfl (Nat.le_of_ble_eq_true rfl) dX7_firstRow_17 ⟨Nat.zero_le _, Nat.zero_le _⟩ (fun z17 u_16 H locs hw hP hD hS => ?_)
    obtain ⟨rfl, r18⟩ := hw
    have hP : va_P G.1 vwCl (W7 G a s) H := hP
    have hD : va_D A (W7 G a s) := hD
    refine zr_ifB_eq (tgt := 54)  hx hb dX7_firstRow_20 (by decide) (fun c19 => ?_) (fun c19 => ?_)
    · have h22 := h15.2 c19
      refine lv_iload_n hx hb dX7_firstRow_54 rfl (lv_at hl 1 rfl) ?_
      refine lv_istore_n (lv' := [(1, .int (iI x1_1)), (2, .int (iI x2_1)), (0, .ref (a 0))]) hx hb dX7_firstRow_55 rfl hl (by decide) rfl (fun ls hl => ?_)
      obtain ⟨r23, h24⟩ := h22
      refine zr_iinc (x := x2_1) (lv' := [(2, .int (iI (x2_1 + 1))), (1, .int (iI x1_1)), (0, .ref (a 0))]) hx hb dX7_firstRow_56 hl (k := 1) rfl (by decide) rfl (fun ls hl => ?_)
      refine lv_goto (tgt := 5) hx hb dX7_firstRow_59 (by decide) ?_
      obtain ⟨h25, h26⟩ := h24
      exact ih6 ((x1_1, x2_1 + 1)) H locs ls ⟨⟨rx1_1, r23⟩, h25⟩ h26 hP hD hS (lv_sub hl [0, 1, 2] rfl)
    · have h27 := h15.1 c19
      refine lv_iload_n hx hb dX7_firstRow_23 rfl (lv_at hl 1 rfl) ?_
      refine lv_bipush (v := iI (-6)) hx hb dX7_firstRow_24 (by decide) ?_
      refine zr_icmp_eq (tgt := 50) (x := x1_1) (y := (-6)) hx hb rx1_1 rg_m6 dX7_firstRow_26 (by decide) (fun c28 => ?_) (fun c28 => ?_)
      · have h31 := h27.1 c28
        refine lv_iload_n hx hb dX7_firstRow_50 rfl (lv_at hl 0 rfl) ?_
        refine lv_goto (tgt := 55) hx hb dX7_firstRow_51 (by decide) ?_
        refine lv_istore_n (lv' := [(1, .int (iI x2_1)), (2, .int (iI x2_1)), (0, .ref (a 0))]) hx hb dX7_firstRow_55 rfl hl (by decide) rfl (fun ls hl => ?_)
        obtain ⟨r32, h33⟩ := h31
        refine zr_iinc (x := x2_1) (lv' := [(2, .int (iI (x2_1 + 1))), (1, .int (iI x2_1)), (0, .ref (a 0))]) hx hb dX7_firstRow_56 hl (k := 1) rfl (by decide) rfl (fun ls hl => ?_)
        refine lv_goto (tgt := 5) hx hb dX7_firstRow_59 (by decide) ?_
        obtain ⟨h34, h35⟩ := h33
        exact ih6 ((x2_1, x2_1 + 1)) H locs ls ⟨⟨rx2_1, r32⟩, h34⟩ h35 hP hD hS (lv_sub hl [0, 1, 2] rfl)
      · have h36 := h27.2 c28
        refine lv_aload_n hx hb dX7_firstRow_29 rfl (lv_at hl 2 rfl) ?_
        refine va_get (v := .ref (a 1)) (ci := 7) (C := RX7) (T := TX7) (N := 12) hx hb hts imX7_firstRow_X7 hown hK hP 0 rfl rfl 0 (by decide) k1 (fun _ h9 => h9) rfl dX7_firstRow_30 ?_
        refine lv_bipush (v := iI 10) hx hb dX7_firstRow_33 (by decide) ?_
        refine lv_iload_n hx hb dX7_firstRow_35 rfl (lv_at hl 0 rfl) ?_
        refine zr_iadd (x := 10) (y := x2_1) hx hb dX7_firstRow_36 ?_
        obtain ⟨r37, h38⟩ := h36
        obtain ⟨b39, h40⟩ := h38
        refine zr_iald (n := 370) (f := (s.2 0)) (i := 10 + x2_1) hx hb hK hP 1 rfl r37 b39 dX7_firstRow_37 ?_
        refine lv_aload_n hx hb dX7_firstRow_38 rfl (lv_at hl 2 rfl) ?_
        refine va_get (v := .ref (a 1)) (ci := 7) (C := RX7) (T := TX7) (N := 12) hx hb hts imX7_firstRow_X7 hown hK hP 0 rfl rfl 0 (by decide) k1 (fun _ h9 => h9) rfl dX7_firstRow_39 ?_
        refine lv_bipush (v := iI 10) hx hb dX7_firstRow_42 (by decide) ?_
        refine lv_iload_n hx hb dX7_firstRow_44 rfl (lv_at hl 1 rfl) ?_
        refine zr_iadd (x := 10) (y := x1_1) hx hb dX7_firstRow_45 ?_
        obtain ⟨r41, h42⟩ := h40
        obtain ⟨b43, h44⟩ := h42
        refine zr_iald (n := 370) (f := (s.2 0)) (i := 10 + x1_1) hx hb hK hP 1 rfl r41 b43 dX7_firstRow_46 ?_
        refine zr_icmp_ge (tgt := 54) (x := (s.2 0) (10 + x2_1)) (y := (s.2 0) (10 + x1_1)) hx hb ((r_s.2 0) (10 + x2_1)) ((r_s.2 0) (10 + x1_1)) dX7_firstRow_47 (by decide) (fun c45 => ?_) (fun c45 => ?_)
        · have h48 := h44.2 c45
          refine lv_iload_n hx hb dX7_firstRow_54 rfl (lv_at hl 1 rfl) ?_
          refine lv_istore_n (lv' := [(1, .int (iI x1_1)), (2, .int (iI x2_1)), (0, .ref (a 0))]) hx hb dX7_firstRow_55 rfl hl (by decide) rfl (fun ls hl => ?_)
          obtain ⟨r49, h50⟩ := h48
          refine zr_iinc (x := x2_1) (lv' := [(2, .int (iI (x2_1 + 1))), (1, .int (iI x1_1)), (0, .ref (a 0))]) hx hb dX7_firstRow_56 hl (k := 1) rfl (by decide) rfl (fun ls hl => ?_)
          refine lv_goto (tgt := 5) hx hb dX7_firstRow_59 (by decide) ?_
          obtain ⟨h51, h52⟩ := h50
          exact ih6 ((x1_1, x2_1 + 1)) H locs ls ⟨⟨rx1_1, r49⟩, h51⟩ h52 hP hD hS (lv_sub hl [0, 1, 2] rfl)
        · have h53 := h44.1 c45
          refine lv_iload_n hx hb dX7_firstRow_50 rfl (lv_at hl 0 rfl) ?_
          refine lv_goto (tgt := 55) hx hb dX7_firstRow_51 (by decide) ?_
          refine lv_istore_n (lv' := [(1, .int (iI x2_1)), (2, .int (iI x2_1)), (0, .ref (a 0))]) hx hb dX7_firstRow_55 rfl hl (by decide) rfl (fun ls hl => ?_)
          obtain ⟨r54, h55⟩ := h53
          refine zr_iinc (x := x2_1) (lv' := [(2, .int (iI (x2_1 + 1))), (1, .int (iI x2_1)), (0, .ref (a 0))]) hx hb dX7_firstRow_56 hl (k := 1) rfl (by decide) rfl (fun ls hl => ?_)
          refine lv_goto (tgt := 5) hx hb dX7_firstRow_59 (by decide) ?_
          obtain ⟨h56, h57⟩ := h55
          exact ih6 ((x2_1, x2_1 + 1)) H locs ls ⟨⟨rx2_1, r54⟩, h56⟩ h57 hP hD hS (lv_sub hl [0, 1, 2] rfl)
theorem c_X7_firstRow (l : Launch) (G : ZG) (a : Nat → Nat) (s : SS)   (r_s : RG s)  (p0 : Vb (s.2 0)) : ZI l G yX7_firstRow wsX7_firstRow 2 42 [.ref (a 0)] (W7 G a s) (fun _ : Unit => W7 G a s) (fun (z : Int) (_ : Unit) => z = (frV (s.2 0)) ∧ rg z) := by
  refine ZI.fn (w1 := fun u : Unit => W7 G a s) (fun z u hq => ?_) (c0_X7_firstRow l G a s (fun z => z = (frV (s.2 0))) r_s  (sp_X7_firstRow s r_s  p0))
  obtain ⟨rz, ez⟩ := hq
  exact ⟨rfl, ⟨ez, rz⟩⟩
theorem imX7_lastOfOutput_X7 : ∀ w ∈ wsX70, w ∈ wsX7_lastOfOutput := fun _ h => (List.mem_cons_of_mem _ (List.mem_append_right _ h))
theorem hdX7_lastOfOutput : yX7_lastOfOutput.cls = RX7 ∧ yX7_lastOfOutput.cls ≠ "java/lang/invoke/MethodHandle" ∧ yX7_lastOfOutput.cls ≠ "java/lang/invoke/VarHandle" ∧ (parseMethodDescriptor yX7_lastOfOutput.desc).map (fun d => d.parameters.length) = some 0 := by decide +kernel
set_option maxRecDepth 100000 in
set_option maxHeartbeats 4000000 in
theorem c0_X7_lastOfOutput (l : Launch) (G : ZG) (a : Nat → Nat) (s : SS)  (P : Int → Prop) (r_s : RG s)  (hwp : wp_X7_lastOfOutput s P) : ZI l G yX7_lastOfOutput wsX7_lastOfOutput 1 21 [.ref (a 0)] (W7 G a s) (fun u : Unit => W7 G a s) (fun (z : Int) (u : Unit) => rg z ∧ P z) := by
  unfold wp_X7_lastOfOutput at hwp
  refine zm_i (cc := cX7_lastOfOutput) (maxL := 3) (ret := some .int) (own := RX7) (lvs := [(0, .ref (a 0))]) (by decide) rfl rfl (Nat.le_of_ble_eq_true rfl) rfl ?_
  intro p e sT m args below meth c ls A hx hb hr hml hown hts hlocks hK hP hD hS hA hl
  have k1 := hts (.fieldLink RX7 7 "GrantedSortModel" "z" "[I") (List.mem_of_getElem? (i := 1) rfl)
  refine lv_bipush (v := iI (-6)) hx hb dX7_lastOfOutput_0 (by decide) ?_
  refine lv_istore_n (lv' := [(1, .int (iI (-6))), (0, .ref (a 0))]) hx hb dX7_lastOfOutput_2 rfl hl (by decide) rfl (fun ls hl => ?_)
  refine lv_iconst (v := iI 0) hx hb dX7_lastOfOutput_3 rfl ?_
  refine lv_istore_n (lv' := [(2, .int (iI 0)), (1, .int (iI (-6))), (0, .ref (a 0))]) hx hb dX7_lastOfOutput_4 rfl hl (by decide) rfl (fun ls hl => ?_)
  obtain ⟨I2, μ3, h4, h5⟩ := hwp
  refine zr_loop (G := G) (σ := Int × Int) (fun x_1 => (rg x_1.1 ∧ rg x_1.2) ∧ I2 x_1.1 x_1.2) (fun x_1 => μ3 x_1.1 x_1.2) (fun x_1 => W7 G a s) (fun x_1 => [(2, .int (iI x_1.2)), (1, .int (iI x_1.1)), (0, .ref (a 0))]) (((-6), 0)) ⟨⟨rg_m6, rg_0⟩, h4⟩ hP hD hS (lv_sub hl [0, 1, 2] rfl) ?_
  clear hP hD hS hl
  intro x_1 H locs ls ih6 h7 hP hD hS hl
  obtain ⟨x1_1, x2_1⟩ := x_1
  obtain ⟨⟨rx1_1, rx2_1⟩, h7⟩ := h7
  have h8 := h5 x1_1 x2_1 rx1_1 rx2_1 h7
  have hP : va_P G.1 vwCl (W7 G a s) H := hP
  have hD : va_D A (W7 G a s) := hD
  have hl : lv_has ls 3 [(2, .int (iI x2_1)), (1, .int (iI x1_1)), (0, .ref (a 0))] := hl
  refine lv_iload_n hx hb dX7_lastOfOutput_5 rfl (lv_at hl 0 rfl) ?_
  refine lv_aload_n hx hb dX7_lastOfOutput_6 rfl (lv_at hl 2 rfl) ?_
  refine va_get (v := .ref (a 1)) (ci := 7) (C := RX7) (T := TX7) (N := 12) hx hb hts imX7_lastOfOutput_X7 hown hK hP 0 rfl rfl 0 (by decide) k1 (fun _ h9 => h9) rfl dX7_lastOfOutput_7 ?_
  refine lv_iconst (v := iI 3) hx hb dX7_lastOfOutput_10 rfl ?_
  refine zr_iald (n := 370) (f := (s.2 0)) (i := 3) hx hb hK hP 1 rfl rg_3 ⟨by decide, by decide⟩ dX7_lastOfOutput_11 ?_
  refine zr_icmp_ge (tgt := 63) (x := x2_1) (y := (s.2 0) 3) hx hb rx2_1 ((r_s.2 0) 3) dX7_lastOfOutput_12 (by decide) (fun c9 => ?_) (fun c9 => ?_)
  · have h12 := h8.2 c9
    refine lv_iload_n hx hb dX7_lastOfOutput_63 rfl (lv_at hl 1 rfl) ?_
    exact zr_iret (z := x1_1) hx hb hr hlocks hK () hP hD hS dX7_lastOfOutput_64 ⟨rx1_1, h12⟩
  · have h13 := h8.1 c9
    refine lv_aload_n hx hb dX7_lastOfOutput_15 rfl (lv_at hl 2 rfl) ?_
    refine lv_iload_n hx hb dX7_lastOfOutput_16 rfl (lv_at hl 0 rfl) ?_
    obtain ⟨b14, h15⟩ := h13
    refine zc_vi (As := [.int (iI x2_1)]) (rest := []) (w2 := fun u_16 => W7 G a s) (c_X7_place l G a s x2_1 r_s rx2_1 b14) ⟨hx, hb, hml, hown, hts⟩ (cwV 1 hts gX7_lastOfOutput_X7_place rfl rfl rfl hdX7_place ⟨Nat.le_of_ble_eq_true rfl, Nat.le_of_ble_eq_true rfl⟩) hK hP hD hS hA (q0 := 0) rfl rfl [0, 1, 2, 3, 4, 5, 6] [] [0, 1, 2, 3, 4, 5, 6] rfl rfl rfl rfl (by decide) (fun _ => rfl) rfl rfl hl.1 rfl (Nat.le_of_ble_eq_true rfl) dX7_lastOfOutput_17 ⟨Nat.zero_le _, Nat.zero_le _⟩ (fun z17 u_16 H locs hw hP hD hS => ?_)
    obtain ⟨rfl, r18⟩ := hw
    have hP : va_P G.1 vwCl (W7 G a s) H := hP
    have hD : va_D A (W7 G a s) := hD
    refine lv_iconst (v := iI 2) hx hb dX7_lastOfOutput_20 rfl ?_
    refine zr_icmp_ne (tgt := 55) (x := (s.2 0) (250 + x2_1)) (y := 2) hx hb r18 rg_2 dX7_lastOfOutput_21 (by decide) (fun c19 => ?_) (fun c19 => ?_)
    · have h22 := h15.2 c19
      refine lv_iload_n hx hb dX7_lastOfOutput_55 rfl (lv_at hl 1 rfl) ?_
      refine lv_istore_n (lv' := [(1, .int (iI x1_1)), (2, .int (iI x2_1)), (0, .ref (a 0))]) hx hb dX7_lastOfOutput_56 rfl hl (by decide) rfl (fun ls hl => ?_)
      obtain ⟨r23, h24⟩ := h22
      refine zr_iinc (x := x2_1) (lv' := [(2, .int (iI (x2_1 + 1))), (1, .int (iI x1_1)), (0, .ref (a 0))]) hx hb dX7_lastOfOutput_57 hl (k := 1) rfl (by decide) rfl (fun ls hl => ?_)
      refine lv_goto (tgt := 5) hx hb dX7_lastOfOutput_60 (by decide) ?_
      obtain ⟨h25, h26⟩ := h24
      exact ih6 ((x1_1, x2_1 + 1)) H locs ls ⟨⟨rx1_1, r23⟩, h25⟩ h26 hP hD hS (lv_sub hl [0, 1, 2] rfl)
    · have h27 := h15.1 c19
      refine lv_iload_n hx hb dX7_lastOfOutput_24 rfl (lv_at hl 1 rfl) ?_
      refine lv_bipush (v := iI (-6)) hx hb dX7_lastOfOutput_25 (by decide) ?_
      refine zr_icmp_eq (tgt := 51) (x := x1_1) (y := (-6)) hx hb rx1_1 rg_m6 dX7_lastOfOutput_27 (by decide) (fun c28 => ?_) (fun c28 => ?_)
      · have h31 := h27.1 c28
        refine lv_iload_n hx hb dX7_lastOfOutput_51 rfl (lv_at hl 0 rfl) ?_
        refine lv_goto (tgt := 56) hx hb dX7_lastOfOutput_52 (by decide) ?_
        refine lv_istore_n (lv' := [(1, .int (iI x2_1)), (2, .int (iI x2_1)), (0, .ref (a 0))]) hx hb dX7_lastOfOutput_56 rfl hl (by decide) rfl (fun ls hl => ?_)
        obtain ⟨r32, h33⟩ := h31
        refine zr_iinc (x := x2_1) (lv' := [(2, .int (iI (x2_1 + 1))), (1, .int (iI x2_1)), (0, .ref (a 0))]) hx hb dX7_lastOfOutput_57 hl (k := 1) rfl (by decide) rfl (fun ls hl => ?_)
        refine lv_goto (tgt := 5) hx hb dX7_lastOfOutput_60 (by decide) ?_
        obtain ⟨h34, h35⟩ := h33
        exact ih6 ((x2_1, x2_1 + 1)) H locs ls ⟨⟨rx2_1, r32⟩, h34⟩ h35 hP hD hS (lv_sub hl [0, 1, 2] rfl)
      · have h36 := h27.2 c28
        refine lv_aload_n hx hb dX7_lastOfOutput_30 rfl (lv_at hl 2 rfl) ?_
        refine va_get (v := .ref (a 1)) (ci := 7) (C := RX7) (T := TX7) (N := 12) hx hb hts imX7_lastOfOutput_X7 hown hK hP 0 rfl rfl 0 (by decide) k1 (fun _ h9 => h9) rfl dX7_lastOfOutput_31 ?_
        refine lv_bipush (v := iI 10) hx hb dX7_lastOfOutput_34 (by decide) ?_
        refine lv_iload_n hx hb dX7_lastOfOutput_36 rfl (lv_at hl 0 rfl) ?_
        refine zr_iadd (x := 10) (y := x2_1) hx hb dX7_lastOfOutput_37 ?_
        obtain ⟨r37, h38⟩ := h36
        obtain ⟨b39, h40⟩ := h38
        refine zr_iald (n := 370) (f := (s.2 0)) (i := 10 + x2_1) hx hb hK hP 1 rfl r37 b39 dX7_lastOfOutput_38 ?_
        refine lv_aload_n hx hb dX7_lastOfOutput_39 rfl (lv_at hl 2 rfl) ?_
        refine va_get (v := .ref (a 1)) (ci := 7) (C := RX7) (T := TX7) (N := 12) hx hb hts imX7_lastOfOutput_X7 hown hK hP 0 rfl rfl 0 (by decide) k1 (fun _ h9 => h9) rfl dX7_lastOfOutput_40 ?_
        refine lv_bipush (v := iI 10) hx hb dX7_lastOfOutput_43 (by decide) ?_
        refine lv_iload_n hx hb dX7_lastOfOutput_45 rfl (lv_at hl 1 rfl) ?_
        refine zr_iadd (x := 10) (y := x1_1) hx hb dX7_lastOfOutput_46 ?_
        obtain ⟨r41, h42⟩ := h40
        obtain ⟨b43, h44⟩ := h42
        refine zr_iald (n := 370) (f := (s.2 0)) (i := 10 + x1_1) hx hb hK hP 1 rfl r41 b43 dX7_lastOfOutput_47 ?_
        refine zr_icmp_lt (tgt := 55) (x := (s.2 0) (10 + x2_1)) (y := (s.2 0) (10 + x1_1)) hx hb ((r_s.2 0) (10 + x2_1)) ((r_s.2 0) (10 + x1_1)) dX7_lastOfOutput_48 (by decide) (fun c45 => ?_) (fun c45 => ?_)
        · have h48 := h44.1 c45
          refine lv_iload_n hx hb dX7_lastOfOutput_55 rfl (lv_at hl 1 rfl) ?_
          refine lv_istore_n (lv' := [(1, .int (iI x1_1)), (2, .int (iI x2_1)), (0, .ref (a 0))]) hx hb dX7_lastOfOutput_56 rfl hl (by decide) rfl (fun ls hl => ?_)
          obtain ⟨r49, h50⟩ := h48
          refine zr_iinc (x := x2_1) (lv' := [(2, .int (iI (x2_1 + 1))), (1, .int (iI x1_1)), (0, .ref (a 0))]) hx hb dX7_lastOfOutput_57 hl (k := 1) rfl (by decide) rfl (fun ls hl => ?_)
          refine lv_goto (tgt := 5) hx hb dX7_lastOfOutput_60 (by decide) ?_
          obtain ⟨h51, h52⟩ := h50
          exact ih6 ((x1_1, x2_1 + 1)) H locs ls ⟨⟨rx1_1, r49⟩, h51⟩ h52 hP hD hS (lv_sub hl [0, 1, 2] rfl)
        · have h53 := h44.2 c45
          refine lv_iload_n hx hb dX7_lastOfOutput_51 rfl (lv_at hl 0 rfl) ?_
          refine lv_goto (tgt := 56) hx hb dX7_lastOfOutput_52 (by decide) ?_
          refine lv_istore_n (lv' := [(1, .int (iI x2_1)), (2, .int (iI x2_1)), (0, .ref (a 0))]) hx hb dX7_lastOfOutput_56 rfl hl (by decide) rfl (fun ls hl => ?_)
          obtain ⟨r54, h55⟩ := h53
          refine zr_iinc (x := x2_1) (lv' := [(2, .int (iI (x2_1 + 1))), (1, .int (iI x2_1)), (0, .ref (a 0))]) hx hb dX7_lastOfOutput_57 hl (k := 1) rfl (by decide) rfl (fun ls hl => ?_)
          refine lv_goto (tgt := 5) hx hb dX7_lastOfOutput_60 (by decide) ?_
          obtain ⟨h56, h57⟩ := h55
          exact ih6 ((x2_1, x2_1 + 1)) H locs ls ⟨⟨rx2_1, r54⟩, h56⟩ h57 hP hD hS (lv_sub hl [0, 1, 2] rfl)
theorem c_X7_lastOfOutput (l : Launch) (G : ZG) (a : Nat → Nat) (s : SS)   (r_s : RG s)  (p0 : Vb (s.2 0)) : ZI l G yX7_lastOfOutput wsX7_lastOfOutput 1 21 [.ref (a 0)] (W7 G a s) (fun _ : Unit => W7 G a s) (fun (z : Int) (_ : Unit) => z = (loV (s.2 0)) ∧ rg z) := by
  refine ZI.fn (w1 := fun u : Unit => W7 G a s) (fun z u hq => ?_) (c0_X7_lastOfOutput l G a s (fun z => z = (loV (s.2 0))) r_s  (sp_X7_lastOfOutput s r_s  p0))
  obtain ⟨rz, ez⟩ := hq
  exact ⟨rfl, ⟨ez, rz⟩⟩
theorem hdX7_smallest : yX7_smallest.cls = RX7 ∧ yX7_smallest.cls ≠ "java/lang/invoke/MethodHandle" ∧ yX7_smallest.cls ≠ "java/lang/invoke/VarHandle" ∧ (parseMethodDescriptor yX7_smallest.desc).map (fun d => d.parameters.length) = some 0 := by decide +kernel
set_option maxRecDepth 100000 in
set_option maxHeartbeats 4000000 in
theorem c0_X7_smallest (l : Launch) (G : ZG) (a : Nat → Nat) (s : SS)  (P : Int → Prop) (r_s : RG s)  (hwp : wp_X7_smallest s P) : ZI l G yX7_smallest wsX7_smallest 2 46 [.ref (a 0)] (W7 G a s) (fun u : Unit => W7 G a s) (fun (z : Int) (u : Unit) => rg z ∧ P z) := by
  unfold wp_X7_smallest at hwp
  refine zm_i (cc := cX7_smallest) (maxL := 6) (ret := some .int) (own := RX7) (lvs := [(0, .ref (a 0))]) (by decide) rfl rfl (Nat.le_of_ble_eq_true rfl) rfl ?_
  intro p e sT m args below meth c ls A hx hb hr hml hown hts hlocks hK hP hD hS hA hl
  refine lv_bipush (v := iI (-6)) hx hb dX7_smallest_0 (by decide) ?_
  refine lv_istore_n (lv' := [(1, .int (iI (-6))), (0, .ref (a 0))]) hx hb dX7_smallest_2 rfl hl (by decide) rfl (fun ls hl => ?_)
  refine lv_iconst (v := iI 0) hx hb dX7_smallest_3 rfl ?_
  refine lv_istore_n (lv' := [(2, .int (iI 0)), (1, .int (iI (-6))), (0, .ref (a 0))]) hx hb dX7_smallest_4 rfl hl (by decide) rfl (fun ls hl => ?_)
  refine lv_aload_n hx hb dX7_smallest_5 rfl (lv_at hl 2 rfl) ?_
  refine lv_iconst (v := iI 0) hx hb dX7_smallest_6 rfl ?_
  refine lv_iconst (v := iI 0) hx hb dX7_smallest_7 rfl ?_
  obtain ⟨b1, h2⟩ := hwp
  refine zc_vi (As := [.int (iI 0), .int (iI 0)]) (rest := []) (w2 := fun u_3 => W7 G a s) (c_X7_nextPlace l G a s 0 0 r_s rg_0 rg_0 b1) ⟨hx, hb, hml, hown, hts⟩ (cwV 2 hts gX7_smallest_X7_nextPlace rfl rfl rfl hdX7_nextPlace ⟨Nat.le_of_ble_eq_true rfl, Nat.le_of_ble_eq_true rfl⟩) hK hP hD hS hA (q0 := 0) rfl rfl [0, 1, 2, 3, 4, 5, 6] [] [0, 1, 2, 3, 4, 5, 6] rfl rfl rfl rfl (by decide) (fun _ => rfl) rfl rfl hl.1 rfl (Nat.le_of_ble_eq_true rfl) dX7_smallest_8 ⟨Nat.zero_le _, Nat.zero_le _⟩ (fun z4 u_3 H locs hw hP hD hS => ?_)
  obtain ⟨rfl, r5⟩ := hw
  have hP : va_P G.1 vwCl (W7 G a s) H := hP
  have hD : va_D A (W7 G a s) := hD
  refine lv_istore_n (lv' := [(3, .int (iI (nxP (s.2 0) (0 : Int) (0 : Int) ((s.2 0) 3).toNat))), (2, .int (iI 0)), (1, .int (iI (-6))), (0, .ref (a 0))]) hx hb dX7_smallest_11 rfl hl (by decide) rfl (fun ls hl => ?_)
  obtain ⟨I7, μ8, h9, h10⟩ := h2
  refine zr_loop (G := G) (σ := Int × Int × Int) (fun x_6 => (rg x_6.1 ∧ rg x_6.2.1 ∧ rg x_6.2.2) ∧ I7 x_6.1 x_6.2.1 x_6.2.2) (fun x_6 => μ8 x_6.1 x_6.2.1 x_6.2.2) (fun x_6 => W7 G a s) (fun x_6 => [(3, .int (iI x_6.2.2)), (2, .int (iI x_6.2.1)), (1, .int (iI x_6.1)), (0, .ref (a 0))]) (((-6), 0, nxP (s.2 0) (0 : Int) (0 : Int) ((s.2 0) 3).toNat)) ⟨⟨rg_m6, rg_0, r5⟩, h9⟩ hP hD hS (lv_sub hl [0, 1, 2, 3] rfl) ?_
  clear hP hD hS hl
  intro x_6 H locs ls ih11 h12 hP hD hS hl
  obtain ⟨x1_6, x2_6, x3_6⟩ := x_6
  obtain ⟨⟨rx1_6, rx2_6, rx3_6⟩, h12⟩ := h12
  have h13 := h10 x1_6 x2_6 x3_6 rx1_6 rx2_6 rx3_6 h12
  have hP : va_P G.1 vwCl (W7 G a s) H := hP
  have hD : va_D A (W7 G a s) := hD
  have hl : lv_has ls 6 [(3, .int (iI x3_6)), (2, .int (iI x2_6)), (1, .int (iI x1_6)), (0, .ref (a 0))] := hl
  refine lv_iload_n hx hb dX7_smallest_12 rfl (lv_at hl 0 rfl) ?_
  refine lv_bipush (v := iI (-6)) hx hb dX7_smallest_13 (by decide) ?_
  refine zr_icmp_eq (tgt := 77) (x := x3_6) (y := (-6)) hx hb rx3_6 rg_m6 dX7_smallest_15 (by decide) (fun c14 => ?_) (fun c14 => ?_)
  · have h17 := h13.1 c14
    refine lv_iload_n hx hb dX7_smallest_77 rfl (lv_at hl 2 rfl) ?_
    exact zr_iret (z := x1_6) hx hb hr hlocks hK () hP hD hS dX7_smallest_78 ⟨rx1_6, h17⟩
  · have h18 := h13.2 c14
    refine lv_aload_n hx hb dX7_smallest_18 rfl (lv_at hl 3 rfl) ?_
    refine lv_iload_n hx hb dX7_smallest_19 rfl (lv_at hl 0 rfl) ?_
    refine zc_vi (As := [.int (iI x3_6)]) (rest := []) (w2 := fun u_19 => W7 G a s) (c_X7_rowsAt l G a s x3_6 r_s rx3_6 b1) ⟨hx, hb, hml, hown, hts⟩ (cwV 1 hts gX7_smallest_X7_rowsAt rfl rfl rfl hdX7_rowsAt ⟨Nat.le_of_ble_eq_true rfl, Nat.le_of_ble_eq_true rfl⟩) hK hP hD hS hA (q0 := 0) rfl rfl [0, 1, 2, 3, 4, 5, 6] [] [0, 1, 2, 3, 4, 5, 6] rfl rfl rfl rfl (by decide) (fun _ => rfl) rfl rfl hl.1 rfl (Nat.le_of_ble_eq_true rfl) dX7_smallest_20 ⟨Nat.zero_le _, Nat.zero_le _⟩ (fun z20 u_19 H locs hw hP hD hS => ?_)
    obtain ⟨rfl, r21⟩ := hw
    have hP : va_P G.1 vwCl (W7 G a s) H := hP
    have hD : va_D A (W7 G a s) := hD
    refine lv_istore (lv' := [(4, .int (iI (rowsAt (s.2 0) x3_6))), (3, .int (iI x3_6)), (2, .int (iI x2_6)), (1, .int (iI x1_6)), (0, .ref (a 0))]) hx hb dX7_smallest_23 hl (by decide) rfl (fun ls hl => ?_)
    refine lv_iload_n hx hb dX7_smallest_25 rfl (lv_at hl 3 rfl) ?_
    refine lv_bipush (v := iI (-6)) hx hb dX7_smallest_26 (by decide) ?_
    refine zr_icmp_eq (tgt := 37) (x := x1_6) (y := (-6)) hx hb rx1_6 rg_m6 dX7_smallest_28 (by decide) (fun c22 => ?_) (fun c22 => ?_)
    · have h25 := h18.1 c22
      refine lv_iconst (v := iI 1) hx hb dX7_smallest_37 rfl ?_
      refine lv_goto (tgt := 42) hx hb dX7_smallest_38 (by decide) ?_
      refine lv_istore (lv' := [(5, .int (iI 1)), (4, .int (iI (rowsAt (s.2 0) x3_6))), (3, .int (iI x3_6)), (2, .int (iI x2_6)), (1, .int (iI x1_6)), (0, .ref (a 0))]) hx hb dX7_smallest_42 hl (by decide) rfl (fun ls hl => ?_)
      refine lv_iload hx hb dX7_smallest_44 (lv_at hl 0 rfl) ?_
      refine zr_if_eq (tgt := 53) (x := 1) hx hb rg_1 dX7_smallest_46 (by decide) (fun c => absurd c (by decide)) (fun _ => ?_)
      refine lv_iload_n hx hb dX7_smallest_49 rfl (lv_at hl 2 rfl) ?_
      refine lv_goto (tgt := 54) hx hb dX7_smallest_50 (by decide) ?_
      refine lv_istore_n (lv' := [(1, .int (iI x3_6)), (5, .int (iI 1)), (4, .int (iI (rowsAt (s.2 0) x3_6))), (3, .int (iI x3_6)), (2, .int (iI x2_6)), (0, .ref (a 0))]) hx hb dX7_smallest_54 rfl hl (by decide) rfl (fun ls hl => ?_)
      refine lv_iload hx hb dX7_smallest_55 (lv_at hl 1 rfl) ?_
      refine zr_if_eq (tgt := 65) (x := 1) hx hb rg_1 dX7_smallest_57 (by decide) (fun c => absurd c (by decide)) (fun _ => ?_)
      refine lv_iload hx hb dX7_smallest_60 (lv_at hl 2 rfl) ?_
      refine lv_goto (tgt := 66) hx hb dX7_smallest_62 (by decide) ?_
      refine lv_istore_n (lv' := [(2, .int (iI (rowsAt (s.2 0) x3_6))), (1, .int (iI x3_6)), (5, .int (iI 1)), (4, .int (iI (rowsAt (s.2 0) x3_6))), (3, .int (iI x3_6)), (0, .ref (a 0))]) hx hb dX7_smallest_66 rfl hl (by decide) rfl (fun ls hl => ?_)
      refine lv_aload_n hx hb dX7_smallest_67 rfl (lv_at hl 5 rfl) ?_
      refine lv_iload_n hx hb dX7_smallest_68 rfl (lv_at hl 4 rfl) ?_
      refine lv_iconst (v := iI 0) hx hb dX7_smallest_69 rfl ?_
      refine zc_vi (As := [.int (iI x3_6), .int (iI 0)]) (rest := []) (w2 := fun u_26 => W7 G a s) (c_X7_nextPlace l G a s x3_6 0 r_s rx3_6 rg_0 b1) ⟨hx, hb, hml, hown, hts⟩ (cwV 2 hts gX7_smallest_X7_nextPlace rfl rfl rfl hdX7_nextPlace ⟨Nat.le_of_ble_eq_true rfl, Nat.le_of_ble_eq_true rfl⟩) hK hP hD hS hA (q0 := 0) rfl rfl [0, 1, 2, 3, 4, 5, 6] [] [0, 1, 2, 3, 4, 5, 6] rfl rfl rfl rfl (by decide) (fun _ => rfl) rfl rfl hl.1 rfl (Nat.le_of_ble_eq_true rfl) dX7_smallest_70 ⟨Nat.zero_le _, Nat.zero_le _⟩ (fun z27 u_26 H locs hw hP hD hS => ?_)
      obtain ⟨rfl, r28⟩ := hw
      have hP : va_P G.1 vwCl (W7 G a s) H := hP
      have hD : va_D A (W7 G a s) := hD
      refine lv_istore_n (lv' := [(3, .int (iI (nxP (s.2 0) x3_6 (0 : Int) ((s.2 0) 3).toNat))), (2, .int (iI (rowsAt (s.2 0) x3_6))), (1, .int (iI x3_6)), (5, .int (iI 1)), (4, .int (iI (rowsAt (s.2 0) x3_6))), (0, .ref (a 0))]) hx hb dX7_smallest_73 rfl hl (by decide) rfl (fun ls hl => ?_)
      refine lv_goto (tgt := 12) hx hb dX7_smallest_74 (by decide) ?_
      obtain ⟨h29, h30⟩ := h25
      exact ih11 ((x3_6, rowsAt (s.2 0) x3_6, nxP (s.2 0) x3_6 (0 : Int) ((s.2 0) 3).toNat)) H locs ls ⟨⟨rx3_6, r21, r28⟩, h29⟩ h30 hP hD hS (lv_sub hl [0, 1, 2, 5] rfl)
    · have h31 := h18.2 c22
      refine lv_iload hx hb dX7_smallest_31 (lv_at hl 0 rfl) ?_
      refine lv_iload_n hx hb dX7_smallest_33 rfl (lv_at hl 2 rfl) ?_
      refine zr_icmp_ge (tgt := 41) (x := rowsAt (s.2 0) x3_6) (y := x2_6) hx hb r21 rx2_6 dX7_smallest_34 (by decide) (fun c32 => ?_) (fun c32 => ?_)
      · have h35 := h31.2 c32
        refine lv_iconst (v := iI 0) hx hb dX7_smallest_41 rfl ?_
        refine lv_istore (lv' := [(5, .int (iI 0)), (4, .int (iI (rowsAt (s.2 0) x3_6))), (3, .int (iI x3_6)), (2, .int (iI x2_6)), (1, .int (iI x1_6)), (0, .ref (a 0))]) hx hb dX7_smallest_42 hl (by decide) rfl (fun ls hl => ?_)
        refine lv_iload hx hb dX7_smallest_44 (lv_at hl 0 rfl) ?_
        refine zr_if_eq (tgt := 53) (x := 0) hx hb rg_0 dX7_smallest_46 (by decide) (fun _ => ?_) (fun c => absurd (by decide) c)
        refine lv_iload_n hx hb dX7_smallest_53 rfl (lv_at hl 4 rfl) ?_
        refine lv_istore_n (lv' := [(1, .int (iI x1_6)), (5, .int (iI 0)), (4, .int (iI (rowsAt (s.2 0) x3_6))), (3, .int (iI x3_6)), (2, .int (iI x2_6)), (0, .ref (a 0))]) hx hb dX7_smallest_54 rfl hl (by decide) rfl (fun ls hl => ?_)
        refine lv_iload hx hb dX7_smallest_55 (lv_at hl 1 rfl) ?_
        refine zr_if_eq (tgt := 65) (x := 0) hx hb rg_0 dX7_smallest_57 (by decide) (fun _ => ?_) (fun c => absurd (by decide) c)
        refine lv_iload_n hx hb dX7_smallest_65 rfl (lv_at hl 4 rfl) ?_
        refine lv_istore_n (lv' := [(2, .int (iI x2_6)), (1, .int (iI x1_6)), (5, .int (iI 0)), (4, .int (iI (rowsAt (s.2 0) x3_6))), (3, .int (iI x3_6)), (0, .ref (a 0))]) hx hb dX7_smallest_66 rfl hl (by decide) rfl (fun ls hl => ?_)
        refine lv_aload_n hx hb dX7_smallest_67 rfl (lv_at hl 5 rfl) ?_
        refine lv_iload_n hx hb dX7_smallest_68 rfl (lv_at hl 4 rfl) ?_
        refine lv_iconst (v := iI 0) hx hb dX7_smallest_69 rfl ?_
        refine zc_vi (As := [.int (iI x3_6), .int (iI 0)]) (rest := []) (w2 := fun u_36 => W7 G a s) (c_X7_nextPlace l G a s x3_6 0 r_s rx3_6 rg_0 b1) ⟨hx, hb, hml, hown, hts⟩ (cwV 2 hts gX7_smallest_X7_nextPlace rfl rfl rfl hdX7_nextPlace ⟨Nat.le_of_ble_eq_true rfl, Nat.le_of_ble_eq_true rfl⟩) hK hP hD hS hA (q0 := 0) rfl rfl [0, 1, 2, 3, 4, 5, 6] [] [0, 1, 2, 3, 4, 5, 6] rfl rfl rfl rfl (by decide) (fun _ => rfl) rfl rfl hl.1 rfl (Nat.le_of_ble_eq_true rfl) dX7_smallest_70 ⟨Nat.zero_le _, Nat.zero_le _⟩ (fun z37 u_36 H locs hw hP hD hS => ?_)
        obtain ⟨rfl, r38⟩ := hw
        have hP : va_P G.1 vwCl (W7 G a s) H := hP
        have hD : va_D A (W7 G a s) := hD
        refine lv_istore_n (lv' := [(3, .int (iI (nxP (s.2 0) x3_6 (0 : Int) ((s.2 0) 3).toNat))), (2, .int (iI x2_6)), (1, .int (iI x1_6)), (5, .int (iI 0)), (4, .int (iI (rowsAt (s.2 0) x3_6))), (0, .ref (a 0))]) hx hb dX7_smallest_73 rfl hl (by decide) rfl (fun ls hl => ?_)
        refine lv_goto (tgt := 12) hx hb dX7_smallest_74 (by decide) ?_
        obtain ⟨h39, h40⟩ := h35
        exact ih11 ((x1_6, x2_6, nxP (s.2 0) x3_6 (0 : Int) ((s.2 0) 3).toNat)) H locs ls ⟨⟨rx1_6, rx2_6, r38⟩, h39⟩ h40 hP hD hS (lv_sub hl [0, 1, 2, 5] rfl)
      · have h41 := h31.1 c32
        refine lv_iconst (v := iI 1) hx hb dX7_smallest_37 rfl ?_
        refine lv_goto (tgt := 42) hx hb dX7_smallest_38 (by decide) ?_
        refine lv_istore (lv' := [(5, .int (iI 1)), (4, .int (iI (rowsAt (s.2 0) x3_6))), (3, .int (iI x3_6)), (2, .int (iI x2_6)), (1, .int (iI x1_6)), (0, .ref (a 0))]) hx hb dX7_smallest_42 hl (by decide) rfl (fun ls hl => ?_)
        refine lv_iload hx hb dX7_smallest_44 (lv_at hl 0 rfl) ?_
        refine zr_if_eq (tgt := 53) (x := 1) hx hb rg_1 dX7_smallest_46 (by decide) (fun c => absurd c (by decide)) (fun _ => ?_)
        refine lv_iload_n hx hb dX7_smallest_49 rfl (lv_at hl 2 rfl) ?_
        refine lv_goto (tgt := 54) hx hb dX7_smallest_50 (by decide) ?_
        refine lv_istore_n (lv' := [(1, .int (iI x3_6)), (5, .int (iI 1)), (4, .int (iI (rowsAt (s.2 0) x3_6))), (3, .int (iI x3_6)), (2, .int (iI x2_6)), (0, .ref (a 0))]) hx hb dX7_smallest_54 rfl hl (by decide) rfl (fun ls hl => ?_)
        refine lv_iload hx hb dX7_smallest_55 (lv_at hl 1 rfl) ?_
        refine zr_if_eq (tgt := 65) (x := 1) hx hb rg_1 dX7_smallest_57 (by decide) (fun c => absurd c (by decide)) (fun _ => ?_)
        refine lv_iload hx hb dX7_smallest_60 (lv_at hl 2 rfl) ?_
        refine lv_goto (tgt := 66) hx hb dX7_smallest_62 (by decide) ?_
        refine lv_istore_n (lv' := [(2, .int (iI (rowsAt (s.2 0) x3_6))), (1, .int (iI x3_6)), (5, .int (iI 1)), (4, .int (iI (rowsAt (s.2 0) x3_6))), (3, .int (iI x3_6)), (0, .ref (a 0))]) hx hb dX7_smallest_66 rfl hl (by decide) rfl (fun ls hl => ?_)
        refine lv_aload_n hx hb dX7_smallest_67 rfl (lv_at hl 5 rfl) ?_
        refine lv_iload_n hx hb dX7_smallest_68 rfl (lv_at hl 4 rfl) ?_
        refine lv_iconst (v := iI 0) hx hb dX7_smallest_69 rfl ?_
        refine zc_vi (As := [.int (iI x3_6), .int (iI 0)]) (rest := []) (w2 := fun u_42 => W7 G a s) (c_X7_nextPlace l G a s x3_6 0 r_s rx3_6 rg_0 b1) ⟨hx, hb, hml, hown, hts⟩ (cwV 2 hts gX7_smallest_X7_nextPlace rfl rfl rfl hdX7_nextPlace ⟨Nat.le_of_ble_eq_true rfl, Nat.le_of_ble_eq_true rfl⟩) hK hP hD hS hA (q0 := 0) rfl rfl [0, 1, 2, 3, 4, 5, 6] [] [0, 1, 2, 3, 4, 5, 6] rfl rfl rfl rfl (by decide) (fun _ => rfl) rfl rfl hl.1 rfl (Nat.le_of_ble_eq_true rfl) dX7_smallest_70 ⟨Nat.zero_le _, Nat.zero_le _⟩ (fun z43 u_42 H locs hw hP hD hS => ?_)
        obtain ⟨rfl, r44⟩ := hw
        have hP : va_P G.1 vwCl (W7 G a s) H := hP
        have hD : va_D A (W7 G a s) := hD
        refine lv_istore_n (lv' := [(3, .int (iI (nxP (s.2 0) x3_6 (0 : Int) ((s.2 0) 3).toNat))), (2, .int (iI (rowsAt (s.2 0) x3_6))), (1, .int (iI x3_6)), (5, .int (iI 1)), (4, .int (iI (rowsAt (s.2 0) x3_6))), (0, .ref (a 0))]) hx hb dX7_smallest_73 rfl hl (by decide) rfl (fun ls hl => ?_)
        refine lv_goto (tgt := 12) hx hb dX7_smallest_74 (by decide) ?_
        obtain ⟨h45, h46⟩ := h41
        exact ih11 ((x3_6, rowsAt (s.2 0) x3_6, nxP (s.2 0) x3_6 (0 : Int) ((s.2 0) 3).toNat)) H locs ls ⟨⟨rx3_6, r21, r44⟩, h45⟩ h46 hP hD hS (lv_sub hl [0, 1, 2, 5] rfl)
theorem c_X7_smallest (l : Launch) (G : ZG) (a : Nat → Nat) (s : SS)   (r_s : RG s)  (p0 : Vb (s.2 0)) (p1 : 0 < manyZ (s.2 0) 0) : ZI l G yX7_smallest wsX7_smallest 2 46 [.ref (a 0)] (W7 G a s) (fun _ : Unit => W7 G a s) (fun (z : Int) (_ : Unit) => z = (smlZ (s.2 0)) ∧ rg z) := by
  refine ZI.fn (w1 := fun u : Unit => W7 G a s) (fun z u hq => ?_) (c0_X7_smallest l G a s (fun z => z = (smlZ (s.2 0))) r_s  (sp_X7_smallest s r_s  p0 p1))
  obtain ⟨rz, ez⟩ := hq
  exact ⟨rfl, ⟨ez, rz⟩⟩
theorem imX7_begins_X7 : ∀ w ∈ wsX70, w ∈ wsX7_begins := fun _ h => (List.mem_cons_of_mem _ (List.mem_append_right _ h))
theorem hdX7_begins : yX7_begins.cls = RX7 ∧ yX7_begins.cls ≠ "java/lang/invoke/MethodHandle" ∧ yX7_begins.cls ≠ "java/lang/invoke/VarHandle" ∧ (parseMethodDescriptor yX7_begins.desc).map (fun d => d.parameters.length) = some 0 := by decide +kernel
set_option maxRecDepth 100000 in
set_option maxHeartbeats 4000000 in
theorem c0_X7_begins (l : Launch) (G : ZG) (a : Nat → Nat) (s : SS)  (P : SS → Prop) (r_s : RG s)  (hwp : wp_X7_begins s P) : ZV l G yX7_begins wsX7_begins 4 89 [.ref (a 0)] (W7 G a s) (fun u : SS => W7 G a u) (fun (u : SS) => RG u ∧ P u) := by
  unfold wp_X7_begins at hwp
  refine zm_v (cc := cX7_begins) (maxL := 6) (ret := none) (own := RX7) (lvs := [(0, .ref (a 0))]) (by decide) rfl rfl (Nat.le_of_ble_eq_true rfl) rfl ?_
  intro p e sT m args below meth c ls A hx hb hr hml hown hts hlocks hK hP hD hS hA hl
  have k1 := hts (.fieldLink RX7 7 "GrantedSortModel" "z" "[I") (List.mem_of_getElem? (i := 1) rfl)
  refine lv_aload_n hx hb dX7_begins_0 rfl (lv_at hl 0 rfl) ?_
  obtain ⟨b1, h2⟩ := hwp
  refine zc_vi (As := []) (rest := []) (w2 := fun u_3 => W7 G a s) (c_X7_runMany l G a s r_s b1) ⟨hx, hb, hml, hown, hts⟩ (cwV 0 hts gX7_begins_X7_runMany rfl rfl rfl hdX7_runMany ⟨Nat.le_of_ble_eq_true rfl, Nat.le_of_ble_eq_true rfl⟩) hK hP hD hS hA (q0 := 0) rfl rfl [0, 1, 2, 3, 4, 5, 6] [] [0, 1, 2, 3, 4, 5, 6] rfl rfl rfl rfl (by decide) (fun _ => rfl) rfl rfl hl.1 rfl (Nat.le_of_ble_eq_true rfl) dX7_begins_1 ⟨Nat.zero_le _, Nat.zero_le _⟩ (fun z4 u_3 H locs hw hP hD hS => ?_)
  obtain ⟨rfl, r5⟩ := hw
  have hP : va_P G.1 vwCl (W7 G a s) H := hP
  have hD : va_D A (W7 G a s) := hD
  refine lv_istore_n (lv' := [(1, .int (iI (manyZ (s.2 0) 0))), (0, .ref (a 0))]) hx hb dX7_begins_4 rfl hl (by decide) rfl (fun ls hl => ?_)
  refine lv_aload_n hx hb dX7_begins_5 rfl (lv_at hl 1 rfl) ?_
  refine va_get (v := .ref (a 1)) (ci := 7) (C := RX7) (T := TX7) (N := 12) hx hb hts imX7_begins_X7 hown hK hP 0 rfl rfl 0 (by decide) k1 (fun _ h9 => h9) rfl dX7_begins_6 ?_
  refine lv_iconst (v := iI 0) hx hb dX7_begins_9 rfl ?_
  refine zr_iald (n := 370) (f := (s.2 0)) (i := 0) hx hb hK hP 1 rfl rg_0 ⟨by decide, by decide⟩ dX7_begins_10 ?_
  obtain ⟨b6, h7⟩ := h2
  refine zc_si (As := [.int (iI ((s.2 0) 0))]) (rest := []) (c_X7_waysOf l G ((s.2 0) 0) ((r_s.2 0) 0) b6) ⟨hx, hb, hml, hown, hts⟩ (va_cwS 1 hts gX7_begins_X7_waysOf rfl rfl rfl hdX7_waysOf ⟨Nat.le_of_ble_eq_true rfl, Nat.le_of_ble_eq_true rfl⟩) hK hP hD hS hA rfl hl.1 rfl (Nat.le_of_ble_eq_true rfl) dX7_begins_11 ⟨Nat.zero_le _, Nat.zero_le _⟩ (fun z9 H locs hw hP hD hS => ?_)
  obtain ⟨rfl, r10⟩ := hw
  have hP : va_P G.1 vwCl (W7 G a s) H := hP
  have hD : va_D A (W7 G a s) := hD
  refine lv_istore_n (lv' := [(2, .int (iI (waysZ ((s.2 0) 0)))), (1, .int (iI (manyZ (s.2 0) 0))), (0, .ref (a 0))]) hx hb dX7_begins_14 rfl hl (by decide) rfl (fun ls hl => ?_)
  refine lv_aload_n hx hb dX7_begins_15 rfl (lv_at hl 2 rfl) ?_
  refine va_get (v := .ref (a 1)) (ci := 7) (C := RX7) (T := TX7) (N := 12) hx hb hts imX7_begins_X7 hown hK hP 0 rfl rfl 0 (by decide) k1 (fun _ h9 => h9) rfl dX7_begins_16 ?_
  refine lv_bipush (v := iI 6) hx hb dX7_begins_19 (by decide) ?_
  refine lv_iload_n hx hb dX7_begins_21 rfl (lv_at hl 1 rfl) ?_
  refine lv_iload_n hx hb dX7_begins_22 rfl (lv_at hl 0 rfl) ?_
  obtain ⟨h11, h18⟩ := h7
  refine zr_join (G := G) (A := A) (H0 := sT.heap) (nL := 6) 31 (W7 G a s) [(0, .ref (a 0))] [.int (iI (if (manyZ (s.2 0) 0) < (waysZ ((s.2 0) 0)) then manyZ (s.2 0) 0 else waysZ ((s.2 0) 0))), .int (iI 6), .ref (a 1)] (rg (if (manyZ (s.2 0) 0) < (waysZ ((s.2 0) 0)) then manyZ (s.2 0) 0 else waysZ ((s.2 0) 0))) ?_ ?_
  · intro p20 H locs ls hP hD hS hl
    have r17 := p20
    clear h11
    refine zr_iast (n := 370) (f := (s.2 0)) (i := 6) (x := (if (manyZ (s.2 0) 0) < (waysZ ((s.2 0) 0)) then manyZ (s.2 0) 0 else waysZ ((s.2 0) 0))) hx hb hK hP hD hS 1 rfl rg_6 ⟨by decide, by decide⟩ dX7_begins_31 (fun H locs hP hD hS => ?_)
    have hP : va_P G.1 vwCl (W7 G a (sA s 0 (uZ (s.2 0) 6 (if (manyZ (s.2 0) 0) < (waysZ ((s.2 0) 0)) then manyZ (s.2 0) 0 else waysZ ((s.2 0) 0))))) H := hP
    have hD : va_D A (W7 G a (sA s 0 (uZ (s.2 0) 6 (if (manyZ (s.2 0) 0) < (waysZ ((s.2 0) 0)) then manyZ (s.2 0) 0 else waysZ ((s.2 0) 0))))) := hD
    refine lv_iconst (v := iI 0) hx hb dX7_begins_32 rfl ?_
    refine lv_istore_n (lv' := [(3, .int (iI 0)), (0, .ref (a 0))]) hx hb dX7_begins_33 rfl hl (by decide) rfl (fun ls hl => ?_)
    obtain ⟨I23, μ24, h25, h26⟩ := h18
    refine zr_loop (G := G) (σ := Int × SS) (fun x_22 => (rg x_22.1 ∧ RG x_22.2) ∧ I23 x_22.1 x_22.2) (fun x_22 => μ24 x_22.1 x_22.2) (fun x_22 => W7 G a x_22.2) (fun x_22 => [(3, .int (iI x_22.1)), (0, .ref (a 0))]) ((0, sA s 0 (uZ (s.2 0) 6 (if (manyZ (s.2 0) 0) < (waysZ ((s.2 0) 0)) then manyZ (s.2 0) 0 else waysZ ((s.2 0) 0))))) ⟨⟨rg_0, (RG_A r_s (rgA_u (i := 6) (r_s.2 0) r17))⟩, h25⟩ hP hD hS (lv_sub hl [0, 1] rfl) ?_
    clear hP hD hS hl
    intro x_22 H locs ls ih27 h28 hP hD hS hl
    obtain ⟨x3_22, s0_22⟩ := x_22
    obtain ⟨⟨rx3_22, rs0_22⟩, h28⟩ := h28
    have h29 := h26 x3_22 s0_22 rx3_22 rs0_22 h28
    have hP : va_P G.1 vwCl (W7 G a s0_22) H := hP
    have hD : va_D A (W7 G a s0_22) := hD
    have hl : lv_has ls 6 [(3, .int (iI x3_22)), (0, .ref (a 0))] := hl
    refine lv_iload_n hx hb dX7_begins_34 rfl (lv_at hl 0 rfl) ?_
    refine lv_aload_n hx hb dX7_begins_35 rfl (lv_at hl 1 rfl) ?_
    refine va_get (v := .ref (a 1)) (ci := 7) (C := RX7) (T := TX7) (N := 12) hx hb hts imX7_begins_X7 hown hK hP 0 rfl rfl 0 (by decide) k1 (fun _ h9 => h9) rfl dX7_begins_36 ?_
    refine lv_bipush (v := iI 6) hx hb dX7_begins_39 (by decide) ?_
    refine zr_iald (n := 370) (f := (s0_22.2 0)) (i := 6) hx hb hK hP 1 rfl rg_6 ⟨by decide, by decide⟩ dX7_begins_41 ?_
    refine zr_icmp_ge (tgt := 112) (x := x3_22) (y := (s0_22.2 0) 6) hx hb rx3_22 ((rs0_22.2 0) 6) dX7_begins_42 (by decide) (fun c30 => ?_) (fun c30 => ?_)
    · have h33 := h29.2 c30
      refine lv_aload_n hx hb dX7_begins_112 rfl (lv_at hl 1 rfl) ?_
      refine va_get (v := .ref (a 1)) (ci := 7) (C := RX7) (T := TX7) (N := 12) hx hb hts imX7_begins_X7 hown hK hP 0 rfl rfl 0 (by decide) k1 (fun _ h9 => h9) rfl dX7_begins_113 ?_
      refine lv_iconst (v := iI 5) hx hb dX7_begins_116 rfl ?_
      refine lv_iconst (v := iI 1) hx hb dX7_begins_117 rfl ?_
      refine zr_iast (n := 370) (f := (s0_22.2 0)) (i := 5) (x := 1) hx hb hK hP hD hS 1 rfl rg_5 ⟨by decide, by decide⟩ dX7_begins_118 (fun H locs hP hD hS => ?_)
      have hP : va_P G.1 vwCl (W7 G a (sA s0_22 0 (uZ (s0_22.2 0) 5 1))) H := hP
      have hD : va_D A (W7 G a (sA s0_22 0 (uZ (s0_22.2 0) 5 1))) := hD
      refine lv_aload_n hx hb dX7_begins_119 rfl (lv_at hl 1 rfl) ?_
      refine va_get (v := .ref (a 1)) (ci := 7) (C := RX7) (T := TX7) (N := 12) hx hb hts imX7_begins_X7 hown hK hP 0 rfl rfl 0 (by decide) k1 (fun _ h9 => h9) rfl dX7_begins_120 ?_
      refine lv_bipush (v := iI 8) hx hb dX7_begins_123 (by decide) ?_
      refine lv_dup2_11 hx hb dX7_begins_125 rfl rfl ?_
      refine zr_iald (n := 370) (f := uZ (s0_22.2 0) 5 1) (i := 8) hx hb hK hP 1 rfl rg_8 ⟨by decide, by decide⟩ dX7_begins_126 ?_
      refine W.eq (g2 := F0 m 127 ls (.int (iI ((s0_22.2 0) 8)) :: [.int (iI 8), .ref (a 1)])) rfl ?_
      refine lv_iconst (v := iI 1) hx hb dX7_begins_127 rfl ?_
      refine zr_iadd (x := (s0_22.2 0) 8) (y := 1) hx hb dX7_begins_128 ?_
      obtain ⟨r34, h35⟩ := h33
      refine zr_iast (n := 370) (f := uZ (s0_22.2 0) 5 1) (i := 8) (x := ((s0_22.2 0) 8) + 1) hx hb hK hP hD hS 1 rfl rg_8 ⟨by decide, by decide⟩ dX7_begins_129 (fun H locs hP hD hS => ?_)
      have hP : va_P G.1 vwCl (W7 G a (sA s0_22 0 (uZ (uZ (s0_22.2 0) 5 1) 8 (((s0_22.2 0) 8) + 1)))) H := hP
      have hD : va_D A (W7 G a (sA s0_22 0 (uZ (uZ (s0_22.2 0) 5 1) 8 (((s0_22.2 0) 8) + 1)))) := hD
      exact zr_vret hx hb hr hlocks hK (sA s0_22 0 (uZ (uZ (s0_22.2 0) 5 1) 8 (((s0_22.2 0) 8) + 1))) hP hD hS dX7_begins_130 ⟨(RG_A rs0_22 (rgA_u (i := 8) (rgA_u (i := 5) (rs0_22.2 0) rg_1) r34)), h35⟩
    · have h36 := h29.1 c30
      refine lv_aload_n hx hb dX7_begins_45 rfl (lv_at hl 1 rfl) ?_
      obtain ⟨b37, h38⟩ := h36
      obtain ⟨b39, h40⟩ := h38
      refine zc_vi (As := []) (rest := []) (w2 := fun u_41 => W7 G a s0_22) (c_X7_smallest l G a s0_22 rs0_22 b37 b39) ⟨hx, hb, hml, hown, hts⟩ (cwV 0 hts gX7_begins_X7_smallest rfl rfl rfl hdX7_smallest ⟨Nat.le_of_ble_eq_true rfl, Nat.le_of_ble_eq_true rfl⟩) hK hP hD hS hA (q0 := 0) rfl rfl [0, 1, 2, 3, 4, 5, 6] [] [0, 1, 2, 3, 4, 5, 6] rfl rfl rfl rfl (by decide) (fun _ => rfl) rfl rfl hl.1 rfl (Nat.le_of_ble_eq_true rfl) dX7_begins_46 ⟨Nat.zero_le _, Nat.zero_le _⟩ (fun z42 u_41 H locs hw hP hD hS => ?_)
      obtain ⟨rfl, r43⟩ := hw
      have hP : va_P G.1 vwCl (W7 G a s0_22) H := hP
      have hD : va_D A (W7 G a s0_22) := hD
      refine lv_istore (lv' := [(4, .int (iI (smlZ (s0_22.2 0)))), (3, .int (iI x3_22)), (0, .ref (a 0))]) hx hb dX7_begins_49 hl (by decide) rfl (fun ls hl => ?_)
      refine lv_iconst (v := iI 0) hx hb dX7_begins_51 rfl ?_
      refine lv_istore (lv' := [(5, .int (iI 0)), (4, .int (iI (smlZ (s0_22.2 0)))), (3, .int (iI x3_22)), (0, .ref (a 0))]) hx hb dX7_begins_52 hl (by decide) rfl (fun ls hl => ?_)
      obtain ⟨I45, μ46, h47, h48⟩ := h40
      refine zr_loop (G := G) (σ := Int × SS) (fun x_44 => (rg x_44.1 ∧ RG x_44.2) ∧ I45 x_44.1 x_44.2) (fun x_44 => μ46 x_44.1 x_44.2) (fun x_44 => W7 G a x_44.2) (fun x_44 => [(5, .int (iI x_44.1)), (4, .int (iI (smlZ (s0_22.2 0)))), (3, .int (iI x3_22)), (0, .ref (a 0))]) ((0, s0_22)) ⟨⟨rg_0, rs0_22⟩, h47⟩ hP hD hS (lv_sub hl [0, 1, 2, 3] rfl) ?_
      clear hP hD hS hl
      intro x_44 H locs ls ih49 h50 hP hD hS hl
      obtain ⟨x5_44, s0_44⟩ := x_44
      obtain ⟨⟨rx5_44, rs0_44⟩, h50⟩ := h50
      have h51 := h48 x5_44 s0_44 rx5_44 rs0_44 h50
      have hP : va_P G.1 vwCl (W7 G a s0_44) H := hP
      have hD : va_D A (W7 G a s0_44) := hD
      have hl : lv_has ls 6 [(5, .int (iI x5_44)), (4, .int (iI (smlZ (s0_22.2 0)))), (3, .int (iI x3_22)), (0, .ref (a 0))] := hl
      refine lv_iload hx hb dX7_begins_54 (lv_at hl 0 rfl) ?_
      refine lv_aload_n hx hb dX7_begins_56 rfl (lv_at hl 3 rfl) ?_
      refine va_get (v := .ref (a 1)) (ci := 7) (C := RX7) (T := TX7) (N := 12) hx hb hts imX7_begins_X7 hown hK hP 0 rfl rfl 0 (by decide) k1 (fun _ h9 => h9) rfl dX7_begins_57 ?_
      refine lv_iconst (v := iI 3) hx hb dX7_begins_60 rfl ?_
      refine zr_iald (n := 370) (f := (s0_44.2 0)) (i := 3) hx hb hK hP 1 rfl rg_3 ⟨by decide, by decide⟩ dX7_begins_61 ?_
      refine zr_icmp_ge (tgt := 106) (x := x5_44) (y := (s0_44.2 0) 3) hx hb rx5_44 ((rs0_44.2 0) 3) dX7_begins_62 (by decide) (fun c52 => ?_) (fun c52 => ?_)
      · have h55 := h51.2 c52
        obtain ⟨r56, h57⟩ := h55
        refine zr_iinc (x := x3_22) (lv' := [(3, .int (iI (x3_22 + 1))), (5, .int (iI x5_44)), (4, .int (iI (smlZ (s0_22.2 0)))), (0, .ref (a 0))]) hx hb dX7_begins_106 hl (k := 2) rfl (by decide) rfl (fun ls hl => ?_)
        refine lv_goto (tgt := 34) hx hb dX7_begins_109 (by decide) ?_
        obtain ⟨h58, h59⟩ := h57
        exact ih27 ((x3_22 + 1, s0_44)) H locs ls ⟨⟨r56, rs0_44⟩, h58⟩ h59 hP hD hS (lv_sub hl [0, 3] rfl)
      · have h60 := h51.1 c52
        refine lv_aload_n hx hb dX7_begins_65 rfl (lv_at hl 3 rfl) ?_
        refine va_get (v := .ref (a 1)) (ci := 7) (C := RX7) (T := TX7) (N := 12) hx hb hts imX7_begins_X7 hown hK hP 0 rfl rfl 0 (by decide) k1 (fun _ h9 => h9) rfl dX7_begins_66 ?_
        refine lv_sipush (v := iI 250) hx hb dX7_begins_69 (by decide) ?_
        refine lv_iload hx hb dX7_begins_72 (lv_at hl 0 rfl) ?_
        refine zr_iadd (x := 250) (y := x5_44) hx hb dX7_begins_74 ?_
        obtain ⟨r61, h62⟩ := h60
        refine lv_aload_n hx hb dX7_begins_75 rfl (lv_at hl 3 rfl) ?_
        refine lv_iload hx hb dX7_begins_76 (lv_at hl 0 rfl) ?_
        obtain ⟨b63, h64⟩ := h62
        refine zc_vi (As := [.int (iI x5_44)]) (rest := [.int (iI (250 + x5_44)), .ref (a 1)]) (w2 := fun u_65 => W7 G a s0_44) (c_X7_place l G a s0_44 x5_44 rs0_44 rx5_44 b63) ⟨hx, hb, hml, hown, hts⟩ (cwV 1 hts gX7_begins_X7_place rfl rfl rfl hdX7_place ⟨Nat.le_of_ble_eq_true rfl, Nat.le_of_ble_eq_true rfl⟩) hK hP hD hS hA (q0 := 0) rfl rfl [0, 1, 2, 3, 4, 5, 6] [] [0, 1, 2, 3, 4, 5, 6] rfl rfl rfl rfl (by decide) (fun _ => rfl) rfl rfl hl.1 rfl (Nat.le_of_ble_eq_true rfl) dX7_begins_78 ⟨Nat.zero_le _, Nat.zero_le _⟩ (fun z66 u_65 H locs hw hP hD hS => ?_)
        obtain ⟨rfl, r67⟩ := hw
        have hP : va_P G.1 vwCl (W7 G a s0_44) H := hP
        have hD : va_D A (W7 G a s0_44) := hD
        refine lv_iload hx hb dX7_begins_81 (lv_at hl 1 rfl) ?_
        refine zr_icmp_ne (tgt := 93) (x := (s0_44.2 0) (250 + x5_44)) (y := smlZ (s0_22.2 0)) hx hb r67 r43 dX7_begins_83 (by decide) (fun c68 => ?_) (fun c68 => ?_)
        · have h71 := h64.2 c68
          refine lv_aload_n hx hb dX7_begins_93 rfl (lv_at hl 3 rfl) ?_
          refine lv_iload hx hb dX7_begins_94 (lv_at hl 0 rfl) ?_
          refine zc_vi (As := [.int (iI x5_44)]) (rest := [.int (iI (250 + x5_44)), .ref (a 1)]) (w2 := fun u_72 => W7 G a s0_44) (c_X7_place l G a s0_44 x5_44 rs0_44 rx5_44 b63) ⟨hx, hb, hml, hown, hts⟩ (cwV 1 hts gX7_begins_X7_place rfl rfl rfl hdX7_place ⟨Nat.le_of_ble_eq_true rfl, Nat.le_of_ble_eq_true rfl⟩) hK hP hD hS hA (q0 := 0) rfl rfl [0, 1, 2, 3, 4, 5, 6] [] [0, 1, 2, 3, 4, 5, 6] rfl rfl rfl rfl (by decide) (fun _ => rfl) rfl rfl hl.1 rfl (Nat.le_of_ble_eq_true rfl) dX7_begins_96 ⟨Nat.zero_le _, Nat.zero_le _⟩ (fun z73 u_72 H locs hw hP hD hS => ?_)
          obtain ⟨rfl, r74⟩ := hw
          have hP : va_P G.1 vwCl (W7 G a s0_44) H := hP
          have hD : va_D A (W7 G a s0_44) := hD
          obtain ⟨b75, h76⟩ := h71
          refine zr_iast (n := 370) (f := (s0_44.2 0)) (i := 250 + x5_44) (x := (s0_44.2 0) (250 + x5_44)) hx hb hK hP hD hS 1 rfl r61 b75 dX7_begins_99 (fun H locs hP hD hS => ?_)
          have hP : va_P G.1 vwCl (W7 G a (sA s0_44 0 (uZ (s0_44.2 0) (250 + x5_44) ((s0_44.2 0) (250 + x5_44))))) H := hP
          have hD : va_D A (W7 G a (sA s0_44 0 (uZ (s0_44.2 0) (250 + x5_44) ((s0_44.2 0) (250 + x5_44))))) := hD
          obtain ⟨r77, h78⟩ := h76
          refine zr_iinc (x := x5_44) (lv' := [(5, .int (iI (x5_44 + 1))), (4, .int (iI (smlZ (s0_22.2 0)))), (3, .int (iI x3_22)), (0, .ref (a 0))]) hx hb dX7_begins_100 hl (k := 0) rfl (by decide) rfl (fun ls hl => ?_)
          refine lv_goto (tgt := 54) hx hb dX7_begins_103 (by decide) ?_
          obtain ⟨h79, h80⟩ := h78
          exact ih49 ((x5_44 + 1, sA s0_44 0 (uZ (s0_44.2 0) (250 + x5_44) ((s0_44.2 0) (250 + x5_44))))) H locs ls ⟨⟨r77, (RG_A rs0_44 (rgA_u (i := 250 + x5_44) (rs0_44.2 0) r74))⟩, h79⟩ h80 hP hD hS (lv_sub hl [0, 1, 2, 3] rfl)
        · have h81 := h64.1 c68
          refine lv_iload hx hb dX7_begins_86 (lv_at hl 1 rfl) ?_
          refine lv_iconst (v := iI 1) hx hb dX7_begins_88 rfl ?_
          refine zr_iadd (x := smlZ (s0_22.2 0)) (y := 1) hx hb dX7_begins_89 ?_
          obtain ⟨r82, h83⟩ := h81
          refine lv_goto (tgt := 99) hx hb dX7_begins_90 (by decide) ?_
          obtain ⟨b84, h85⟩ := h83
          refine zr_iast (n := 370) (f := (s0_44.2 0)) (i := 250 + x5_44) (x := (smlZ (s0_22.2 0)) + 1) hx hb hK hP hD hS 1 rfl r61 b84 dX7_begins_99 (fun H locs hP hD hS => ?_)
          have hP : va_P G.1 vwCl (W7 G a (sA s0_44 0 (uZ (s0_44.2 0) (250 + x5_44) ((smlZ (s0_22.2 0)) + 1)))) H := hP
          have hD : va_D A (W7 G a (sA s0_44 0 (uZ (s0_44.2 0) (250 + x5_44) ((smlZ (s0_22.2 0)) + 1)))) := hD
          obtain ⟨r86, h87⟩ := h85
          refine zr_iinc (x := x5_44) (lv' := [(5, .int (iI (x5_44 + 1))), (4, .int (iI (smlZ (s0_22.2 0)))), (3, .int (iI x3_22)), (0, .ref (a 0))]) hx hb dX7_begins_100 hl (k := 0) rfl (by decide) rfl (fun ls hl => ?_)
          refine lv_goto (tgt := 54) hx hb dX7_begins_103 (by decide) ?_
          obtain ⟨h88, h89⟩ := h87
          exact ih49 ((x5_44 + 1, sA s0_44 0 (uZ (s0_44.2 0) (250 + x5_44) ((smlZ (s0_22.2 0)) + 1)))) H locs ls ⟨⟨r86, (RG_A rs0_44 (rgA_u (i := 250 + x5_44) (rs0_44.2 0) r82))⟩, h88⟩ h89 hP hD hS (lv_sub hl [0, 1, 2, 3] rfl)
  · intro J19
    refine zr_icmp_ge (tgt := 30) (x := manyZ (s.2 0) 0) (y := waysZ ((s.2 0) 0)) hx hb r5 r10 dX7_begins_23 (by decide) (fun c12 => ?_) (fun c12 => ?_)
    · have h15 := h11.2 c12
      refine lv_iload_n hx hb dX7_begins_30 rfl (lv_at hl 0 rfl) ?_
      have e0_J19 : (if (manyZ (s.2 0) 0) < (waysZ ((s.2 0) 0)) then manyZ (s.2 0) 0 else waysZ ((s.2 0) 0)) = waysZ ((s.2 0) 0) := (if_neg c12)
      have J9 := J19 H locs ls (by (try rw [e0_J19]); exact hP) (by (try rw [e0_J19]); exact hD) hS (by (try rw [e0_J19]); exact lv_sub hl [2] rfl) (by rw [show (if (manyZ (s.2 0) 0) < (waysZ ((s.2 0) 0)) then manyZ (s.2 0) 0 else waysZ ((s.2 0) 0)) = waysZ ((s.2 0) 0) from (if_neg c12)]; exact r10)
      (try rw [e0_J19] at J9)
      exact J9
    · have h16 := h11.1 c12
      refine lv_iload_n hx hb dX7_begins_26 rfl (lv_at hl 1 rfl) ?_
      refine lv_goto (tgt := 31) hx hb dX7_begins_27 (by decide) ?_
      have e0_J19 : (if (manyZ (s.2 0) 0) < (waysZ ((s.2 0) 0)) then manyZ (s.2 0) 0 else waysZ ((s.2 0) 0)) = manyZ (s.2 0) 0 := (if_pos c12)
      have J9 := J19 H locs ls (by (try rw [e0_J19]); exact hP) (by (try rw [e0_J19]); exact hD) hS (by (try rw [e0_J19]); exact lv_sub hl [2] rfl) (by rw [show (if (manyZ (s.2 0) 0) < (waysZ ((s.2 0) 0)) then manyZ (s.2 0) 0 else waysZ ((s.2 0) 0)) = manyZ (s.2 0) 0 from (if_pos c12)]; exact r5)
      (try rw [e0_J19] at J9)
      exact J9
theorem c_X7_begins (l : Launch) (G : ZG) (a : Nat → Nat) (s : SS)   (r_s : RG s)  (p0 : Vb (s.2 0)) (p1 : 2 ≤ (s.2 0) 0 ∧ (s.2 0) 0 ≤ 20) (p2 : rg ((s.2 0) 8 + 1)) : ZV l G yX7_begins wsX7_begins 4 89 [.ref (a 0)] (W7 G a s) (fun _ : Unit => W7 G a (sA s 0 (begZ (s.2 0)))) (fun (_ : Unit) => RG (sA s 0 (begZ (s.2 0)))) := by
  refine ZV.fn (w1 := fun u : SS => W7 G a u) (fun  u hq => ?_) (c0_X7_begins l G a s (fun o0 => o0 = (sA s 0 (begZ (s.2 0)))) r_s  (sp_X7_begins s r_s  p0 p1 p2))
  obtain ⟨ro0, eo0⟩ := hq
  exact ⟨by rw [eo0], (by rw [← eo0]; exact ro0)⟩
theorem imX7_finishes_X7 : ∀ w ∈ wsX70, w ∈ wsX7_finishes := fun _ h => (List.mem_cons_of_mem _ (List.mem_append_right _ h))
theorem hdX7_finishes : yX7_finishes.cls = RX7 ∧ yX7_finishes.cls ≠ "java/lang/invoke/MethodHandle" ∧ yX7_finishes.cls ≠ "java/lang/invoke/VarHandle" ∧ (parseMethodDescriptor yX7_finishes.desc).map (fun d => d.parameters.length) = some 0 := by decide +kernel
set_option maxRecDepth 100000 in
set_option maxHeartbeats 4000000 in
theorem c0_X7_finishes (l : Launch) (G : ZG) (a : Nat → Nat) (s : SS)  (P : SS → Prop) (r_s : RG s)  (hwp : wp_X7_finishes s P) : ZV l G yX7_finishes wsX7_finishes 3 65 [.ref (a 0)] (W7 G a s) (fun u : SS => W7 G a u) (fun (u : SS) => RG u ∧ P u) := by
  unfold wp_X7_finishes at hwp
  refine zm_v (cc := cX7_finishes) (maxL := 1) (ret := none) (own := RX7) (lvs := [(0, .ref (a 0))]) (by decide) rfl rfl (Nat.le_of_ble_eq_true rfl) rfl ?_
  intro p e sT m args below meth c ls A hx hb hr hml hown hts hlocks hK hP hD hS hA hl
  have k1 := hts (.fieldLink RX7 7 "GrantedSortModel" "z" "[I") (List.mem_of_getElem? (i := 1) rfl)
  refine lv_aload_n hx hb dX7_finishes_0 rfl (lv_at hl 0 rfl) ?_
  obtain ⟨b1, h2⟩ := hwp
  obtain ⟨b3, h4⟩ := h2
  refine zc_vi (As := []) (rest := []) (w2 := fun u_6 => W7 G a (sA s 0 (wriZ (s.2 0)))) (c_X7_writes l G a s r_s b1 b3) ⟨hx, hb, hml, hown, hts⟩ (cwV 0 hts gX7_finishes_X7_writes rfl rfl rfl hdX7_writes ⟨Nat.le_of_ble_eq_true rfl, Nat.le_of_ble_eq_true rfl⟩) hK hP hD hS hA (q0 := 0) rfl rfl [0, 1, 2, 3, 4, 5, 6] [] [0, 1, 2, 3, 4, 5, 6] rfl rfl rfl rfl (by decide) (fun _ => rfl) rfl rfl hl.1 rfl (Nat.le_of_ble_eq_true rfl) dX7_finishes_1 ⟨Nat.zero_le _, Nat.zero_le _⟩ (fun z7 u_6 H locs hw hP hD hS => ?_)
  obtain ⟨rfl, r8, r5⟩ := hw
  have hP : va_P G.1 vwCl (W7 G a (sA s 0 (wriZ (s.2 0)))) H := hP
  have hD : va_D A (W7 G a (sA s 0 (wriZ (s.2 0)))) := hD
  refine lv_pop hx hb dX7_finishes_4 rfl ?_
  refine lv_aload_n hx hb dX7_finishes_5 rfl (lv_at hl 0 rfl) ?_
  refine va_get (v := .ref (a 1)) (ci := 7) (C := RX7) (T := TX7) (N := 12) hx hb hts imX7_finishes_X7 hown hK hP 0 rfl rfl 0 (by decide) k1 (fun _ h9 => h9) rfl dX7_finishes_6 ?_
  refine lv_iconst (v := iI 2) hx hb dX7_finishes_9 rfl ?_
  refine lv_iconst (v := iI 0) hx hb dX7_finishes_10 rfl ?_
  refine zr_iast (n := 370) (f := wriZ (s.2 0)) (i := 2) (x := 0) hx hb hK hP hD hS 1 rfl rg_2 ⟨by decide, by decide⟩ dX7_finishes_11 (fun H locs hP hD hS => ?_)
  have hP : va_P G.1 vwCl (W7 G a (sA s 0 (uZ (wriZ (s.2 0)) 2 0))) H := hP
  have hD : va_D A (W7 G a (sA s 0 (uZ (wriZ (s.2 0)) 2 0))) := hD
  exact zr_vret hx hb hr hlocks hK (sA s 0 (uZ (wriZ (s.2 0)) 2 0)) hP hD hS dX7_finishes_12 ⟨(RG_A r_s (rgA_u (i := 2) (r5.2 0) rg_0)), h4⟩
theorem c_X7_finishes (l : Launch) (G : ZG) (a : Nat → Nat) (s : SS)   (r_s : RG s)  (p0 : Vb (s.2 0)) (p1 : rg ((s.2 0) 7 + rowsAt (s.2 0) 1)) : ZV l G yX7_finishes wsX7_finishes 3 65 [.ref (a 0)] (W7 G a s) (fun _ : Unit => W7 G a (sA s 0 (uZ (wriZ (s.2 0)) 2 0))) (fun (_ : Unit) => RG (sA s 0 (uZ (wriZ (s.2 0)) 2 0))) := by
  refine ZV.fn (w1 := fun u : SS => W7 G a u) (fun  u hq => ?_) (c0_X7_finishes l G a s (fun o0 => o0 = (sA s 0 (uZ (wriZ (s.2 0)) 2 0))) r_s  (sp_X7_finishes s r_s  p0 p1))
  obtain ⟨ro0, eo0⟩ := hq
  exact ⟨by rw [eo0], (by rw [← eo0]; exact ro0)⟩
theorem hdX7_inputsLeft : yX7_inputsLeft.cls = RX7 ∧ yX7_inputsLeft.cls ≠ "java/lang/invoke/MethodHandle" ∧ yX7_inputsLeft.cls ≠ "java/lang/invoke/VarHandle" ∧ (parseMethodDescriptor yX7_inputsLeft.desc).map (fun d => d.parameters.length) = some 0 := by decide +kernel
set_option maxRecDepth 100000 in
set_option maxHeartbeats 4000000 in
theorem c0_X7_inputsLeft (l : Launch) (G : ZG) (a : Nat → Nat) (s : SS)  (P : Int → Prop) (r_s : RG s)  (hwp : wp_X7_inputsLeft s P) : ZI l G yX7_inputsLeft wsX7_inputsLeft 3 69 [.ref (a 0)] (W7 G a s) (fun u : Unit => W7 G a s) (fun (z : Int) (u : Unit) => rg z ∧ P z) := by
  unfold wp_X7_inputsLeft at hwp
  refine zm_i (cc := cX7_inputsLeft) (maxL := 1) (ret := some .int) (own := RX7) (lvs := [(0, .ref (a 0))]) (by decide) rfl rfl (Nat.le_of_ble_eq_true rfl) rfl ?_
  intro p e sT m args below meth c ls A hx hb hr hml hown hts hlocks hK hP hD hS hA hl
  refine lv_aload_n hx hb dX7_inputsLeft_0 rfl (lv_at hl 0 rfl) ?_
  refine lv_iconst (v := iI 1) hx hb dX7_inputsLeft_1 rfl ?_
  obtain ⟨b1, h2⟩ := hwp
  obtain ⟨b3, h4⟩ := h2
  refine zc_vi (As := [.int (iI 1)]) (rest := []) (w2 := fun u_5 => W7 G a s) (c_X7_many l G a s 1 r_s rg_1 b1 b3) ⟨hx, hb, hml, hown, hts⟩ (cwV 1 hts gX7_inputsLeft_X7_many rfl rfl rfl hdX7_many ⟨Nat.le_of_ble_eq_true rfl, Nat.le_of_ble_eq_true rfl⟩) hK hP hD hS hA (q0 := 0) rfl rfl [0, 1, 2, 3, 4, 5, 6] [] [0, 1, 2, 3, 4, 5, 6] rfl rfl rfl rfl (by decide) (fun _ => rfl) rfl rfl hl.1 rfl (Nat.le_of_ble_eq_true rfl) dX7_inputsLeft_2 ⟨Nat.zero_le _, Nat.zero_le _⟩ (fun z6 u_5 H locs hw hP hD hS => ?_)
  obtain ⟨rfl, r7⟩ := hw
  have hP : va_P G.1 vwCl (W7 G a s) H := hP
  have hD : va_D A (W7 G a s) := hD
  exact zr_iret (z := manyZ (s.2 0) (1 : Int)) hx hb hr hlocks hK () hP hD hS dX7_inputsLeft_5 ⟨r7, h4⟩
theorem c_X7_inputsLeft (l : Launch) (G : ZG) (a : Nat → Nat) (s : SS)   (r_s : RG s)  (p0 : Vb (s.2 0)) : ZI l G yX7_inputsLeft wsX7_inputsLeft 3 69 [.ref (a 0)] (W7 G a s) (fun _ : Unit => W7 G a s) (fun (z : Int) (_ : Unit) => z = (manyZ (s.2 0) 1) ∧ rg z) := by
  refine ZI.fn (w1 := fun u : Unit => W7 G a s) (fun z u hq => ?_) (c0_X7_inputsLeft l G a s (fun z => z = (manyZ (s.2 0) 1)) r_s  (sp_X7_inputsLeft s r_s  p0))
  obtain ⟨rz, ez⟩ := hq
  exact ⟨rfl, ⟨ez, rz⟩⟩
theorem imX7_cut_X7 : ∀ w ∈ wsX70, w ∈ wsX7_cut := fun _ h => (List.mem_cons_of_mem _ (List.mem_append_right _ h))
theorem hdX7_cut : yX7_cut.cls = RX7 ∧ yX7_cut.cls ≠ "java/lang/invoke/MethodHandle" ∧ yX7_cut.cls ≠ "java/lang/invoke/VarHandle" ∧ (parseMethodDescriptor yX7_cut.desc).map (fun d => d.parameters.length) = some 0 := by decide +kernel
set_option maxRecDepth 100000 in
set_option maxHeartbeats 4000000 in
theorem c0_X7_cut (l : Launch) (G : ZG) (a : Nat → Nat) (s : SS)  (P : Int → SS → Prop) (r_s : RG s)  (hwp : wp_X7_cut s P) : ZI l G yX7_cut wsX7_cut 2 46 [.ref (a 0)] (W7 G a s) (fun u : SS => W7 G a u) (fun (z : Int) (u : SS) => rg z ∧ RG u ∧ P z u) := by
  unfold wp_X7_cut at hwp
  refine zm_i (cc := cX7_cut) (maxL := 3) (ret := some .int) (own := RX7) (lvs := [(0, .ref (a 0))]) (by decide) rfl rfl (Nat.le_of_ble_eq_true rfl) rfl ?_
  intro p e sT m args below meth c ls A hx hb hr hml hown hts hlocks hK hP hD hS hA hl
  have k1 := hts (.fieldLink RX7 7 "GrantedSortModel" "z" "[I") (List.mem_of_getElem? (i := 1) rfl)
  refine lv_aload_n hx hb dX7_cut_0 rfl (lv_at hl 0 rfl) ?_
  refine va_get (v := .ref (a 1)) (ci := 7) (C := RX7) (T := TX7) (N := 12) hx hb hts imX7_cut_X7 hown hK hP 0 rfl rfl 0 (by decide) k1 (fun _ h9 => h9) rfl dX7_cut_1 ?_
  refine lv_iconst (v := iI 4) hx hb dX7_cut_4 rfl ?_
  refine zr_iald (n := 370) (f := (s.2 0)) (i := 4) hx hb hK hP 1 rfl rg_4 ⟨by decide, by decide⟩ dX7_cut_5 ?_
  refine lv_istore_n (lv' := [(1, .int (iI ((s.2 0) 4))), (0, .ref (a 0))]) hx hb dX7_cut_6 rfl hl (by decide) rfl (fun ls hl => ?_)
  refine lv_aload_n hx hb dX7_cut_7 rfl (lv_at hl 1 rfl) ?_
  refine lv_iconst (v := iI 2) hx hb dX7_cut_8 rfl ?_
  obtain ⟨b1, h2⟩ := hwp
  refine zc_vi (As := [.int (iI 2)]) (rest := []) (w2 := fun u_3 => W7 G a s) (c_X7_rowsAt l G a s 2 r_s rg_2 b1) ⟨hx, hb, hml, hown, hts⟩ (cwV 1 hts gX7_cut_X7_rowsAt rfl rfl rfl hdX7_rowsAt ⟨Nat.le_of_ble_eq_true rfl, Nat.le_of_ble_eq_true rfl⟩) hK hP hD hS hA (q0 := 0) rfl rfl [0, 1, 2, 3, 4, 5, 6] [] [0, 1, 2, 3, 4, 5, 6] rfl rfl rfl rfl (by decide) (fun _ => rfl) rfl rfl hl.1 rfl (Nat.le_of_ble_eq_true rfl) dX7_cut_9 ⟨Nat.zero_le _, Nat.zero_le _⟩ (fun z4 u_3 H locs hw hP hD hS => ?_)
  obtain ⟨rfl, r5⟩ := hw
  have hP : va_P G.1 vwCl (W7 G a s) H := hP
  have hD : va_D A (W7 G a s) := hD
  obtain ⟨h6, h17⟩ := h2
  refine zr_join (G := G) (A := A) (H0 := sT.heap) (nL := 3) 21 (W7 G a (sA s 0 (if 0 < (rowsAt (s.2 0) (2 : Int)) then becm (s.2 0) (2 : Int) else (s.2 0)))) [(1, .int (iI ((s.2 0) 4))), (0, .ref (a 0))] [] (rgA (if 0 < (rowsAt (s.2 0) (2 : Int)) then becm (s.2 0) (2 : Int) else (s.2 0))) ?_ ?_
  · intro p19 H locs ls hP hD hS hl
    have r16 := p19
    clear h6
    refine lv_aload_n hx hb dX7_cut_21 rfl (lv_at hl 1 rfl) ?_
    refine lv_iconst (v := iI 0) hx hb dX7_cut_22 rfl ?_
    refine lv_iconst (v := iI 1) hx hb dX7_cut_23 rfl ?_
    obtain ⟨b21, h22⟩ := h17
    refine zc_vi (As := [.int (iI 0), .int (iI 1)]) (rest := []) (w2 := fun u_23 => W7 G a (sA s 0 (if 0 < (rowsAt (s.2 0) (2 : Int)) then becm (s.2 0) (2 : Int) else (s.2 0)))) (c_X7_nextPlace l G a (sA s 0 (if 0 < (rowsAt (s.2 0) (2 : Int)) then becm (s.2 0) (2 : Int) else (s.2 0))) 0 1 (RG_A r_s r16) rg_0 rg_1 b21) ⟨hx, hb, hml, hown, hts⟩ (cwV 2 hts gX7_cut_X7_nextPlace rfl rfl rfl hdX7_nextPlace ⟨Nat.le_of_ble_eq_true rfl, Nat.le_of_ble_eq_true rfl⟩) hK hP hD hS hA (q0 := 0) rfl rfl [0, 1, 2, 3, 4, 5, 6] [] [0, 1, 2, 3, 4, 5, 6] rfl rfl rfl rfl (by decide) (fun _ => rfl) rfl rfl hl.1 rfl (Nat.le_of_ble_eq_true rfl) dX7_cut_24 ⟨Nat.zero_le _, Nat.zero_le _⟩ (fun z24 u_23 H locs hw hP hD hS => ?_)
    obtain ⟨rfl, r25⟩ := hw
    have hP : va_P G.1 vwCl (W7 G a (sA s 0 (if 0 < (rowsAt (s.2 0) (2 : Int)) then becm (s.2 0) (2 : Int) else (s.2 0)))) H := hP
    have hD : va_D A (W7 G a (sA s 0 (if 0 < (rowsAt (s.2 0) (2 : Int)) then becm (s.2 0) (2 : Int) else (s.2 0)))) := hD
    refine lv_istore_n (lv' := [(2, .int (iI (nxP (if 0 < (rowsAt (s.2 0) (2 : Int)) then becm (s.2 0) (2 : Int) else (s.2 0)) (0 : Int) (1 : Int) ((if 0 < (rowsAt (s.2 0) (2 : Int)) then becm (s.2 0) (2 : Int) else (s.2 0)) 3).toNat))), (1, .int (iI ((s.2 0) 4))), (0, .ref (a 0))]) hx hb dX7_cut_27 rfl hl (by decide) rfl (fun ls hl => ?_)
    obtain ⟨I27, μ28, h29, h30⟩ := h22
    refine zr_loop (G := G) (σ := Int × SS) (fun x_26 => (rg x_26.1 ∧ RG x_26.2) ∧ I27 x_26.1 x_26.2) (fun x_26 => μ28 x_26.1 x_26.2) (fun x_26 => W7 G a x_26.2) (fun x_26 => [(2, .int (iI x_26.1)), (1, .int (iI ((s.2 0) 4))), (0, .ref (a 0))]) ((nxP (if 0 < (rowsAt (s.2 0) (2 : Int)) then becm (s.2 0) (2 : Int) else (s.2 0)) (0 : Int) (1 : Int) ((if 0 < (rowsAt (s.2 0) (2 : Int)) then becm (s.2 0) (2 : Int) else (s.2 0)) 3).toNat, sA s 0 (if 0 < (rowsAt (s.2 0) (2 : Int)) then becm (s.2 0) (2 : Int) else (s.2 0)))) ⟨⟨r25, (RG_A r_s r16)⟩, h29⟩ hP hD hS (lv_sub hl [0, 1, 2] rfl) ?_
    clear hP hD hS hl
    intro x_26 H locs ls ih31 h32 hP hD hS hl
    obtain ⟨x2_26, s0_26⟩ := x_26
    obtain ⟨⟨rx2_26, rs0_26⟩, h32⟩ := h32
    have h33 := h30 x2_26 s0_26 rx2_26 rs0_26 h32
    have hP : va_P G.1 vwCl (W7 G a s0_26) H := hP
    have hD : va_D A (W7 G a s0_26) := hD
    have hl : lv_has ls 3 [(2, .int (iI x2_26)), (1, .int (iI ((s.2 0) 4))), (0, .ref (a 0))] := hl
    refine lv_iload_n hx hb dX7_cut_28 rfl (lv_at hl 0 rfl) ?_
    refine lv_bipush (v := iI (-6)) hx hb dX7_cut_29 (by decide) ?_
    refine zr_icmp_eq (tgt := 50) (x := x2_26) (y := (-6)) hx hb rx2_26 rg_m6 dX7_cut_31 (by decide) (fun c34 => ?_) (fun c34 => ?_)
    · have h37 := h33.1 c34
      refine lv_aload_n hx hb dX7_cut_50 rfl (lv_at hl 2 rfl) ?_
      refine va_get (v := .ref (a 1)) (ci := 7) (C := RX7) (T := TX7) (N := 12) hx hb hts imX7_cut_X7 hown hK hP 0 rfl rfl 0 (by decide) k1 (fun _ h9 => h9) rfl dX7_cut_51 ?_
      refine lv_iconst (v := iI 5) hx hb dX7_cut_54 rfl ?_
      refine lv_iconst (v := iI 0) hx hb dX7_cut_55 rfl ?_
      refine zr_iast (n := 370) (f := (s0_26.2 0)) (i := 5) (x := 0) hx hb hK hP hD hS 1 rfl rg_5 ⟨by decide, by decide⟩ dX7_cut_56 (fun H locs hP hD hS => ?_)
      have hP : va_P G.1 vwCl (W7 G a (sA s0_26 0 (uZ (s0_26.2 0) 5 0))) H := hP
      have hD : va_D A (W7 G a (sA s0_26 0 (uZ (s0_26.2 0) 5 0))) := hD
      refine lv_aload_n hx hb dX7_cut_57 rfl (lv_at hl 2 rfl) ?_
      refine va_get (v := .ref (a 1)) (ci := 7) (C := RX7) (T := TX7) (N := 12) hx hb hts imX7_cut_X7 hown hK hP 0 rfl rfl 0 (by decide) k1 (fun _ h9 => h9) rfl dX7_cut_58 ?_
      refine lv_bipush (v := iI 9) hx hb dX7_cut_61 (by decide) ?_
      refine lv_dup2_11 hx hb dX7_cut_63 rfl rfl ?_
      refine zr_iald (n := 370) (f := uZ (s0_26.2 0) 5 0) (i := 9) hx hb hK hP 1 rfl rg_9 ⟨by decide, by decide⟩ dX7_cut_64 ?_
      refine W.eq (g2 := F0 m 65 ls (.int (iI ((s0_26.2 0) 9)) :: [.int (iI 9), .ref (a 1)])) rfl ?_
      refine lv_iconst (v := iI 1) hx hb dX7_cut_65 rfl ?_
      refine zr_iadd (x := (s0_26.2 0) 9) (y := 1) hx hb dX7_cut_66 ?_
      obtain ⟨r38, h39⟩ := h37
      refine zr_iast (n := 370) (f := uZ (s0_26.2 0) 5 0) (i := 9) (x := ((s0_26.2 0) 9) + 1) hx hb hK hP hD hS 1 rfl rg_9 ⟨by decide, by decide⟩ dX7_cut_67 (fun H locs hP hD hS => ?_)
      have hP : va_P G.1 vwCl (W7 G a (sA s0_26 0 (uZ (uZ (s0_26.2 0) 5 0) 9 (((s0_26.2 0) 9) + 1)))) H := hP
      have hD : va_D A (W7 G a (sA s0_26 0 (uZ (uZ (s0_26.2 0) 5 0) 9 (((s0_26.2 0) 9) + 1)))) := hD
      refine lv_aload_n hx hb dX7_cut_68 rfl (lv_at hl 2 rfl) ?_
      refine va_get (v := .ref (a 1)) (ci := 7) (C := RX7) (T := TX7) (N := 12) hx hb hts imX7_cut_X7 hown hK hP 0 rfl rfl 0 (by decide) k1 (fun _ h9 => h9) rfl dX7_cut_69 ?_
      refine lv_iconst (v := iI 4) hx hb dX7_cut_72 rfl ?_
      refine zr_iald (n := 370) (f := uZ (uZ (s0_26.2 0) 5 0) 9 (((s0_26.2 0) 9) + 1)) (i := 4) hx hb hK hP 1 rfl rg_4 ⟨by decide, by decide⟩ dX7_cut_73 ?_
      refine W.eq (g2 := F0 m 74 ls (.int (iI ((s0_26.2 0) 4)) :: [])) rfl ?_
      refine lv_iload_n hx hb dX7_cut_74 rfl (lv_at hl 1 rfl) ?_
      refine zr_isub (x := (s0_26.2 0) 4) (y := (s.2 0) 4) hx hb dX7_cut_75 ?_
      obtain ⟨r40, h41⟩ := h39
      exact zr_iret (z := ((s0_26.2 0) 4) - ((s.2 0) 4)) hx hb hr hlocks hK (sA s0_26 0 (uZ (uZ (s0_26.2 0) 5 0) 9 (((s0_26.2 0) 9) + 1))) hP hD hS dX7_cut_76 ⟨r40, (RG_A rs0_26 (rgA_u (i := 9) (rgA_u (i := 5) (rs0_26.2 0) rg_0) r38)), h41⟩
    · have h42 := h33.2 c34
      refine lv_aload_n hx hb dX7_cut_34 rfl (lv_at hl 2 rfl) ?_
      refine lv_iload_n hx hb dX7_cut_35 rfl (lv_at hl 0 rfl) ?_
      obtain ⟨b43, h44⟩ := h42
      refine zc_vi (As := [.int (iI x2_26)]) (rest := []) (w2 := fun u_46 => W7 G a (sA s0_26 0 (becm (s0_26.2 0) x2_26))) (c_X7_becomesRun l G a s0_26 x2_26 rs0_26 rx2_26 b43) ⟨hx, hb, hml, hown, hts⟩ (cwV 1 hts gX7_cut_X7_becomesRun rfl rfl rfl hdX7_becomesRun ⟨Nat.le_of_ble_eq_true rfl, Nat.le_of_ble_eq_true rfl⟩) hK hP hD hS hA (q0 := 0) rfl rfl [0, 1, 2, 3, 4, 5, 6] [] [0, 1, 2, 3, 4, 5, 6] rfl rfl rfl rfl (by decide) (fun _ => rfl) rfl rfl hl.1 rfl (Nat.le_of_ble_eq_true rfl) dX7_cut_36 ⟨Nat.zero_le _, Nat.zero_le _⟩ (fun z47 u_46 H locs hw hP hD hS => ?_)
      obtain ⟨rfl, r48, r45⟩ := hw
      have hP : va_P G.1 vwCl (W7 G a (sA s0_26 0 (becm (s0_26.2 0) x2_26))) H := hP
      have hD : va_D A (W7 G a (sA s0_26 0 (becm (s0_26.2 0) x2_26))) := hD
      refine lv_pop hx hb dX7_cut_39 rfl ?_
      refine lv_aload_n hx hb dX7_cut_40 rfl (lv_at hl 2 rfl) ?_
      refine lv_iload_n hx hb dX7_cut_41 rfl (lv_at hl 0 rfl) ?_
      refine lv_iconst (v := iI 1) hx hb dX7_cut_42 rfl ?_
      obtain ⟨b49, h50⟩ := h44
      refine zc_vi (As := [.int (iI x2_26), .int (iI 1)]) (rest := []) (w2 := fun u_51 => W7 G a (sA s0_26 0 (becm (s0_26.2 0) x2_26))) (c_X7_nextPlace l G a (sA s0_26 0 (becm (s0_26.2 0) x2_26)) x2_26 1 (RG_A rs0_26 (r45.2 0)) rx2_26 rg_1 b49) ⟨hx, hb, hml, hown, hts⟩ (cwV 2 hts gX7_cut_X7_nextPlace rfl rfl rfl hdX7_nextPlace ⟨Nat.le_of_ble_eq_true rfl, Nat.le_of_ble_eq_true rfl⟩) hK hP hD hS hA (q0 := 0) rfl rfl [0, 1, 2, 3, 4, 5, 6] [] [0, 1, 2, 3, 4, 5, 6] rfl rfl rfl rfl (by decide) (fun _ => rfl) rfl rfl hl.1 rfl (Nat.le_of_ble_eq_true rfl) dX7_cut_43 ⟨Nat.zero_le _, Nat.zero_le _⟩ (fun z52 u_51 H locs hw hP hD hS => ?_)
      obtain ⟨rfl, r53⟩ := hw
      have hP : va_P G.1 vwCl (W7 G a (sA s0_26 0 (becm (s0_26.2 0) x2_26))) H := hP
      have hD : va_D A (W7 G a (sA s0_26 0 (becm (s0_26.2 0) x2_26))) := hD
      refine lv_istore_n (lv' := [(2, .int (iI (nxP (becm (s0_26.2 0) x2_26) x2_26 (1 : Int) ((becm (s0_26.2 0) x2_26) 3).toNat))), (1, .int (iI ((s.2 0) 4))), (0, .ref (a 0))]) hx hb dX7_cut_46 rfl hl (by decide) rfl (fun ls hl => ?_)
      refine lv_goto (tgt := 28) hx hb dX7_cut_47 (by decide) ?_
      obtain ⟨h54, h55⟩ := h50
      exact ih31 ((nxP (becm (s0_26.2 0) x2_26) x2_26 (1 : Int) ((becm (s0_26.2 0) x2_26) 3).toNat, sA s0_26 0 (becm (s0_26.2 0) x2_26))) H locs ls ⟨⟨r53, (RG_A rs0_26 (r45.2 0))⟩, h54⟩ h55 hP hD hS (lv_sub hl [0, 1, 2] rfl)
  · intro J18
    refine zr_if_le (tgt := 21) (x := rowsAt (s.2 0) (2 : Int)) hx hb r5 dX7_cut_12 (by decide) (fun c7 => ?_) (fun c7 => ?_)
    · have h10 := h6.2 c7
      have e0_J18 : (if 0 < (rowsAt (s.2 0) (2 : Int)) then becm (s.2 0) (2 : Int) else (s.2 0)) = (s.2 0) := (if_neg c7)
      have J9 := J18 H locs ls (by (try rw [e0_J18]); exact hP) (by (try rw [e0_J18]); exact hD) hS (by (try rw [e0_J18]); exact lv_sub hl [0, 1] rfl) (by rw [show (if 0 < (rowsAt (s.2 0) (2 : Int)) then becm (s.2 0) (2 : Int) else (s.2 0)) = (s.2 0) from (if_neg c7)]; exact (r_s.2 0))
      exact J9
    · have h11 := h6.1 c7
      refine lv_aload_n hx hb dX7_cut_15 rfl (lv_at hl 1 rfl) ?_
      refine lv_iconst (v := iI 2) hx hb dX7_cut_16 rfl ?_
      refine zc_vi (As := [.int (iI 2)]) (rest := []) (w2 := fun u_13 => W7 G a (sA s 0 (becm (s.2 0) (2 : Int)))) (c_X7_becomesRun l G a s 2 r_s rg_2 b1) ⟨hx, hb, hml, hown, hts⟩ (cwV 1 hts gX7_cut_X7_becomesRun rfl rfl rfl hdX7_becomesRun ⟨Nat.le_of_ble_eq_true rfl, Nat.le_of_ble_eq_true rfl⟩) hK hP hD hS hA (q0 := 0) rfl rfl [0, 1, 2, 3, 4, 5, 6] [] [0, 1, 2, 3, 4, 5, 6] rfl rfl rfl rfl (by decide) (fun _ => rfl) rfl rfl hl.1 rfl (Nat.le_of_ble_eq_true rfl) dX7_cut_17 ⟨Nat.zero_le _, Nat.zero_le _⟩ (fun z14 u_13 H locs hw hP hD hS => ?_)
      obtain ⟨rfl, r15, r12⟩ := hw
      have hP : va_P G.1 vwCl (W7 G a (sA s 0 (becm (s.2 0) (2 : Int)))) H := hP
      have hD : va_D A (W7 G a (sA s 0 (becm (s.2 0) (2 : Int)))) := hD
      refine lv_pop hx hb dX7_cut_20 rfl ?_
      have e0_J18 : (if 0 < (rowsAt (s.2 0) (2 : Int)) then becm (s.2 0) (2 : Int) else (s.2 0)) = becm (s.2 0) (2 : Int) := (if_pos c7)
      have J9 := J18 H locs ls (by (try rw [e0_J18]); exact hP) (by (try rw [e0_J18]); exact hD) hS (by (try rw [e0_J18]); exact lv_sub hl [0, 1] rfl) (by rw [show (if 0 < (rowsAt (s.2 0) (2 : Int)) then becm (s.2 0) (2 : Int) else (s.2 0)) = becm (s.2 0) (2 : Int) from (if_pos c7)]; exact (r12.2 0))
      exact J9
theorem c_X7_cut (l : Launch) (G : ZG) (a : Nat → Nat) (s : SS)   (r_s : RG s)  (p0 : Vb (s.2 0)) (p1 : (s.2 0) 4 + 1 + manyZ (s.2 0) 1 ≤ 900000000) (p2 : rg ((s.2 0) 9 + 1)) : ZI l G yX7_cut wsX7_cut 2 46 [.ref (a 0)] (W7 G a s) (fun _ : Unit => W7 G a (sA s 0 (cutZ (s.2 0)))) (fun (z : Int) (_ : Unit) => z = (pz (0 < rowsAt (s.2 0) 2) + manyZ (s.2 0) 1) ∧ rg z ∧ RG (sA s 0 (cutZ (s.2 0)))) := by
  refine ZI.fn (w1 := fun u : SS => W7 G a u) (fun z u hq => ?_) (c0_X7_cut l G a s (fun z o0 => z = (pz (0 < rowsAt (s.2 0) 2) + manyZ (s.2 0) 1) ∧ o0 = (sA s 0 (cutZ (s.2 0)))) r_s  (sp_X7_cut s r_s  p0 p1 p2))
  obtain ⟨rz, ro0, ⟨ez, eo0⟩⟩ := hq
  exact ⟨by rw [eo0], ⟨ez, rz, (by rw [← eo0]; exact ro0)⟩⟩
theorem imX7_grants_X7 : ∀ w ∈ wsX70, w ∈ wsX7_grants := fun _ h => (List.mem_cons_of_mem _ (List.mem_append_right _ h))
theorem hdX7_grants : yX7_grants.cls = RX7 ∧ yX7_grants.cls ≠ "java/lang/invoke/MethodHandle" ∧ yX7_grants.cls ≠ "java/lang/invoke/VarHandle" ∧ (parseMethodDescriptor yX7_grants.desc).map (fun d => d.parameters.length) = some 1 := by decide +kernel
set_option maxRecDepth 100000 in
set_option maxHeartbeats 4000000 in
theorem c0_X7_grants (l : Launch) (G : ZG) (a : Nat → Nat) (s : SS) (size : Int) (P : Int → SS → Prop) (r_s : RG s) (r_size : rg size) (hwp : wp_X7_grants s size P) : ZI l G yX7_grants wsX7_grants 4 89 [.ref (a 0), .int (iI size)] (W7 G a s) (fun u : SS => W7 G a u) (fun (z : Int) (u : SS) => rg z ∧ RG u ∧ P z u) := by
  unfold wp_X7_grants at hwp
  refine zm_i (cc := cX7_grants) (maxL := 2) (ret := some .int) (own := RX7) (lvs := [(0, .ref (a 0)), (1, .int (iI size))]) (by decide) rfl rfl (Nat.le_of_ble_eq_true rfl) rfl ?_
  intro p e sT m args below meth c ls A hx hb hr hml hown hts hlocks hK hP hD hS hA hl
  have k1 := hts (.fieldLink RX7 7 "GrantedSortModel" "z" "[I") (List.mem_of_getElem? (i := 1) rfl)
  refine lv_aload_n hx hb dX7_grants_0 rfl (lv_at hl 0 rfl) ?_
  refine va_get (v := .ref (a 1)) (ci := 7) (C := RX7) (T := TX7) (N := 12) hx hb hts imX7_grants_X7 hown hK hP 0 rfl rfl 0 (by decide) k1 (fun _ h9 => h9) rfl dX7_grants_1 ?_
  refine lv_iconst (v := iI 0) hx hb dX7_grants_4 rfl ?_
  refine lv_iload_n hx hb dX7_grants_5 rfl (lv_at hl 1 rfl) ?_
  refine zr_iast (n := 370) (f := (s.2 0)) (i := 0) (x := size) hx hb hK hP hD hS 1 rfl rg_0 ⟨by decide, by decide⟩ dX7_grants_6 (fun H locs hP hD hS => ?_)
  have hP : va_P G.1 vwCl (W7 G a (sA s 0 (uZ (s.2 0) 0 size))) H := hP
  have hD : va_D A (W7 G a (sA s 0 (uZ (s.2 0) 0 size))) := hD
  refine lv_aload_n hx hb dX7_grants_7 rfl (lv_at hl 0 rfl) ?_
  refine va_get (v := .ref (a 1)) (ci := 7) (C := RX7) (T := TX7) (N := 12) hx hb hts imX7_grants_X7 hown hK hP 0 rfl rfl 0 (by decide) k1 (fun _ h9 => h9) rfl dX7_grants_8 ?_
  refine lv_iconst (v := iI 2) hx hb dX7_grants_11 rfl ?_
  refine zr_iald (n := 370) (f := uZ (s.2 0) 0 size) (i := 2) hx hb hK hP 1 rfl rg_2 ⟨by decide, by decide⟩ dX7_grants_12 ?_
  refine W.eq (g2 := F0 m 13 ls (.int (iI ((s.2 0) 2)) :: [])) rfl ?_
  refine lv_iconst (v := iI 1) hx hb dX7_grants_13 rfl ?_
  refine zr_icmp_ne (tgt := 33) (x := (s.2 0) 2) (y := 1) hx hb ((r_s.2 0) 2) rg_1 dX7_grants_14 (by decide) (fun c1 => ?_) (fun c1 => ?_)
  · have h4 := hwp.2 c1
    refine lv_aload_n hx hb dX7_grants_33 rfl (lv_at hl 0 rfl) ?_
    refine va_get (v := .ref (a 1)) (ci := 7) (C := RX7) (T := TX7) (N := 12) hx hb hts imX7_grants_X7 hown hK hP 0 rfl rfl 0 (by decide) k1 (fun _ h9 => h9) rfl dX7_grants_34 ?_
    refine lv_iconst (v := iI 5) hx hb dX7_grants_37 rfl ?_
    refine zr_iald (n := 370) (f := uZ (s.2 0) 0 size) (i := 5) hx hb hK hP 1 rfl rg_5 ⟨by decide, by decide⟩ dX7_grants_38 ?_
    refine W.eq (g2 := F0 m 39 ls (.int (iI ((s.2 0) 5)) :: [])) rfl ?_
    refine lv_iconst (v := iI 1) hx hb dX7_grants_39 rfl ?_
    refine zr_icmp_ne (tgt := 61) (x := (s.2 0) 5) (y := 1) hx hb ((r_s.2 0) 5) rg_1 dX7_grants_40 (by decide) (fun c5 => ?_) (fun c5 => ?_)
    · have h8 := h4.2 c5
      refine lv_iconst (v := iI 0) hx hb dX7_grants_61 rfl ?_
      exact zr_iret (z := 0) hx hb hr hlocks hK (sA s 0 (uZ (s.2 0) 0 size)) hP hD hS dX7_grants_62 ⟨rg_0, (RG_A r_s (rgA_u (i := 0) (r_s.2 0) r_size)), h8⟩
    · have h9 := h4.1 c5
      refine lv_aload_n hx hb dX7_grants_43 rfl (lv_at hl 0 rfl) ?_
      obtain ⟨b10, h11⟩ := h9
      refine zc_vi (As := []) (rest := []) (w2 := fun u_12 => W7 G a (sA s 0 (uZ (s.2 0) 0 size))) (c_X7_inputsLeft l G a (sA s 0 (uZ (s.2 0) 0 size)) (RG_A r_s (rgA_u (i := 0) (r_s.2 0) r_size)) b10) ⟨hx, hb, hml, hown, hts⟩ (cwV 0 hts gX7_grants_X7_inputsLeft rfl rfl rfl hdX7_inputsLeft ⟨Nat.le_of_ble_eq_true rfl, Nat.le_of_ble_eq_true rfl⟩) hK hP hD hS hA (q0 := 0) rfl rfl [0, 1, 2, 3, 4, 5, 6] [] [0, 1, 2, 3, 4, 5, 6] rfl rfl rfl rfl (by decide) (fun _ => rfl) rfl rfl hl.1 rfl (Nat.le_of_ble_eq_true rfl) dX7_grants_44 ⟨Nat.zero_le _, Nat.zero_le _⟩ (fun z13 u_12 H locs hw hP hD hS => ?_)
      obtain ⟨rfl, r14⟩ := hw
      have hP : va_P G.1 vwCl (W7 G a (sA s 0 (uZ (s.2 0) 0 size))) H := hP
      have hD : va_D A (W7 G a (sA s 0 (uZ (s.2 0) 0 size))) := hD
      refine lv_iload_n hx hb dX7_grants_47 rfl (lv_at hl 1 rfl) ?_
      obtain ⟨b15, h16⟩ := h11
      refine zc_si (As := [.int (iI size)]) (rest := [.int (iI (manyZ (uZ (s.2 0) 0 size) 1))]) (c_X7_waysOf l G size r_size b15) ⟨hx, hb, hml, hown, hts⟩ (va_cwS 1 hts gX7_grants_X7_waysOf rfl rfl rfl hdX7_waysOf ⟨Nat.le_of_ble_eq_true rfl, Nat.le_of_ble_eq_true rfl⟩) hK hP hD hS hA rfl hl.1 rfl (Nat.le_of_ble_eq_true rfl) dX7_grants_48 ⟨Nat.zero_le _, Nat.zero_le _⟩ (fun z18 H locs hw hP hD hS => ?_)
      obtain ⟨rfl, r19⟩ := hw
      have hP : va_P G.1 vwCl (W7 G a (sA s 0 (uZ (s.2 0) 0 size))) H := hP
      have hD : va_D A (W7 G a (sA s 0 (uZ (s.2 0) 0 size))) := hD
      refine zr_icmp_le (tgt := 61) (x := manyZ (uZ (s.2 0) 0 size) 1) (y := waysZ size) hx hb r14 r19 dX7_grants_51 (by decide) (fun c20 => ?_) (fun c20 => ?_)
      · have h23 := h16.2 c20
        refine lv_iconst (v := iI 0) hx hb dX7_grants_61 rfl ?_
        exact zr_iret (z := 0) hx hb hr hlocks hK (sA s 0 (uZ (s.2 0) 0 size)) hP hD hS dX7_grants_62 ⟨rg_0, (RG_A r_s (rgA_u (i := 0) (r_s.2 0) r_size)), h23⟩
      · have h24 := h16.1 c20
        refine lv_aload_n hx hb dX7_grants_54 rfl (lv_at hl 0 rfl) ?_
        obtain ⟨b25, h26⟩ := h24
        obtain ⟨b27, h28⟩ := h26
        refine zc_vi (As := []) (rest := []) (w2 := fun u_30 => W7 G a (sA s 0 (cutZ (uZ (s.2 0) 0 size)))) (c_X7_cut l G a (sA s 0 (uZ (s.2 0) 0 size)) (RG_A r_s (rgA_u (i := 0) (r_s.2 0) r_size)) b10 b25 b27) ⟨hx, hb, hml, hown, hts⟩ (cwV 0 hts gX7_grants_X7_cut rfl rfl rfl hdX7_cut ⟨Nat.le_of_ble_eq_true rfl, Nat.le_of_ble_eq_true rfl⟩) hK hP hD hS hA (q0 := 0) rfl rfl [0, 1, 2, 3, 4, 5, 6] [] [0, 1, 2, 3, 4, 5, 6] rfl rfl rfl rfl (by decide) (fun _ => rfl) rfl rfl hl.1 rfl (Nat.le_of_ble_eq_true rfl) dX7_grants_55 ⟨Nat.zero_le _, Nat.zero_le _⟩ (fun z31 u_30 H locs hw hP hD hS => ?_)
        obtain ⟨rfl, r32, r29⟩ := hw
        have hP : va_P G.1 vwCl (W7 G a (sA s 0 (cutZ (uZ (s.2 0) 0 size)))) H := hP
        have hD : va_D A (W7 G a (sA s 0 (cutZ (uZ (s.2 0) 0 size)))) := hD
        refine lv_goto (tgt := 62) hx hb dX7_grants_58 (by decide) ?_
        exact zr_iret (z := pz (0 < rowsAt (uZ (s.2 0) 0 size) 2) + manyZ (uZ (s.2 0) 0 size) 1) hx hb hr hlocks hK (sA s 0 (cutZ (uZ (s.2 0) 0 size))) hP hD hS dX7_grants_62 ⟨r32, (RG_A r_s (r29.2 0)), h28⟩
  · have h33 := hwp.1 c1
    refine lv_aload_n hx hb dX7_grants_17 rfl (lv_at hl 0 rfl) ?_
    refine lv_iconst (v := iI 1) hx hb dX7_grants_18 rfl ?_
    obtain ⟨b34, h35⟩ := h33
    refine zc_vi (As := [.int (iI 1)]) (rest := []) (w2 := fun u_36 => W7 G a (sA s 0 (uZ (s.2 0) 0 size))) (c_X7_rowsAt l G a (sA s 0 (uZ (s.2 0) 0 size)) 1 (RG_A r_s (rgA_u (i := 0) (r_s.2 0) r_size)) rg_1 b34) ⟨hx, hb, hml, hown, hts⟩ (cwV 1 hts gX7_grants_X7_rowsAt rfl rfl rfl hdX7_rowsAt ⟨Nat.le_of_ble_eq_true rfl, Nat.le_of_ble_eq_true rfl⟩) hK hP hD hS hA (q0 := 0) rfl rfl [0, 1, 2, 3, 4, 5, 6] [] [0, 1, 2, 3, 4, 5, 6] rfl rfl rfl rfl (by decide) (fun _ => rfl) rfl rfl hl.1 rfl (Nat.le_of_ble_eq_true rfl) dX7_grants_19 ⟨Nat.zero_le _, Nat.zero_le _⟩ (fun z37 u_36 H locs hw hP hD hS => ?_)
    obtain ⟨rfl, r38⟩ := hw
    have hP : va_P G.1 vwCl (W7 G a (sA s 0 (uZ (s.2 0) 0 size))) H := hP
    have hD : va_D A (W7 G a (sA s 0 (uZ (s.2 0) 0 size))) := hD
    refine lv_iload_n hx hb dX7_grants_22 rfl (lv_at hl 1 rfl) ?_
    refine zr_icmp_le (tgt := 33) (x := rowsAt (uZ (s.2 0) 0 size) (1 : Int)) (y := size) hx hb r38 r_size dX7_grants_23 (by decide) (fun c39 => ?_) (fun c39 => ?_)
    · have h42 := h35.2 c39
      refine lv_aload_n hx hb dX7_grants_33 rfl (lv_at hl 0 rfl) ?_
      refine va_get (v := .ref (a 1)) (ci := 7) (C := RX7) (T := TX7) (N := 12) hx hb hts imX7_grants_X7 hown hK hP 0 rfl rfl 0 (by decide) k1 (fun _ h9 => h9) rfl dX7_grants_34 ?_
      refine lv_iconst (v := iI 5) hx hb dX7_grants_37 rfl ?_
      refine zr_iald (n := 370) (f := uZ (s.2 0) 0 size) (i := 5) hx hb hK hP 1 rfl rg_5 ⟨by decide, by decide⟩ dX7_grants_38 ?_
      refine W.eq (g2 := F0 m 39 ls (.int (iI ((s.2 0) 5)) :: [])) rfl ?_
      refine lv_iconst (v := iI 1) hx hb dX7_grants_39 rfl ?_
      refine zr_icmp_ne (tgt := 61) (x := (s.2 0) 5) (y := 1) hx hb ((r_s.2 0) 5) rg_1 dX7_grants_40 (by decide) (fun c43 => ?_) (fun c43 => ?_)
      · have h46 := h42.2 c43
        refine lv_iconst (v := iI 0) hx hb dX7_grants_61 rfl ?_
        exact zr_iret (z := 0) hx hb hr hlocks hK (sA s 0 (uZ (s.2 0) 0 size)) hP hD hS dX7_grants_62 ⟨rg_0, (RG_A r_s (rgA_u (i := 0) (r_s.2 0) r_size)), h46⟩
      · have h47 := h42.1 c43
        refine lv_aload_n hx hb dX7_grants_43 rfl (lv_at hl 0 rfl) ?_
        refine zc_vi (As := []) (rest := []) (w2 := fun u_48 => W7 G a (sA s 0 (uZ (s.2 0) 0 size))) (c_X7_inputsLeft l G a (sA s 0 (uZ (s.2 0) 0 size)) (RG_A r_s (rgA_u (i := 0) (r_s.2 0) r_size)) b34) ⟨hx, hb, hml, hown, hts⟩ (cwV 0 hts gX7_grants_X7_inputsLeft rfl rfl rfl hdX7_inputsLeft ⟨Nat.le_of_ble_eq_true rfl, Nat.le_of_ble_eq_true rfl⟩) hK hP hD hS hA (q0 := 0) rfl rfl [0, 1, 2, 3, 4, 5, 6] [] [0, 1, 2, 3, 4, 5, 6] rfl rfl rfl rfl (by decide) (fun _ => rfl) rfl rfl hl.1 rfl (Nat.le_of_ble_eq_true rfl) dX7_grants_44 ⟨Nat.zero_le _, Nat.zero_le _⟩ (fun z49 u_48 H locs hw hP hD hS => ?_)
        obtain ⟨rfl, r50⟩ := hw
        have hP : va_P G.1 vwCl (W7 G a (sA s 0 (uZ (s.2 0) 0 size))) H := hP
        have hD : va_D A (W7 G a (sA s 0 (uZ (s.2 0) 0 size))) := hD
        refine lv_iload_n hx hb dX7_grants_47 rfl (lv_at hl 1 rfl) ?_
        obtain ⟨b51, h52⟩ := h47
        refine zc_si (As := [.int (iI size)]) (rest := [.int (iI (manyZ (uZ (s.2 0) 0 size) 1))]) (c_X7_waysOf l G size r_size b51) ⟨hx, hb, hml, hown, hts⟩ (va_cwS 1 hts gX7_grants_X7_waysOf rfl rfl rfl hdX7_waysOf ⟨Nat.le_of_ble_eq_true rfl, Nat.le_of_ble_eq_true rfl⟩) hK hP hD hS hA rfl hl.1 rfl (Nat.le_of_ble_eq_true rfl) dX7_grants_48 ⟨Nat.zero_le _, Nat.zero_le _⟩ (fun z54 H locs hw hP hD hS => ?_)
        obtain ⟨rfl, r55⟩ := hw
        have hP : va_P G.1 vwCl (W7 G a (sA s 0 (uZ (s.2 0) 0 size))) H := hP
        have hD : va_D A (W7 G a (sA s 0 (uZ (s.2 0) 0 size))) := hD
        refine zr_icmp_le (tgt := 61) (x := manyZ (uZ (s.2 0) 0 size) 1) (y := waysZ size) hx hb r50 r55 dX7_grants_51 (by decide) (fun c56 => ?_) (fun c56 => ?_)
        · have h59 := h52.2 c56
          refine lv_iconst (v := iI 0) hx hb dX7_grants_61 rfl ?_
          exact zr_iret (z := 0) hx hb hr hlocks hK (sA s 0 (uZ (s.2 0) 0 size)) hP hD hS dX7_grants_62 ⟨rg_0, (RG_A r_s (rgA_u (i := 0) (r_s.2 0) r_size)), h59⟩
        · have h60 := h52.1 c56
          refine lv_aload_n hx hb dX7_grants_54 rfl (lv_at hl 0 rfl) ?_
          obtain ⟨b61, h62⟩ := h60
          obtain ⟨b63, h64⟩ := h62
          refine zc_vi (As := []) (rest := []) (w2 := fun u_66 => W7 G a (sA s 0 (cutZ (uZ (s.2 0) 0 size)))) (c_X7_cut l G a (sA s 0 (uZ (s.2 0) 0 size)) (RG_A r_s (rgA_u (i := 0) (r_s.2 0) r_size)) b34 b61 b63) ⟨hx, hb, hml, hown, hts⟩ (cwV 0 hts gX7_grants_X7_cut rfl rfl rfl hdX7_cut ⟨Nat.le_of_ble_eq_true rfl, Nat.le_of_ble_eq_true rfl⟩) hK hP hD hS hA (q0 := 0) rfl rfl [0, 1, 2, 3, 4, 5, 6] [] [0, 1, 2, 3, 4, 5, 6] rfl rfl rfl rfl (by decide) (fun _ => rfl) rfl rfl hl.1 rfl (Nat.le_of_ble_eq_true rfl) dX7_grants_55 ⟨Nat.zero_le _, Nat.zero_le _⟩ (fun z67 u_66 H locs hw hP hD hS => ?_)
          obtain ⟨rfl, r68, r65⟩ := hw
          have hP : va_P G.1 vwCl (W7 G a (sA s 0 (cutZ (uZ (s.2 0) 0 size)))) H := hP
          have hD : va_D A (W7 G a (sA s 0 (cutZ (uZ (s.2 0) 0 size)))) := hD
          refine lv_goto (tgt := 62) hx hb dX7_grants_58 (by decide) ?_
          exact zr_iret (z := pz (0 < rowsAt (uZ (s.2 0) 0 size) 2) + manyZ (uZ (s.2 0) 0 size) 1) hx hb hr hlocks hK (sA s 0 (cutZ (uZ (s.2 0) 0 size))) hP hD hS dX7_grants_62 ⟨r68, (RG_A r_s (r65.2 0)), h64⟩
    · have h69 := h35.1 c39
      refine lv_aload_n hx hb dX7_grants_26 rfl (lv_at hl 0 rfl) ?_
      obtain ⟨b70, h71⟩ := h69
      refine zc_vi (As := []) (rest := []) (w2 := fun u_73 => W7 G a (sA s 0 (wriZ (uZ (s.2 0) 0 size)))) (c_X7_writes l G a (sA s 0 (uZ (s.2 0) 0 size)) (RG_A r_s (rgA_u (i := 0) (r_s.2 0) r_size)) b34 b70) ⟨hx, hb, hml, hown, hts⟩ (cwV 0 hts gX7_grants_X7_writes rfl rfl rfl hdX7_writes ⟨Nat.le_of_ble_eq_true rfl, Nat.le_of_ble_eq_true rfl⟩) hK hP hD hS hA (q0 := 0) rfl rfl [0, 1, 2, 3, 4, 5, 6] [] [0, 1, 2, 3, 4, 5, 6] rfl rfl rfl rfl (by decide) (fun _ => rfl) rfl rfl hl.1 rfl (Nat.le_of_ble_eq_true rfl) dX7_grants_27 ⟨Nat.zero_le _, Nat.zero_le _⟩ (fun z74 u_73 H locs hw hP hD hS => ?_)
      obtain ⟨rfl, r75, r72⟩ := hw
      have hP : va_P G.1 vwCl (W7 G a (sA s 0 (wriZ (uZ (s.2 0) 0 size)))) H := hP
      have hD : va_D A (W7 G a (sA s 0 (wriZ (uZ (s.2 0) 0 size)))) := hD
      refine lv_pop hx hb dX7_grants_30 rfl ?_
      refine lv_iconst (v := iI 1) hx hb dX7_grants_31 rfl ?_
      exact zr_iret (z := 1) hx hb hr hlocks hK (sA s 0 (wriZ (uZ (s.2 0) 0 size))) hP hD hS dX7_grants_32 ⟨rg_1, (RG_A r_s (r72.2 0)), h71⟩
theorem c_X7_grants (l : Launch) (G : ZG) (a : Nat → Nat) (s : SS) (size : Int)  (r_s : RG s) (r_size : rg size) (p0 : Vb (s.2 0)) (p1 : 2 ≤ size ∧ size ≤ 20) (p2 : rg ((s.2 0) 7 + rowsAt (s.2 0) 1)) (p3 : (s.2 0) 4 + 1 + manyZ (s.2 0) 1 ≤ 900000000) (p4 : rg ((s.2 0) 9 + 1)) : ZI l G yX7_grants wsX7_grants 4 89 [.ref (a 0), .int (iI size)] (W7 G a s) (fun _ : Unit => W7 G a (sA s 0 (graZ (s.2 0) size))) (fun (z : Int) (_ : Unit) => z = (graA (s.2 0) size) ∧ rg z ∧ RG (sA s 0 (graZ (s.2 0) size))) := by
  refine ZI.fn (w1 := fun u : SS => W7 G a u) (fun z u hq => ?_) (c0_X7_grants l G a s size (fun z o0 => z = (graA (s.2 0) size) ∧ o0 = (sA s 0 (graZ (s.2 0) size))) r_s r_size (sp_X7_grants s size r_s r_size p0 p1 p2 p3 p4))
  obtain ⟨rz, ro0, ⟨ez, eo0⟩⟩ := hq
  exact ⟨by rw [eo0], ⟨ez, rz, (by rw [← eo0]; exact ro0)⟩⟩
theorem imX7_steps_X7 : ∀ w ∈ wsX70, w ∈ wsX7_steps := fun _ h => (List.mem_cons_of_mem _ (List.mem_append_right _ h))
theorem hdX7_steps : yX7_steps.cls = RX7 ∧ yX7_steps.cls ≠ "java/lang/invoke/MethodHandle" ∧ yX7_steps.cls ≠ "java/lang/invoke/VarHandle" ∧ (parseMethodDescriptor yX7_steps.desc).map (fun d => d.parameters.length) = some 0 := by decide +kernel
set_option maxRecDepth 100000 in
set_option maxHeartbeats 4000000 in
theorem c0_X7_steps (l : Launch) (G : ZG) (a : Nat → Nat) (s : SS)  (P : SS → Prop) (r_s : RG s)  (hwp : wp_X7_steps s P) : ZV l G yX7_steps wsX7_steps 3 64 [.ref (a 0)] (W7 G a s) (fun u : SS => W7 G a u) (fun (u : SS) => RG u ∧ P u) := by
  unfold wp_X7_steps at hwp
  refine zm_v (cc := cX7_steps) (maxL := 3) (ret := none) (own := RX7) (lvs := [(0, .ref (a 0))]) (by decide) rfl rfl (Nat.le_of_ble_eq_true rfl) rfl ?_
  intro p e sT m args below meth c ls A hx hb hr hml hown hts hlocks hK hP hD hS hA hl
  have k1 := hts (.fieldLink RX7 7 "GrantedSortModel" "z" "[I") (List.mem_of_getElem? (i := 1) rfl)
  refine lv_aload_n hx hb dX7_steps_0 rfl (lv_at hl 0 rfl) ?_
  obtain ⟨b1, h2⟩ := hwp
  refine zc_vi (As := []) (rest := []) (w2 := fun u_3 => W7 G a s) (c_X7_firstRow l G a s r_s b1) ⟨hx, hb, hml, hown, hts⟩ (cwV 0 hts gX7_steps_X7_firstRow rfl rfl rfl hdX7_firstRow ⟨Nat.le_of_ble_eq_true rfl, Nat.le_of_ble_eq_true rfl⟩) hK hP hD hS hA (q0 := 0) rfl rfl [0, 1, 2, 3, 4, 5, 6] [] [0, 1, 2, 3, 4, 5, 6] rfl rfl rfl rfl (by decide) (fun _ => rfl) rfl rfl hl.1 rfl (Nat.le_of_ble_eq_true rfl) dX7_steps_1 ⟨Nat.zero_le _, Nat.zero_le _⟩ (fun z4 u_3 H locs hw hP hD hS => ?_)
  obtain ⟨rfl, r5⟩ := hw
  have hP : va_P G.1 vwCl (W7 G a s) H := hP
  have hD : va_D A (W7 G a s) := hD
  refine lv_istore_n (lv' := [(1, .int (iI (frV (s.2 0)))), (0, .ref (a 0))]) hx hb dX7_steps_4 rfl hl (by decide) rfl (fun ls hl => ?_)
  refine lv_aload_n hx hb dX7_steps_5 rfl (lv_at hl 1 rfl) ?_
  refine zc_vi (As := []) (rest := []) (w2 := fun u_6 => W7 G a s) (c_X7_lastOfOutput l G a s r_s b1) ⟨hx, hb, hml, hown, hts⟩ (cwV 0 hts gX7_steps_X7_lastOfOutput rfl rfl rfl hdX7_lastOfOutput ⟨Nat.le_of_ble_eq_true rfl, Nat.le_of_ble_eq_true rfl⟩) hK hP hD hS hA (q0 := 0) rfl rfl [0, 1, 2, 3, 4, 5, 6] [] [0, 1, 2, 3, 4, 5, 6] rfl rfl rfl rfl (by decide) (fun _ => rfl) rfl rfl hl.1 rfl (Nat.le_of_ble_eq_true rfl) dX7_steps_6 ⟨Nat.zero_le _, Nat.zero_le _⟩ (fun z7 u_6 H locs hw hP hD hS => ?_)
  obtain ⟨rfl, r8⟩ := hw
  have hP : va_P G.1 vwCl (W7 G a s) H := hP
  have hD : va_D A (W7 G a s) := hD
  refine lv_istore_n (lv' := [(2, .int (iI (loV (s.2 0)))), (1, .int (iI (frV (s.2 0)))), (0, .ref (a 0))]) hx hb dX7_steps_9 rfl hl (by decide) rfl (fun ls hl => ?_)
  refine lv_aload_n hx hb dX7_steps_10 rfl (lv_at hl 2 rfl) ?_
  refine va_get (v := .ref (a 1)) (ci := 7) (C := RX7) (T := TX7) (N := 12) hx hb hts imX7_steps_X7 hown hK hP 0 rfl rfl 0 (by decide) k1 (fun _ h9 => h9) rfl dX7_steps_11 ?_
  refine lv_bipush (v := iI 7) hx hb dX7_steps_14 (by decide) ?_
  refine lv_dup2_11 hx hb dX7_steps_16 rfl rfl ?_
  refine zr_iald (n := 370) (f := (s.2 0)) (i := 7) hx hb hK hP 1 rfl rg_7 ⟨by decide, by decide⟩ dX7_steps_17 ?_
  refine lv_iconst (v := iI 1) hx hb dX7_steps_18 rfl ?_
  refine zr_iadd (x := (s.2 0) 7) (y := 1) hx hb dX7_steps_19 ?_
  obtain ⟨r9, h10⟩ := h2
  refine zr_iast (n := 370) (f := (s.2 0)) (i := 7) (x := ((s.2 0) 7) + 1) hx hb hK hP hD hS 1 rfl rg_7 ⟨by decide, by decide⟩ dX7_steps_20 (fun H locs hP hD hS => ?_)
  have hP : va_P G.1 vwCl (W7 G a (sA s 0 (uZ (s.2 0) 7 (((s.2 0) 7) + 1)))) H := hP
  have hD : va_D A (W7 G a (sA s 0 (uZ (s.2 0) 7 (((s.2 0) 7) + 1)))) := hD
  refine lv_aload_n hx hb dX7_steps_21 rfl (lv_at hl 2 rfl) ?_
  refine va_get (v := .ref (a 1)) (ci := 7) (C := RX7) (T := TX7) (N := 12) hx hb hts imX7_steps_X7 hown hK hP 0 rfl rfl 0 (by decide) k1 (fun _ h9 => h9) rfl dX7_steps_22 ?_
  refine lv_iconst (v := iI 1) hx hb dX7_steps_25 rfl ?_
  refine zr_iald (n := 370) (f := uZ (s.2 0) 7 (((s.2 0) 7) + 1)) (i := 1) hx hb hK hP 1 rfl rg_1 ⟨by decide, by decide⟩ dX7_steps_26 ?_
  refine W.eq (g2 := F0 m 27 ls (.int (iI ((s.2 0) 1)) :: [])) rfl ?_
  refine lv_iconst (v := iI 1) hx hb dX7_steps_27 rfl ?_
  refine zr_icmp_ne (tgt := 106) (x := (s.2 0) 1) (y := 1) hx hb ((r_s.2 0) 1) rg_1 dX7_steps_28 (by decide) (fun c11 => ?_) (fun c11 => ?_)
  · have h14 := h10.2 c11
    refine lv_aload_n hx hb dX7_steps_106 rfl (lv_at hl 2 rfl) ?_
    refine va_get (v := .ref (a 1)) (ci := 7) (C := RX7) (T := TX7) (N := 12) hx hb hts imX7_steps_X7 hown hK hP 0 rfl rfl 0 (by decide) k1 (fun _ h9 => h9) rfl dX7_steps_107 ?_
    refine lv_sipush (v := iI 250) hx hb dX7_steps_110 (by decide) ?_
    refine lv_iload_n hx hb dX7_steps_113 rfl (lv_at hl 1 rfl) ?_
    refine zr_iadd (x := 250) (y := frV (s.2 0)) hx hb dX7_steps_114 ?_
    obtain ⟨r15, h16⟩ := h14
    refine lv_iconst (v := iI 2) hx hb dX7_steps_115 rfl ?_
    obtain ⟨b17, h18⟩ := h16
    refine zr_iast (n := 370) (f := uZ (s.2 0) 7 (((s.2 0) 7) + 1)) (i := 250 + (frV (s.2 0))) (x := 2) hx hb hK hP hD hS 1 rfl r15 b17 dX7_steps_116 (fun H locs hP hD hS => ?_)
    have hP : va_P G.1 vwCl (W7 G a (sA s 0 (uZ (uZ (s.2 0) 7 (((s.2 0) 7) + 1)) (250 + (frV (s.2 0))) 2))) H := hP
    have hD : va_D A (W7 G a (sA s 0 (uZ (uZ (s.2 0) 7 (((s.2 0) 7) + 1)) (250 + (frV (s.2 0))) 2))) := hD
    refine lv_aload_n hx hb dX7_steps_117 rfl (lv_at hl 2 rfl) ?_
    refine va_get (v := .ref (a 1)) (ci := 7) (C := RX7) (T := TX7) (N := 12) hx hb hts imX7_steps_X7 hown hK hP 0 rfl rfl 0 (by decide) k1 (fun _ h9 => h9) rfl dX7_steps_118 ?_
    refine lv_bipush (v := iI 7) hx hb dX7_steps_121 (by decide) ?_
    refine lv_dup2_11 hx hb dX7_steps_123 rfl rfl ?_
    refine zr_iald (n := 370) (f := uZ (uZ (s.2 0) 7 (((s.2 0) 7) + 1)) (250 + (frV (s.2 0))) 2) (i := 7) hx hb hK hP 1 rfl rg_7 ⟨by decide, by decide⟩ dX7_steps_124 ?_
    refine lv_iconst (v := iI 1) hx hb dX7_steps_125 rfl ?_
    refine zr_iadd (x := (uZ (uZ (s.2 0) 7 (((s.2 0) 7) + 1)) (250 + (frV (s.2 0))) 2) 7) (y := 1) hx hb dX7_steps_126 ?_
    obtain ⟨r19, h20⟩ := h18
    refine zr_iast (n := 370) (f := uZ (uZ (s.2 0) 7 (((s.2 0) 7) + 1)) (250 + (frV (s.2 0))) 2) (i := 7) (x := ((uZ (uZ (s.2 0) 7 (((s.2 0) 7) + 1)) (250 + (frV (s.2 0))) 2) 7) + 1) hx hb hK hP hD hS 1 rfl rg_7 ⟨by decide, by decide⟩ dX7_steps_127 (fun H locs hP hD hS => ?_)
    have hP : va_P G.1 vwCl (W7 G a (sA s 0 (uZ (uZ (uZ (s.2 0) 7 (((s.2 0) 7) + 1)) (250 + (frV (s.2 0))) 2) 7 (((uZ (uZ (s.2 0) 7 (((s.2 0) 7) + 1)) (250 + (frV (s.2 0))) 2) 7) + 1)))) H := hP
    have hD : va_D A (W7 G a (sA s 0 (uZ (uZ (uZ (s.2 0) 7 (((s.2 0) 7) + 1)) (250 + (frV (s.2 0))) 2) 7 (((uZ (uZ (s.2 0) 7 (((s.2 0) 7) + 1)) (250 + (frV (s.2 0))) 2) 7) + 1)))) := hD
    refine lv_aload_n hx hb dX7_steps_128 rfl (lv_at hl 2 rfl) ?_
    obtain ⟨b21, h22⟩ := h20
    refine zc_vi (As := []) (rest := []) (w2 := fun u_23 => W7 G a (sA s 0 (uZ (uZ (uZ (s.2 0) 7 (((s.2 0) 7) + 1)) (250 + (frV (s.2 0))) 2) 7 (((uZ (uZ (s.2 0) 7 (((s.2 0) 7) + 1)) (250 + (frV (s.2 0))) 2) 7) + 1)))) (c_X7_rowsInInputs l G a (sA s 0 (uZ (uZ (uZ (s.2 0) 7 (((s.2 0) 7) + 1)) (250 + (frV (s.2 0))) 2) 7 (((uZ (uZ (s.2 0) 7 (((s.2 0) 7) + 1)) (250 + (frV (s.2 0))) 2) 7) + 1))) (RG_A r_s (rgA_u (i := 7) (rgA_u (i := 250 + (frV (s.2 0))) (rgA_u (i := 7) (r_s.2 0) r9) rg_2) r19)) b21) ⟨hx, hb, hml, hown, hts⟩ (cwV 0 hts gX7_steps_X7_rowsInInputs rfl rfl rfl hdX7_rowsInInputs ⟨Nat.le_of_ble_eq_true rfl, Nat.le_of_ble_eq_true rfl⟩) hK hP hD hS hA (q0 := 0) rfl rfl [0, 1, 2, 3, 4, 5, 6] [] [0, 1, 2, 3, 4, 5, 6] rfl rfl rfl rfl (by decide) (fun _ => rfl) rfl rfl hl.1 rfl (Nat.le_of_ble_eq_true rfl) dX7_steps_129 ⟨Nat.zero_le _, Nat.zero_le _⟩ (fun z24 u_23 H locs hw hP hD hS => ?_)
    obtain ⟨rfl, r25⟩ := hw
    have hP : va_P G.1 vwCl (W7 G a (sA s 0 (uZ (uZ (uZ (s.2 0) 7 (((s.2 0) 7) + 1)) (250 + (frV (s.2 0))) 2) 7 (((uZ (uZ (s.2 0) 7 (((s.2 0) 7) + 1)) (250 + (frV (s.2 0))) 2) 7) + 1)))) H := hP
    have hD : va_D A (W7 G a (sA s 0 (uZ (uZ (uZ (s.2 0) 7 (((s.2 0) 7) + 1)) (250 + (frV (s.2 0))) 2) 7 (((uZ (uZ (s.2 0) 7 (((s.2 0) 7) + 1)) (250 + (frV (s.2 0))) 2) 7) + 1)))) := hD
    refine zr_if_ne (tgt := 148) (x := riZ (uZ (uZ (uZ (s.2 0) 7 (((s.2 0) 7) + 1)) (250 + (frV (s.2 0))) 2) 7 (((uZ (uZ (s.2 0) 7 (((s.2 0) 7) + 1)) (250 + (frV (s.2 0))) 2) 7) + 1))) hx hb r25 dX7_steps_132 (by decide) (fun c26 => ?_) (fun c26 => ?_)
    · have h29 := h22.2 c26
      exact zr_vret hx hb hr hlocks hK (sA s 0 (uZ (uZ (uZ (s.2 0) 7 (((s.2 0) 7) + 1)) (250 + (frV (s.2 0))) 2) 7 (((uZ (uZ (s.2 0) 7 (((s.2 0) 7) + 1)) (250 + (frV (s.2 0))) 2) 7) + 1))) hP hD hS dX7_steps_148 ⟨(RG_A r_s (rgA_u (i := 7) (rgA_u (i := 250 + (frV (s.2 0))) (rgA_u (i := 7) (r_s.2 0) r9) rg_2) r19)), h29⟩
    · have h30 := h22.1 c26
      refine lv_aload_n hx hb dX7_steps_135 rfl (lv_at hl 2 rfl) ?_
      refine lv_iconst (v := iI 2) hx hb dX7_steps_136 rfl ?_
      refine zc_vi (As := [.int (iI 2)]) (rest := []) (w2 := fun u_32 => W7 G a (sA s 0 (becm (uZ (uZ (uZ (s.2 0) 7 (((s.2 0) 7) + 1)) (250 + (frV (s.2 0))) 2) 7 (((uZ (uZ (s.2 0) 7 (((s.2 0) 7) + 1)) (250 + (frV (s.2 0))) 2) 7) + 1)) (2 : Int)))) (c_X7_becomesRun l G a (sA s 0 (uZ (uZ (uZ (s.2 0) 7 (((s.2 0) 7) + 1)) (250 + (frV (s.2 0))) 2) 7 (((uZ (uZ (s.2 0) 7 (((s.2 0) 7) + 1)) (250 + (frV (s.2 0))) 2) 7) + 1))) 2 (RG_A r_s (rgA_u (i := 7) (rgA_u (i := 250 + (frV (s.2 0))) (rgA_u (i := 7) (r_s.2 0) r9) rg_2) r19)) rg_2 b21) ⟨hx, hb, hml, hown, hts⟩ (cwV 1 hts gX7_steps_X7_becomesRun rfl rfl rfl hdX7_becomesRun ⟨Nat.le_of_ble_eq_true rfl, Nat.le_of_ble_eq_true rfl⟩) hK hP hD hS hA (q0 := 0) rfl rfl [0, 1, 2, 3, 4, 5, 6] [] [0, 1, 2, 3, 4, 5, 6] rfl rfl rfl rfl (by decide) (fun _ => rfl) rfl rfl hl.1 rfl (Nat.le_of_ble_eq_true rfl) dX7_steps_137 ⟨Nat.zero_le _, Nat.zero_le _⟩ (fun z33 u_32 H locs hw hP hD hS => ?_)
      obtain ⟨rfl, r34, r31⟩ := hw
      have hP : va_P G.1 vwCl (W7 G a (sA s 0 (becm (uZ (uZ (uZ (s.2 0) 7 (((s.2 0) 7) + 1)) (250 + (frV (s.2 0))) 2) 7 (((uZ (uZ (s.2 0) 7 (((s.2 0) 7) + 1)) (250 + (frV (s.2 0))) 2) 7) + 1)) (2 : Int)))) H := hP
      have hD : va_D A (W7 G a (sA s 0 (becm (uZ (uZ (uZ (s.2 0) 7 (((s.2 0) 7) + 1)) (250 + (frV (s.2 0))) 2) 7 (((uZ (uZ (s.2 0) 7 (((s.2 0) 7) + 1)) (250 + (frV (s.2 0))) 2) 7) + 1)) (2 : Int)))) := hD
      refine lv_pop hx hb dX7_steps_140 rfl ?_
      refine lv_aload_n hx hb dX7_steps_141 rfl (lv_at hl 2 rfl) ?_
      refine va_get (v := .ref (a 1)) (ci := 7) (C := RX7) (T := TX7) (N := 12) hx hb hts imX7_steps_X7 hown hK hP 0 rfl rfl 0 (by decide) k1 (fun _ h9 => h9) rfl dX7_steps_142 ?_
      refine lv_iconst (v := iI 5) hx hb dX7_steps_145 rfl ?_
      refine lv_iconst (v := iI 0) hx hb dX7_steps_146 rfl ?_
      refine zr_iast (n := 370) (f := becm (uZ (uZ (uZ (s.2 0) 7 (((s.2 0) 7) + 1)) (250 + (frV (s.2 0))) 2) 7 (((uZ (uZ (s.2 0) 7 (((s.2 0) 7) + 1)) (250 + (frV (s.2 0))) 2) 7) + 1)) (2 : Int)) (i := 5) (x := 0) hx hb hK hP hD hS 1 rfl rg_5 ⟨by decide, by decide⟩ dX7_steps_147 (fun H locs hP hD hS => ?_)
      have hP : va_P G.1 vwCl (W7 G a (sA s 0 (uZ (becm (uZ (uZ (uZ (s.2 0) 7 (((s.2 0) 7) + 1)) (250 + (frV (s.2 0))) 2) 7 (((uZ (uZ (s.2 0) 7 (((s.2 0) 7) + 1)) (250 + (frV (s.2 0))) 2) 7) + 1)) (2 : Int)) 5 0))) H := hP
      have hD : va_D A (W7 G a (sA s 0 (uZ (becm (uZ (uZ (uZ (s.2 0) 7 (((s.2 0) 7) + 1)) (250 + (frV (s.2 0))) 2) 7 (((uZ (uZ (s.2 0) 7 (((s.2 0) 7) + 1)) (250 + (frV (s.2 0))) 2) 7) + 1)) (2 : Int)) 5 0))) := hD
      exact zr_vret hx hb hr hlocks hK (sA s 0 (uZ (becm (uZ (uZ (uZ (s.2 0) 7 (((s.2 0) 7) + 1)) (250 + (frV (s.2 0))) 2) 7 (((uZ (uZ (s.2 0) 7 (((s.2 0) 7) + 1)) (250 + (frV (s.2 0))) 2) 7) + 1)) (2 : Int)) 5 0)) hP hD hS dX7_steps_148 ⟨(RG_A r_s (rgA_u (i := 5) (r31.2 0) rg_0)), h30⟩
  · have h35 := h10.1 c11
    refine lv_iload_n hx hb dX7_steps_31 rfl (lv_at hl 0 rfl) ?_
    refine lv_bipush (v := iI (-6)) hx hb dX7_steps_32 (by decide) ?_
    refine zr_icmp_eq (tgt := 106) (x := loV (s.2 0)) (y := (-6)) hx hb r8 rg_m6 dX7_steps_34 (by decide) (fun c36 => ?_) (fun c36 => ?_)
    · have h39 := h35.1 c36
      refine lv_aload_n hx hb dX7_steps_106 rfl (lv_at hl 2 rfl) ?_
      refine va_get (v := .ref (a 1)) (ci := 7) (C := RX7) (T := TX7) (N := 12) hx hb hts imX7_steps_X7 hown hK hP 0 rfl rfl 0 (by decide) k1 (fun _ h9 => h9) rfl dX7_steps_107 ?_
      refine lv_sipush (v := iI 250) hx hb dX7_steps_110 (by decide) ?_
      refine lv_iload_n hx hb dX7_steps_113 rfl (lv_at hl 1 rfl) ?_
      refine zr_iadd (x := 250) (y := frV (s.2 0)) hx hb dX7_steps_114 ?_
      obtain ⟨r40, h41⟩ := h39
      refine lv_iconst (v := iI 2) hx hb dX7_steps_115 rfl ?_
      obtain ⟨b42, h43⟩ := h41
      refine zr_iast (n := 370) (f := uZ (s.2 0) 7 (((s.2 0) 7) + 1)) (i := 250 + (frV (s.2 0))) (x := 2) hx hb hK hP hD hS 1 rfl r40 b42 dX7_steps_116 (fun H locs hP hD hS => ?_)
      have hP : va_P G.1 vwCl (W7 G a (sA s 0 (uZ (uZ (s.2 0) 7 (((s.2 0) 7) + 1)) (250 + (frV (s.2 0))) 2))) H := hP
      have hD : va_D A (W7 G a (sA s 0 (uZ (uZ (s.2 0) 7 (((s.2 0) 7) + 1)) (250 + (frV (s.2 0))) 2))) := hD
      refine lv_aload_n hx hb dX7_steps_117 rfl (lv_at hl 2 rfl) ?_
      refine va_get (v := .ref (a 1)) (ci := 7) (C := RX7) (T := TX7) (N := 12) hx hb hts imX7_steps_X7 hown hK hP 0 rfl rfl 0 (by decide) k1 (fun _ h9 => h9) rfl dX7_steps_118 ?_
      refine lv_bipush (v := iI 7) hx hb dX7_steps_121 (by decide) ?_
      refine lv_dup2_11 hx hb dX7_steps_123 rfl rfl ?_
      refine zr_iald (n := 370) (f := uZ (uZ (s.2 0) 7 (((s.2 0) 7) + 1)) (250 + (frV (s.2 0))) 2) (i := 7) hx hb hK hP 1 rfl rg_7 ⟨by decide, by decide⟩ dX7_steps_124 ?_
      refine lv_iconst (v := iI 1) hx hb dX7_steps_125 rfl ?_
      refine zr_iadd (x := (uZ (uZ (s.2 0) 7 (((s.2 0) 7) + 1)) (250 + (frV (s.2 0))) 2) 7) (y := 1) hx hb dX7_steps_126 ?_
      obtain ⟨r44, h45⟩ := h43
      refine zr_iast (n := 370) (f := uZ (uZ (s.2 0) 7 (((s.2 0) 7) + 1)) (250 + (frV (s.2 0))) 2) (i := 7) (x := ((uZ (uZ (s.2 0) 7 (((s.2 0) 7) + 1)) (250 + (frV (s.2 0))) 2) 7) + 1) hx hb hK hP hD hS 1 rfl rg_7 ⟨by decide, by decide⟩ dX7_steps_127 (fun H locs hP hD hS => ?_)
      have hP : va_P G.1 vwCl (W7 G a (sA s 0 (uZ (uZ (uZ (s.2 0) 7 (((s.2 0) 7) + 1)) (250 + (frV (s.2 0))) 2) 7 (((uZ (uZ (s.2 0) 7 (((s.2 0) 7) + 1)) (250 + (frV (s.2 0))) 2) 7) + 1)))) H := hP
      have hD : va_D A (W7 G a (sA s 0 (uZ (uZ (uZ (s.2 0) 7 (((s.2 0) 7) + 1)) (250 + (frV (s.2 0))) 2) 7 (((uZ (uZ (s.2 0) 7 (((s.2 0) 7) + 1)) (250 + (frV (s.2 0))) 2) 7) + 1)))) := hD
      refine lv_aload_n hx hb dX7_steps_128 rfl (lv_at hl 2 rfl) ?_
      obtain ⟨b46, h47⟩ := h45
      refine zc_vi (As := []) (rest := []) (w2 := fun u_48 => W7 G a (sA s 0 (uZ (uZ (uZ (s.2 0) 7 (((s.2 0) 7) + 1)) (250 + (frV (s.2 0))) 2) 7 (((uZ (uZ (s.2 0) 7 (((s.2 0) 7) + 1)) (250 + (frV (s.2 0))) 2) 7) + 1)))) (c_X7_rowsInInputs l G a (sA s 0 (uZ (uZ (uZ (s.2 0) 7 (((s.2 0) 7) + 1)) (250 + (frV (s.2 0))) 2) 7 (((uZ (uZ (s.2 0) 7 (((s.2 0) 7) + 1)) (250 + (frV (s.2 0))) 2) 7) + 1))) (RG_A r_s (rgA_u (i := 7) (rgA_u (i := 250 + (frV (s.2 0))) (rgA_u (i := 7) (r_s.2 0) r9) rg_2) r44)) b46) ⟨hx, hb, hml, hown, hts⟩ (cwV 0 hts gX7_steps_X7_rowsInInputs rfl rfl rfl hdX7_rowsInInputs ⟨Nat.le_of_ble_eq_true rfl, Nat.le_of_ble_eq_true rfl⟩) hK hP hD hS hA (q0 := 0) rfl rfl [0, 1, 2, 3, 4, 5, 6] [] [0, 1, 2, 3, 4, 5, 6] rfl rfl rfl rfl (by decide) (fun _ => rfl) rfl rfl hl.1 rfl (Nat.le_of_ble_eq_true rfl) dX7_steps_129 ⟨Nat.zero_le _, Nat.zero_le _⟩ (fun z49 u_48 H locs hw hP hD hS => ?_)
      obtain ⟨rfl, r50⟩ := hw
      have hP : va_P G.1 vwCl (W7 G a (sA s 0 (uZ (uZ (uZ (s.2 0) 7 (((s.2 0) 7) + 1)) (250 + (frV (s.2 0))) 2) 7 (((uZ (uZ (s.2 0) 7 (((s.2 0) 7) + 1)) (250 + (frV (s.2 0))) 2) 7) + 1)))) H := hP
      have hD : va_D A (W7 G a (sA s 0 (uZ (uZ (uZ (s.2 0) 7 (((s.2 0) 7) + 1)) (250 + (frV (s.2 0))) 2) 7 (((uZ (uZ (s.2 0) 7 (((s.2 0) 7) + 1)) (250 + (frV (s.2 0))) 2) 7) + 1)))) := hD
      refine zr_if_ne (tgt := 148) (x := riZ (uZ (uZ (uZ (s.2 0) 7 (((s.2 0) 7) + 1)) (250 + (frV (s.2 0))) 2) 7 (((uZ (uZ (s.2 0) 7 (((s.2 0) 7) + 1)) (250 + (frV (s.2 0))) 2) 7) + 1))) hx hb r50 dX7_steps_132 (by decide) (fun c51 => ?_) (fun c51 => ?_)
      · have h54 := h47.2 c51
        exact zr_vret hx hb hr hlocks hK (sA s 0 (uZ (uZ (uZ (s.2 0) 7 (((s.2 0) 7) + 1)) (250 + (frV (s.2 0))) 2) 7 (((uZ (uZ (s.2 0) 7 (((s.2 0) 7) + 1)) (250 + (frV (s.2 0))) 2) 7) + 1))) hP hD hS dX7_steps_148 ⟨(RG_A r_s (rgA_u (i := 7) (rgA_u (i := 250 + (frV (s.2 0))) (rgA_u (i := 7) (r_s.2 0) r9) rg_2) r44)), h54⟩
      · have h55 := h47.1 c51
        refine lv_aload_n hx hb dX7_steps_135 rfl (lv_at hl 2 rfl) ?_
        refine lv_iconst (v := iI 2) hx hb dX7_steps_136 rfl ?_
        refine zc_vi (As := [.int (iI 2)]) (rest := []) (w2 := fun u_57 => W7 G a (sA s 0 (becm (uZ (uZ (uZ (s.2 0) 7 (((s.2 0) 7) + 1)) (250 + (frV (s.2 0))) 2) 7 (((uZ (uZ (s.2 0) 7 (((s.2 0) 7) + 1)) (250 + (frV (s.2 0))) 2) 7) + 1)) (2 : Int)))) (c_X7_becomesRun l G a (sA s 0 (uZ (uZ (uZ (s.2 0) 7 (((s.2 0) 7) + 1)) (250 + (frV (s.2 0))) 2) 7 (((uZ (uZ (s.2 0) 7 (((s.2 0) 7) + 1)) (250 + (frV (s.2 0))) 2) 7) + 1))) 2 (RG_A r_s (rgA_u (i := 7) (rgA_u (i := 250 + (frV (s.2 0))) (rgA_u (i := 7) (r_s.2 0) r9) rg_2) r44)) rg_2 b46) ⟨hx, hb, hml, hown, hts⟩ (cwV 1 hts gX7_steps_X7_becomesRun rfl rfl rfl hdX7_becomesRun ⟨Nat.le_of_ble_eq_true rfl, Nat.le_of_ble_eq_true rfl⟩) hK hP hD hS hA (q0 := 0) rfl rfl [0, 1, 2, 3, 4, 5, 6] [] [0, 1, 2, 3, 4, 5, 6] rfl rfl rfl rfl (by decide) (fun _ => rfl) rfl rfl hl.1 rfl (Nat.le_of_ble_eq_true rfl) dX7_steps_137 ⟨Nat.zero_le _, Nat.zero_le _⟩ (fun z58 u_57 H locs hw hP hD hS => ?_)
        obtain ⟨rfl, r59, r56⟩ := hw
        have hP : va_P G.1 vwCl (W7 G a (sA s 0 (becm (uZ (uZ (uZ (s.2 0) 7 (((s.2 0) 7) + 1)) (250 + (frV (s.2 0))) 2) 7 (((uZ (uZ (s.2 0) 7 (((s.2 0) 7) + 1)) (250 + (frV (s.2 0))) 2) 7) + 1)) (2 : Int)))) H := hP
        have hD : va_D A (W7 G a (sA s 0 (becm (uZ (uZ (uZ (s.2 0) 7 (((s.2 0) 7) + 1)) (250 + (frV (s.2 0))) 2) 7 (((uZ (uZ (s.2 0) 7 (((s.2 0) 7) + 1)) (250 + (frV (s.2 0))) 2) 7) + 1)) (2 : Int)))) := hD
        refine lv_pop hx hb dX7_steps_140 rfl ?_
        refine lv_aload_n hx hb dX7_steps_141 rfl (lv_at hl 2 rfl) ?_
        refine va_get (v := .ref (a 1)) (ci := 7) (C := RX7) (T := TX7) (N := 12) hx hb hts imX7_steps_X7 hown hK hP 0 rfl rfl 0 (by decide) k1 (fun _ h9 => h9) rfl dX7_steps_142 ?_
        refine lv_iconst (v := iI 5) hx hb dX7_steps_145 rfl ?_
        refine lv_iconst (v := iI 0) hx hb dX7_steps_146 rfl ?_
        refine zr_iast (n := 370) (f := becm (uZ (uZ (uZ (s.2 0) 7 (((s.2 0) 7) + 1)) (250 + (frV (s.2 0))) 2) 7 (((uZ (uZ (s.2 0) 7 (((s.2 0) 7) + 1)) (250 + (frV (s.2 0))) 2) 7) + 1)) (2 : Int)) (i := 5) (x := 0) hx hb hK hP hD hS 1 rfl rg_5 ⟨by decide, by decide⟩ dX7_steps_147 (fun H locs hP hD hS => ?_)
        have hP : va_P G.1 vwCl (W7 G a (sA s 0 (uZ (becm (uZ (uZ (uZ (s.2 0) 7 (((s.2 0) 7) + 1)) (250 + (frV (s.2 0))) 2) 7 (((uZ (uZ (s.2 0) 7 (((s.2 0) 7) + 1)) (250 + (frV (s.2 0))) 2) 7) + 1)) (2 : Int)) 5 0))) H := hP
        have hD : va_D A (W7 G a (sA s 0 (uZ (becm (uZ (uZ (uZ (s.2 0) 7 (((s.2 0) 7) + 1)) (250 + (frV (s.2 0))) 2) 7 (((uZ (uZ (s.2 0) 7 (((s.2 0) 7) + 1)) (250 + (frV (s.2 0))) 2) 7) + 1)) (2 : Int)) 5 0))) := hD
        exact zr_vret hx hb hr hlocks hK (sA s 0 (uZ (becm (uZ (uZ (uZ (s.2 0) 7 (((s.2 0) 7) + 1)) (250 + (frV (s.2 0))) 2) 7 (((uZ (uZ (s.2 0) 7 (((s.2 0) 7) + 1)) (250 + (frV (s.2 0))) 2) 7) + 1)) (2 : Int)) 5 0)) hP hD hS dX7_steps_148 ⟨(RG_A r_s (rgA_u (i := 5) (r56.2 0) rg_0)), h55⟩
    · have h60 := h35.2 c36
      refine lv_aload_n hx hb dX7_steps_37 rfl (lv_at hl 2 rfl) ?_
      refine va_get (v := .ref (a 1)) (ci := 7) (C := RX7) (T := TX7) (N := 12) hx hb hts imX7_steps_X7 hown hK hP 0 rfl rfl 0 (by decide) k1 (fun _ h9 => h9) rfl dX7_steps_38 ?_
      refine lv_bipush (v := iI 10) hx hb dX7_steps_41 (by decide) ?_
      refine lv_iload_n hx hb dX7_steps_43 rfl (lv_at hl 0 rfl) ?_
      refine zr_iadd (x := 10) (y := loV (s.2 0)) hx hb dX7_steps_44 ?_
      obtain ⟨r61, h62⟩ := h60
      obtain ⟨b63, h64⟩ := h62
      refine zr_iald (n := 370) (f := uZ (s.2 0) 7 (((s.2 0) 7) + 1)) (i := 10 + (loV (s.2 0))) hx hb hK hP 1 rfl r61 b63 dX7_steps_45 ?_
      refine lv_aload_n hx hb dX7_steps_46 rfl (lv_at hl 2 rfl) ?_
      refine va_get (v := .ref (a 1)) (ci := 7) (C := RX7) (T := TX7) (N := 12) hx hb hts imX7_steps_X7 hown hK hP 0 rfl rfl 0 (by decide) k1 (fun _ h9 => h9) rfl dX7_steps_47 ?_
      refine lv_bipush (v := iI 10) hx hb dX7_steps_50 (by decide) ?_
      refine lv_iload_n hx hb dX7_steps_52 rfl (lv_at hl 1 rfl) ?_
      refine zr_iadd (x := 10) (y := frV (s.2 0)) hx hb dX7_steps_53 ?_
      obtain ⟨r65, h66⟩ := h64
      obtain ⟨b67, h68⟩ := h66
      refine zr_iald (n := 370) (f := uZ (s.2 0) 7 (((s.2 0) 7) + 1)) (i := 10 + (frV (s.2 0))) hx hb hK hP 1 rfl r65 b67 dX7_steps_54 ?_
      refine zr_icmp_ne (tgt := 106) (x := (uZ (s.2 0) 7 (((s.2 0) 7) + 1)) (10 + (loV (s.2 0)))) (y := (uZ (s.2 0) 7 (((s.2 0) 7) + 1)) (10 + (frV (s.2 0)))) hx hb ((rgA_u (i := 7) (r_s.2 0) r9) (10 + (loV (s.2 0)))) ((rgA_u (i := 7) (r_s.2 0) r9) (10 + (frV (s.2 0)))) dX7_steps_55 (by decide) (fun c69 => ?_) (fun c69 => ?_)
      · have h72 := h68.2 c69
        refine lv_aload_n hx hb dX7_steps_106 rfl (lv_at hl 2 rfl) ?_
        refine va_get (v := .ref (a 1)) (ci := 7) (C := RX7) (T := TX7) (N := 12) hx hb hts imX7_steps_X7 hown hK hP 0 rfl rfl 0 (by decide) k1 (fun _ h9 => h9) rfl dX7_steps_107 ?_
        refine lv_sipush (v := iI 250) hx hb dX7_steps_110 (by decide) ?_
        refine lv_iload_n hx hb dX7_steps_113 rfl (lv_at hl 1 rfl) ?_
        refine zr_iadd (x := 250) (y := frV (s.2 0)) hx hb dX7_steps_114 ?_
        obtain ⟨r73, h74⟩ := h72
        refine lv_iconst (v := iI 2) hx hb dX7_steps_115 rfl ?_
        obtain ⟨b75, h76⟩ := h74
        refine zr_iast (n := 370) (f := uZ (s.2 0) 7 (((s.2 0) 7) + 1)) (i := 250 + (frV (s.2 0))) (x := 2) hx hb hK hP hD hS 1 rfl r73 b75 dX7_steps_116 (fun H locs hP hD hS => ?_)
        have hP : va_P G.1 vwCl (W7 G a (sA s 0 (uZ (uZ (s.2 0) 7 (((s.2 0) 7) + 1)) (250 + (frV (s.2 0))) 2))) H := hP
        have hD : va_D A (W7 G a (sA s 0 (uZ (uZ (s.2 0) 7 (((s.2 0) 7) + 1)) (250 + (frV (s.2 0))) 2))) := hD
        refine lv_aload_n hx hb dX7_steps_117 rfl (lv_at hl 2 rfl) ?_
        refine va_get (v := .ref (a 1)) (ci := 7) (C := RX7) (T := TX7) (N := 12) hx hb hts imX7_steps_X7 hown hK hP 0 rfl rfl 0 (by decide) k1 (fun _ h9 => h9) rfl dX7_steps_118 ?_
        refine lv_bipush (v := iI 7) hx hb dX7_steps_121 (by decide) ?_
        refine lv_dup2_11 hx hb dX7_steps_123 rfl rfl ?_
        refine zr_iald (n := 370) (f := uZ (uZ (s.2 0) 7 (((s.2 0) 7) + 1)) (250 + (frV (s.2 0))) 2) (i := 7) hx hb hK hP 1 rfl rg_7 ⟨by decide, by decide⟩ dX7_steps_124 ?_
        refine lv_iconst (v := iI 1) hx hb dX7_steps_125 rfl ?_
        refine zr_iadd (x := (uZ (uZ (s.2 0) 7 (((s.2 0) 7) + 1)) (250 + (frV (s.2 0))) 2) 7) (y := 1) hx hb dX7_steps_126 ?_
        obtain ⟨r77, h78⟩ := h76
        refine zr_iast (n := 370) (f := uZ (uZ (s.2 0) 7 (((s.2 0) 7) + 1)) (250 + (frV (s.2 0))) 2) (i := 7) (x := ((uZ (uZ (s.2 0) 7 (((s.2 0) 7) + 1)) (250 + (frV (s.2 0))) 2) 7) + 1) hx hb hK hP hD hS 1 rfl rg_7 ⟨by decide, by decide⟩ dX7_steps_127 (fun H locs hP hD hS => ?_)
        have hP : va_P G.1 vwCl (W7 G a (sA s 0 (uZ (uZ (uZ (s.2 0) 7 (((s.2 0) 7) + 1)) (250 + (frV (s.2 0))) 2) 7 (((uZ (uZ (s.2 0) 7 (((s.2 0) 7) + 1)) (250 + (frV (s.2 0))) 2) 7) + 1)))) H := hP
        have hD : va_D A (W7 G a (sA s 0 (uZ (uZ (uZ (s.2 0) 7 (((s.2 0) 7) + 1)) (250 + (frV (s.2 0))) 2) 7 (((uZ (uZ (s.2 0) 7 (((s.2 0) 7) + 1)) (250 + (frV (s.2 0))) 2) 7) + 1)))) := hD
        refine lv_aload_n hx hb dX7_steps_128 rfl (lv_at hl 2 rfl) ?_
        obtain ⟨b79, h80⟩ := h78
        refine zc_vi (As := []) (rest := []) (w2 := fun u_81 => W7 G a (sA s 0 (uZ (uZ (uZ (s.2 0) 7 (((s.2 0) 7) + 1)) (250 + (frV (s.2 0))) 2) 7 (((uZ (uZ (s.2 0) 7 (((s.2 0) 7) + 1)) (250 + (frV (s.2 0))) 2) 7) + 1)))) (c_X7_rowsInInputs l G a (sA s 0 (uZ (uZ (uZ (s.2 0) 7 (((s.2 0) 7) + 1)) (250 + (frV (s.2 0))) 2) 7 (((uZ (uZ (s.2 0) 7 (((s.2 0) 7) + 1)) (250 + (frV (s.2 0))) 2) 7) + 1))) (RG_A r_s (rgA_u (i := 7) (rgA_u (i := 250 + (frV (s.2 0))) (rgA_u (i := 7) (r_s.2 0) r9) rg_2) r77)) b79) ⟨hx, hb, hml, hown, hts⟩ (cwV 0 hts gX7_steps_X7_rowsInInputs rfl rfl rfl hdX7_rowsInInputs ⟨Nat.le_of_ble_eq_true rfl, Nat.le_of_ble_eq_true rfl⟩) hK hP hD hS hA (q0 := 0) rfl rfl [0, 1, 2, 3, 4, 5, 6] [] [0, 1, 2, 3, 4, 5, 6] rfl rfl rfl rfl (by decide) (fun _ => rfl) rfl rfl hl.1 rfl (Nat.le_of_ble_eq_true rfl) dX7_steps_129 ⟨Nat.zero_le _, Nat.zero_le _⟩ (fun z82 u_81 H locs hw hP hD hS => ?_)
        obtain ⟨rfl, r83⟩ := hw
        have hP : va_P G.1 vwCl (W7 G a (sA s 0 (uZ (uZ (uZ (s.2 0) 7 (((s.2 0) 7) + 1)) (250 + (frV (s.2 0))) 2) 7 (((uZ (uZ (s.2 0) 7 (((s.2 0) 7) + 1)) (250 + (frV (s.2 0))) 2) 7) + 1)))) H := hP
        have hD : va_D A (W7 G a (sA s 0 (uZ (uZ (uZ (s.2 0) 7 (((s.2 0) 7) + 1)) (250 + (frV (s.2 0))) 2) 7 (((uZ (uZ (s.2 0) 7 (((s.2 0) 7) + 1)) (250 + (frV (s.2 0))) 2) 7) + 1)))) := hD
        refine zr_if_ne (tgt := 148) (x := riZ (uZ (uZ (uZ (s.2 0) 7 (((s.2 0) 7) + 1)) (250 + (frV (s.2 0))) 2) 7 (((uZ (uZ (s.2 0) 7 (((s.2 0) 7) + 1)) (250 + (frV (s.2 0))) 2) 7) + 1))) hx hb r83 dX7_steps_132 (by decide) (fun c84 => ?_) (fun c84 => ?_)
        · have h87 := h80.2 c84
          exact zr_vret hx hb hr hlocks hK (sA s 0 (uZ (uZ (uZ (s.2 0) 7 (((s.2 0) 7) + 1)) (250 + (frV (s.2 0))) 2) 7 (((uZ (uZ (s.2 0) 7 (((s.2 0) 7) + 1)) (250 + (frV (s.2 0))) 2) 7) + 1))) hP hD hS dX7_steps_148 ⟨(RG_A r_s (rgA_u (i := 7) (rgA_u (i := 250 + (frV (s.2 0))) (rgA_u (i := 7) (r_s.2 0) r9) rg_2) r77)), h87⟩
        · have h88 := h80.1 c84
          refine lv_aload_n hx hb dX7_steps_135 rfl (lv_at hl 2 rfl) ?_
          refine lv_iconst (v := iI 2) hx hb dX7_steps_136 rfl ?_
          refine zc_vi (As := [.int (iI 2)]) (rest := []) (w2 := fun u_90 => W7 G a (sA s 0 (becm (uZ (uZ (uZ (s.2 0) 7 (((s.2 0) 7) + 1)) (250 + (frV (s.2 0))) 2) 7 (((uZ (uZ (s.2 0) 7 (((s.2 0) 7) + 1)) (250 + (frV (s.2 0))) 2) 7) + 1)) (2 : Int)))) (c_X7_becomesRun l G a (sA s 0 (uZ (uZ (uZ (s.2 0) 7 (((s.2 0) 7) + 1)) (250 + (frV (s.2 0))) 2) 7 (((uZ (uZ (s.2 0) 7 (((s.2 0) 7) + 1)) (250 + (frV (s.2 0))) 2) 7) + 1))) 2 (RG_A r_s (rgA_u (i := 7) (rgA_u (i := 250 + (frV (s.2 0))) (rgA_u (i := 7) (r_s.2 0) r9) rg_2) r77)) rg_2 b79) ⟨hx, hb, hml, hown, hts⟩ (cwV 1 hts gX7_steps_X7_becomesRun rfl rfl rfl hdX7_becomesRun ⟨Nat.le_of_ble_eq_true rfl, Nat.le_of_ble_eq_true rfl⟩) hK hP hD hS hA (q0 := 0) rfl rfl [0, 1, 2, 3, 4, 5, 6] [] [0, 1, 2, 3, 4, 5, 6] rfl rfl rfl rfl (by decide) (fun _ => rfl) rfl rfl hl.1 rfl (Nat.le_of_ble_eq_true rfl) dX7_steps_137 ⟨Nat.zero_le _, Nat.zero_le _⟩ (fun z91 u_90 H locs hw hP hD hS => ?_)
          obtain ⟨rfl, r92, r89⟩ := hw
          have hP : va_P G.1 vwCl (W7 G a (sA s 0 (becm (uZ (uZ (uZ (s.2 0) 7 (((s.2 0) 7) + 1)) (250 + (frV (s.2 0))) 2) 7 (((uZ (uZ (s.2 0) 7 (((s.2 0) 7) + 1)) (250 + (frV (s.2 0))) 2) 7) + 1)) (2 : Int)))) H := hP
          have hD : va_D A (W7 G a (sA s 0 (becm (uZ (uZ (uZ (s.2 0) 7 (((s.2 0) 7) + 1)) (250 + (frV (s.2 0))) 2) 7 (((uZ (uZ (s.2 0) 7 (((s.2 0) 7) + 1)) (250 + (frV (s.2 0))) 2) 7) + 1)) (2 : Int)))) := hD
          refine lv_pop hx hb dX7_steps_140 rfl ?_
          refine lv_aload_n hx hb dX7_steps_141 rfl (lv_at hl 2 rfl) ?_
          refine va_get (v := .ref (a 1)) (ci := 7) (C := RX7) (T := TX7) (N := 12) hx hb hts imX7_steps_X7 hown hK hP 0 rfl rfl 0 (by decide) k1 (fun _ h9 => h9) rfl dX7_steps_142 ?_
          refine lv_iconst (v := iI 5) hx hb dX7_steps_145 rfl ?_
          refine lv_iconst (v := iI 0) hx hb dX7_steps_146 rfl ?_
          refine zr_iast (n := 370) (f := becm (uZ (uZ (uZ (s.2 0) 7 (((s.2 0) 7) + 1)) (250 + (frV (s.2 0))) 2) 7 (((uZ (uZ (s.2 0) 7 (((s.2 0) 7) + 1)) (250 + (frV (s.2 0))) 2) 7) + 1)) (2 : Int)) (i := 5) (x := 0) hx hb hK hP hD hS 1 rfl rg_5 ⟨by decide, by decide⟩ dX7_steps_147 (fun H locs hP hD hS => ?_)
          have hP : va_P G.1 vwCl (W7 G a (sA s 0 (uZ (becm (uZ (uZ (uZ (s.2 0) 7 (((s.2 0) 7) + 1)) (250 + (frV (s.2 0))) 2) 7 (((uZ (uZ (s.2 0) 7 (((s.2 0) 7) + 1)) (250 + (frV (s.2 0))) 2) 7) + 1)) (2 : Int)) 5 0))) H := hP
          have hD : va_D A (W7 G a (sA s 0 (uZ (becm (uZ (uZ (uZ (s.2 0) 7 (((s.2 0) 7) + 1)) (250 + (frV (s.2 0))) 2) 7 (((uZ (uZ (s.2 0) 7 (((s.2 0) 7) + 1)) (250 + (frV (s.2 0))) 2) 7) + 1)) (2 : Int)) 5 0))) := hD
          exact zr_vret hx hb hr hlocks hK (sA s 0 (uZ (becm (uZ (uZ (uZ (s.2 0) 7 (((s.2 0) 7) + 1)) (250 + (frV (s.2 0))) 2) 7 (((uZ (uZ (s.2 0) 7 (((s.2 0) 7) + 1)) (250 + (frV (s.2 0))) 2) 7) + 1)) (2 : Int)) 5 0)) hP hD hS dX7_steps_148 ⟨(RG_A r_s (rgA_u (i := 5) (r89.2 0) rg_0)), h88⟩
      · have h93 := h68.1 c69
        refine lv_aload_n hx hb dX7_steps_58 rfl (lv_at hl 2 rfl) ?_
        refine va_get (v := .ref (a 1)) (ci := 7) (C := RX7) (T := TX7) (N := 12) hx hb hts imX7_steps_X7 hown hK hP 0 rfl rfl 0 (by decide) k1 (fun _ h9 => h9) rfl dX7_steps_59 ?_
        refine lv_sipush (v := iI 130) hx hb dX7_steps_62 (by decide) ?_
        refine lv_iload_n hx hb dX7_steps_65 rfl (lv_at hl 0 rfl) ?_
        refine zr_iadd (x := 130) (y := loV (s.2 0)) hx hb dX7_steps_66 ?_
        obtain ⟨r94, h95⟩ := h93
        refine lv_dup2_11 hx hb dX7_steps_67 rfl rfl ?_
        obtain ⟨b96, h97⟩ := h95
        refine zr_iald (n := 370) (f := uZ (s.2 0) 7 (((s.2 0) 7) + 1)) (i := 130 + (loV (s.2 0))) hx hb hK hP 1 rfl r94 b96 dX7_steps_68 ?_
        refine lv_aload_n hx hb dX7_steps_69 rfl (lv_at hl 2 rfl) ?_
        refine va_get (v := .ref (a 1)) (ci := 7) (C := RX7) (T := TX7) (N := 12) hx hb hts imX7_steps_X7 hown hK hP 0 rfl rfl 0 (by decide) k1 (fun _ h9 => h9) rfl dX7_steps_70 ?_
        refine lv_sipush (v := iI 130) hx hb dX7_steps_73 (by decide) ?_
        refine lv_iload_n hx hb dX7_steps_76 rfl (lv_at hl 1 rfl) ?_
        refine zr_iadd (x := 130) (y := frV (s.2 0)) hx hb dX7_steps_77 ?_
        obtain ⟨r98, h99⟩ := h97
        obtain ⟨b100, h101⟩ := h99
        refine zr_iald (n := 370) (f := uZ (s.2 0) 7 (((s.2 0) 7) + 1)) (i := 130 + (frV (s.2 0))) hx hb hK hP 1 rfl r98 b100 dX7_steps_78 ?_
        refine zr_iadd (x := (uZ (s.2 0) 7 (((s.2 0) 7) + 1)) (130 + (loV (s.2 0)))) (y := (uZ (s.2 0) 7 (((s.2 0) 7) + 1)) (130 + (frV (s.2 0)))) hx hb dX7_steps_79 ?_
        obtain ⟨r102, h103⟩ := h101
        refine zr_iast (n := 370) (f := uZ (s.2 0) 7 (((s.2 0) 7) + 1)) (i := 130 + (loV (s.2 0))) (x := ((uZ (s.2 0) 7 (((s.2 0) 7) + 1)) (130 + (loV (s.2 0)))) + ((uZ (s.2 0) 7 (((s.2 0) 7) + 1)) (130 + (frV (s.2 0))))) hx hb hK hP hD hS 1 rfl r94 b96 dX7_steps_80 (fun H locs hP hD hS => ?_)
        have hP : va_P G.1 vwCl (W7 G a (sA s 0 (uZ (uZ (s.2 0) 7 (((s.2 0) 7) + 1)) (130 + (loV (s.2 0))) (((uZ (s.2 0) 7 (((s.2 0) 7) + 1)) (130 + (loV (s.2 0)))) + ((uZ (s.2 0) 7 (((s.2 0) 7) + 1)) (130 + (frV (s.2 0)))))))) H := hP
        have hD : va_D A (W7 G a (sA s 0 (uZ (uZ (s.2 0) 7 (((s.2 0) 7) + 1)) (130 + (loV (s.2 0))) (((uZ (s.2 0) 7 (((s.2 0) 7) + 1)) (130 + (loV (s.2 0)))) + ((uZ (s.2 0) 7 (((s.2 0) 7) + 1)) (130 + (frV (s.2 0)))))))) := hD
        refine lv_aload_n hx hb dX7_steps_81 rfl (lv_at hl 2 rfl) ?_
        refine va_get (v := .ref (a 1)) (ci := 7) (C := RX7) (T := TX7) (N := 12) hx hb hts imX7_steps_X7 hown hK hP 0 rfl rfl 0 (by decide) k1 (fun _ h9 => h9) rfl dX7_steps_82 ?_
        refine lv_sipush (v := iI 130) hx hb dX7_steps_85 (by decide) ?_
        refine lv_iload_n hx hb dX7_steps_88 rfl (lv_at hl 1 rfl) ?_
        refine zr_iadd (x := 130) (y := frV (s.2 0)) hx hb dX7_steps_89 ?_
        refine lv_iconst (v := iI 0) hx hb dX7_steps_90 rfl ?_
        refine zr_iast (n := 370) (f := uZ (uZ (s.2 0) 7 (((s.2 0) 7) + 1)) (130 + (loV (s.2 0))) (((uZ (s.2 0) 7 (((s.2 0) 7) + 1)) (130 + (loV (s.2 0)))) + ((uZ (s.2 0) 7 (((s.2 0) 7) + 1)) (130 + (frV (s.2 0)))))) (i := 130 + (frV (s.2 0))) (x := 0) hx hb hK hP hD hS 1 rfl r98 b100 dX7_steps_91 (fun H locs hP hD hS => ?_)
        have hP : va_P G.1 vwCl (W7 G a (sA s 0 (uZ (uZ (uZ (s.2 0) 7 (((s.2 0) 7) + 1)) (130 + (loV (s.2 0))) (((uZ (s.2 0) 7 (((s.2 0) 7) + 1)) (130 + (loV (s.2 0)))) + ((uZ (s.2 0) 7 (((s.2 0) 7) + 1)) (130 + (frV (s.2 0)))))) (130 + (frV (s.2 0))) 0))) H := hP
        have hD : va_D A (W7 G a (sA s 0 (uZ (uZ (uZ (s.2 0) 7 (((s.2 0) 7) + 1)) (130 + (loV (s.2 0))) (((uZ (s.2 0) 7 (((s.2 0) 7) + 1)) (130 + (loV (s.2 0)))) + ((uZ (s.2 0) 7 (((s.2 0) 7) + 1)) (130 + (frV (s.2 0)))))) (130 + (frV (s.2 0))) 0))) := hD
        refine lv_aload_n hx hb dX7_steps_92 rfl (lv_at hl 2 rfl) ?_
        refine va_get (v := .ref (a 1)) (ci := 7) (C := RX7) (T := TX7) (N := 12) hx hb hts imX7_steps_X7 hown hK hP 0 rfl rfl 0 (by decide) k1 (fun _ h9 => h9) rfl dX7_steps_93 ?_
        refine lv_sipush (v := iI 250) hx hb dX7_steps_96 (by decide) ?_
        refine lv_iload_n hx hb dX7_steps_99 rfl (lv_at hl 1 rfl) ?_
        refine zr_iadd (x := 250) (y := frV (s.2 0)) hx hb dX7_steps_100 ?_
        obtain ⟨r104, h105⟩ := h103
        refine lv_iconst (v := iI 0) hx hb dX7_steps_101 rfl ?_
        obtain ⟨b106, h107⟩ := h105
        refine zr_iast (n := 370) (f := uZ (uZ (uZ (s.2 0) 7 (((s.2 0) 7) + 1)) (130 + (loV (s.2 0))) (((uZ (s.2 0) 7 (((s.2 0) 7) + 1)) (130 + (loV (s.2 0)))) + ((uZ (s.2 0) 7 (((s.2 0) 7) + 1)) (130 + (frV (s.2 0)))))) (130 + (frV (s.2 0))) 0) (i := 250 + (frV (s.2 0))) (x := 0) hx hb hK hP hD hS 1 rfl r104 b106 dX7_steps_102 (fun H locs hP hD hS => ?_)
        have hP : va_P G.1 vwCl (W7 G a (sA s 0 (uZ (uZ (uZ (uZ (s.2 0) 7 (((s.2 0) 7) + 1)) (130 + (loV (s.2 0))) (((uZ (s.2 0) 7 (((s.2 0) 7) + 1)) (130 + (loV (s.2 0)))) + ((uZ (s.2 0) 7 (((s.2 0) 7) + 1)) (130 + (frV (s.2 0)))))) (130 + (frV (s.2 0))) 0) (250 + (frV (s.2 0))) 0))) H := hP
        have hD : va_D A (W7 G a (sA s 0 (uZ (uZ (uZ (uZ (s.2 0) 7 (((s.2 0) 7) + 1)) (130 + (loV (s.2 0))) (((uZ (s.2 0) 7 (((s.2 0) 7) + 1)) (130 + (loV (s.2 0)))) + ((uZ (s.2 0) 7 (((s.2 0) 7) + 1)) (130 + (frV (s.2 0)))))) (130 + (frV (s.2 0))) 0) (250 + (frV (s.2 0))) 0))) := hD
        refine lv_goto (tgt := 128) hx hb dX7_steps_103 (by decide) ?_
        refine lv_aload_n hx hb dX7_steps_128 rfl (lv_at hl 2 rfl) ?_
        obtain ⟨b108, h109⟩ := h107
        refine zc_vi (As := []) (rest := []) (w2 := fun u_110 => W7 G a (sA s 0 (uZ (uZ (uZ (uZ (s.2 0) 7 (((s.2 0) 7) + 1)) (130 + (loV (s.2 0))) (((uZ (s.2 0) 7 (((s.2 0) 7) + 1)) (130 + (loV (s.2 0)))) + ((uZ (s.2 0) 7 (((s.2 0) 7) + 1)) (130 + (frV (s.2 0)))))) (130 + (frV (s.2 0))) 0) (250 + (frV (s.2 0))) 0))) (c_X7_rowsInInputs l G a (sA s 0 (uZ (uZ (uZ (uZ (s.2 0) 7 (((s.2 0) 7) + 1)) (130 + (loV (s.2 0))) (((uZ (s.2 0) 7 (((s.2 0) 7) + 1)) (130 + (loV (s.2 0)))) + ((uZ (s.2 0) 7 (((s.2 0) 7) + 1)) (130 + (frV (s.2 0)))))) (130 + (frV (s.2 0))) 0) (250 + (frV (s.2 0))) 0)) (RG_A r_s (rgA_u (i := 250 + (frV (s.2 0))) (rgA_u (i := 130 + (frV (s.2 0))) (rgA_u (i := 130 + (loV (s.2 0))) (rgA_u (i := 7) (r_s.2 0) r9) r102) rg_0) rg_0)) b108) ⟨hx, hb, hml, hown, hts⟩ (cwV 0 hts gX7_steps_X7_rowsInInputs rfl rfl rfl hdX7_rowsInInputs ⟨Nat.le_of_ble_eq_true rfl, Nat.le_of_ble_eq_true rfl⟩) hK hP hD hS hA (q0 := 0) rfl rfl [0, 1, 2, 3, 4, 5, 6] [] [0, 1, 2, 3, 4, 5, 6] rfl rfl rfl rfl (by decide) (fun _ => rfl) rfl rfl hl.1 rfl (Nat.le_of_ble_eq_true rfl) dX7_steps_129 ⟨Nat.zero_le _, Nat.zero_le _⟩ (fun z111 u_110 H locs hw hP hD hS => ?_)
        obtain ⟨rfl, r112⟩ := hw
        have hP : va_P G.1 vwCl (W7 G a (sA s 0 (uZ (uZ (uZ (uZ (s.2 0) 7 (((s.2 0) 7) + 1)) (130 + (loV (s.2 0))) (((uZ (s.2 0) 7 (((s.2 0) 7) + 1)) (130 + (loV (s.2 0)))) + ((uZ (s.2 0) 7 (((s.2 0) 7) + 1)) (130 + (frV (s.2 0)))))) (130 + (frV (s.2 0))) 0) (250 + (frV (s.2 0))) 0))) H := hP
        have hD : va_D A (W7 G a (sA s 0 (uZ (uZ (uZ (uZ (s.2 0) 7 (((s.2 0) 7) + 1)) (130 + (loV (s.2 0))) (((uZ (s.2 0) 7 (((s.2 0) 7) + 1)) (130 + (loV (s.2 0)))) + ((uZ (s.2 0) 7 (((s.2 0) 7) + 1)) (130 + (frV (s.2 0)))))) (130 + (frV (s.2 0))) 0) (250 + (frV (s.2 0))) 0))) := hD
        refine zr_if_ne (tgt := 148) (x := riZ (uZ (uZ (uZ (uZ (s.2 0) 7 (((s.2 0) 7) + 1)) (130 + (loV (s.2 0))) (((uZ (s.2 0) 7 (((s.2 0) 7) + 1)) (130 + (loV (s.2 0)))) + ((uZ (s.2 0) 7 (((s.2 0) 7) + 1)) (130 + (frV (s.2 0)))))) (130 + (frV (s.2 0))) 0) (250 + (frV (s.2 0))) 0)) hx hb r112 dX7_steps_132 (by decide) (fun c113 => ?_) (fun c113 => ?_)
        · have h116 := h109.2 c113
          exact zr_vret hx hb hr hlocks hK (sA s 0 (uZ (uZ (uZ (uZ (s.2 0) 7 (((s.2 0) 7) + 1)) (130 + (loV (s.2 0))) (((uZ (s.2 0) 7 (((s.2 0) 7) + 1)) (130 + (loV (s.2 0)))) + ((uZ (s.2 0) 7 (((s.2 0) 7) + 1)) (130 + (frV (s.2 0)))))) (130 + (frV (s.2 0))) 0) (250 + (frV (s.2 0))) 0)) hP hD hS dX7_steps_148 ⟨(RG_A r_s (rgA_u (i := 250 + (frV (s.2 0))) (rgA_u (i := 130 + (frV (s.2 0))) (rgA_u (i := 130 + (loV (s.2 0))) (rgA_u (i := 7) (r_s.2 0) r9) r102) rg_0) rg_0)), h116⟩
        · have h117 := h109.1 c113
          refine lv_aload_n hx hb dX7_steps_135 rfl (lv_at hl 2 rfl) ?_
          refine lv_iconst (v := iI 2) hx hb dX7_steps_136 rfl ?_
          refine zc_vi (As := [.int (iI 2)]) (rest := []) (w2 := fun u_119 => W7 G a (sA s 0 (becm (uZ (uZ (uZ (uZ (s.2 0) 7 (((s.2 0) 7) + 1)) (130 + (loV (s.2 0))) (((uZ (s.2 0) 7 (((s.2 0) 7) + 1)) (130 + (loV (s.2 0)))) + ((uZ (s.2 0) 7 (((s.2 0) 7) + 1)) (130 + (frV (s.2 0)))))) (130 + (frV (s.2 0))) 0) (250 + (frV (s.2 0))) 0) (2 : Int)))) (c_X7_becomesRun l G a (sA s 0 (uZ (uZ (uZ (uZ (s.2 0) 7 (((s.2 0) 7) + 1)) (130 + (loV (s.2 0))) (((uZ (s.2 0) 7 (((s.2 0) 7) + 1)) (130 + (loV (s.2 0)))) + ((uZ (s.2 0) 7 (((s.2 0) 7) + 1)) (130 + (frV (s.2 0)))))) (130 + (frV (s.2 0))) 0) (250 + (frV (s.2 0))) 0)) 2 (RG_A r_s (rgA_u (i := 250 + (frV (s.2 0))) (rgA_u (i := 130 + (frV (s.2 0))) (rgA_u (i := 130 + (loV (s.2 0))) (rgA_u (i := 7) (r_s.2 0) r9) r102) rg_0) rg_0)) rg_2 b108) ⟨hx, hb, hml, hown, hts⟩ (cwV 1 hts gX7_steps_X7_becomesRun rfl rfl rfl hdX7_becomesRun ⟨Nat.le_of_ble_eq_true rfl, Nat.le_of_ble_eq_true rfl⟩) hK hP hD hS hA (q0 := 0) rfl rfl [0, 1, 2, 3, 4, 5, 6] [] [0, 1, 2, 3, 4, 5, 6] rfl rfl rfl rfl (by decide) (fun _ => rfl) rfl rfl hl.1 rfl (Nat.le_of_ble_eq_true rfl) dX7_steps_137 ⟨Nat.zero_le _, Nat.zero_le _⟩ (fun z120 u_119 H locs hw hP hD hS => ?_)
          obtain ⟨rfl, r121, r118⟩ := hw
          have hP : va_P G.1 vwCl (W7 G a (sA s 0 (becm (uZ (uZ (uZ (uZ (s.2 0) 7 (((s.2 0) 7) + 1)) (130 + (loV (s.2 0))) (((uZ (s.2 0) 7 (((s.2 0) 7) + 1)) (130 + (loV (s.2 0)))) + ((uZ (s.2 0) 7 (((s.2 0) 7) + 1)) (130 + (frV (s.2 0)))))) (130 + (frV (s.2 0))) 0) (250 + (frV (s.2 0))) 0) (2 : Int)))) H := hP
          have hD : va_D A (W7 G a (sA s 0 (becm (uZ (uZ (uZ (uZ (s.2 0) 7 (((s.2 0) 7) + 1)) (130 + (loV (s.2 0))) (((uZ (s.2 0) 7 (((s.2 0) 7) + 1)) (130 + (loV (s.2 0)))) + ((uZ (s.2 0) 7 (((s.2 0) 7) + 1)) (130 + (frV (s.2 0)))))) (130 + (frV (s.2 0))) 0) (250 + (frV (s.2 0))) 0) (2 : Int)))) := hD
          refine lv_pop hx hb dX7_steps_140 rfl ?_
          refine lv_aload_n hx hb dX7_steps_141 rfl (lv_at hl 2 rfl) ?_
          refine va_get (v := .ref (a 1)) (ci := 7) (C := RX7) (T := TX7) (N := 12) hx hb hts imX7_steps_X7 hown hK hP 0 rfl rfl 0 (by decide) k1 (fun _ h9 => h9) rfl dX7_steps_142 ?_
          refine lv_iconst (v := iI 5) hx hb dX7_steps_145 rfl ?_
          refine lv_iconst (v := iI 0) hx hb dX7_steps_146 rfl ?_
          refine zr_iast (n := 370) (f := becm (uZ (uZ (uZ (uZ (s.2 0) 7 (((s.2 0) 7) + 1)) (130 + (loV (s.2 0))) (((uZ (s.2 0) 7 (((s.2 0) 7) + 1)) (130 + (loV (s.2 0)))) + ((uZ (s.2 0) 7 (((s.2 0) 7) + 1)) (130 + (frV (s.2 0)))))) (130 + (frV (s.2 0))) 0) (250 + (frV (s.2 0))) 0) (2 : Int)) (i := 5) (x := 0) hx hb hK hP hD hS 1 rfl rg_5 ⟨by decide, by decide⟩ dX7_steps_147 (fun H locs hP hD hS => ?_)
          have hP : va_P G.1 vwCl (W7 G a (sA s 0 (uZ (becm (uZ (uZ (uZ (uZ (s.2 0) 7 (((s.2 0) 7) + 1)) (130 + (loV (s.2 0))) (((uZ (s.2 0) 7 (((s.2 0) 7) + 1)) (130 + (loV (s.2 0)))) + ((uZ (s.2 0) 7 (((s.2 0) 7) + 1)) (130 + (frV (s.2 0)))))) (130 + (frV (s.2 0))) 0) (250 + (frV (s.2 0))) 0) (2 : Int)) 5 0))) H := hP
          have hD : va_D A (W7 G a (sA s 0 (uZ (becm (uZ (uZ (uZ (uZ (s.2 0) 7 (((s.2 0) 7) + 1)) (130 + (loV (s.2 0))) (((uZ (s.2 0) 7 (((s.2 0) 7) + 1)) (130 + (loV (s.2 0)))) + ((uZ (s.2 0) 7 (((s.2 0) 7) + 1)) (130 + (frV (s.2 0)))))) (130 + (frV (s.2 0))) 0) (250 + (frV (s.2 0))) 0) (2 : Int)) 5 0))) := hD
          exact zr_vret hx hb hr hlocks hK (sA s 0 (uZ (becm (uZ (uZ (uZ (uZ (s.2 0) 7 (((s.2 0) 7) + 1)) (130 + (loV (s.2 0))) (((uZ (s.2 0) 7 (((s.2 0) 7) + 1)) (130 + (loV (s.2 0)))) + ((uZ (s.2 0) 7 (((s.2 0) 7) + 1)) (130 + (frV (s.2 0)))))) (130 + (frV (s.2 0))) 0) (250 + (frV (s.2 0))) 0) (2 : Int)) 5 0)) hP hD hS dX7_steps_148 ⟨(RG_A r_s (rgA_u (i := 5) (r118.2 0) rg_0)), h117⟩
theorem c_X7_steps (l : Launch) (G : ZG) (a : Nat → Nat) (s : SS)   (r_s : RG s)  (p0 : Vb (s.2 0)) (p1 : 0 < riZ (s.2 0)) (p2 : rg ((s.2 0) 7 + 2) ∧ 0 ≤ (s.2 0) 7) (p3 : ∀ r, 0 ≤ r → r < (s.2 0) 3 → 0 ≤ (s.2 0) (130 + r) ∧ (s.2 0) (130 + r) ≤ 120) : ZV l G yX7_steps wsX7_steps 3 64 [.ref (a 0)] (W7 G a s) (fun _ : Unit => W7 G a (sA s 0 (stpZ (s.2 0)))) (fun (_ : Unit) => RG (sA s 0 (stpZ (s.2 0)))) := by
  refine ZV.fn (w1 := fun u : SS => W7 G a u) (fun  u hq => ?_) (c0_X7_steps l G a s (fun o0 => o0 = (sA s 0 (stpZ (s.2 0)))) r_s  (sp_X7_steps s r_s  p0 p1 p2 p3))
  obtain ⟨ro0, eo0⟩ := hq
  exact ⟨by rw [eo0], (by rw [← eo0]; exact ro0)⟩
theorem imX7_runsToCome_X7 : ∀ w ∈ wsX70, w ∈ wsX7_runsToCome := fun _ h => (List.mem_cons_of_mem _ (List.mem_append_right _ h))
theorem hdX7_runsToCome : yX7_runsToCome.cls = RX7 ∧ yX7_runsToCome.cls ≠ "java/lang/invoke/MethodHandle" ∧ yX7_runsToCome.cls ≠ "java/lang/invoke/VarHandle" ∧ (parseMethodDescriptor yX7_runsToCome.desc).map (fun d => d.parameters.length) = some 0 := by decide +kernel
set_option maxRecDepth 100000 in
set_option maxHeartbeats 4000000 in
theorem c0_X7_runsToCome (l : Launch) (G : ZG) (a : Nat → Nat) (s : SS)  (P : Int → Prop) (r_s : RG s)  (hwp : wp_X7_runsToCome s P) : ZI l G yX7_runsToCome wsX7_runsToCome 4 89 [.ref (a 0)] (W7 G a s) (fun u : Unit => W7 G a s) (fun (z : Int) (u : Unit) => rg z ∧ P z) := by
  unfold wp_X7_runsToCome at hwp
  refine zm_i (cc := cX7_runsToCome) (maxL := 1) (ret := some .int) (own := RX7) (lvs := [(0, .ref (a 0))]) (by decide) rfl rfl (Nat.le_of_ble_eq_true rfl) rfl ?_
  intro p e sT m args below meth c ls A hx hb hr hml hown hts hlocks hK hP hD hS hA hl
  have k1 := hts (.fieldLink RX7 7 "GrantedSortModel" "z" "[I") (List.mem_of_getElem? (i := 1) rfl)
  refine lv_aload_n hx hb dX7_runsToCome_0 rfl (lv_at hl 0 rfl) ?_
  obtain ⟨b1, h2⟩ := hwp
  refine zc_vi (As := []) (rest := []) (w2 := fun u_3 => W7 G a s) (c_X7_runMany l G a s r_s b1) ⟨hx, hb, hml, hown, hts⟩ (cwV 0 hts gX7_runsToCome_X7_runMany rfl rfl rfl hdX7_runMany ⟨Nat.le_of_ble_eq_true rfl, Nat.le_of_ble_eq_true rfl⟩) hK hP hD hS hA (q0 := 0) rfl rfl [0, 1, 2, 3, 4, 5, 6] [] [0, 1, 2, 3, 4, 5, 6] rfl rfl rfl rfl (by decide) (fun _ => rfl) rfl rfl hl.1 rfl (Nat.le_of_ble_eq_true rfl) dX7_runsToCome_1 ⟨Nat.zero_le _, Nat.zero_le _⟩ (fun z4 u_3 H locs hw hP hD hS => ?_)
  obtain ⟨rfl, r5⟩ := hw
  have hP : va_P G.1 vwCl (W7 G a s) H := hP
  have hD : va_D A (W7 G a s) := hD
  refine lv_aload_n hx hb dX7_runsToCome_4 rfl (lv_at hl 0 rfl) ?_
  refine va_get (v := .ref (a 1)) (ci := 7) (C := RX7) (T := TX7) (N := 12) hx hb hts imX7_runsToCome_X7 hown hK hP 0 rfl rfl 0 (by decide) k1 (fun _ h9 => h9) rfl dX7_runsToCome_5 ?_
  refine lv_iconst (v := iI 2) hx hb dX7_runsToCome_8 rfl ?_
  refine zr_iald (n := 370) (f := (s.2 0)) (i := 2) hx hb hK hP 1 rfl rg_2 ⟨by decide, by decide⟩ dX7_runsToCome_9 ?_
  refine lv_iconst (v := iI 1) hx hb dX7_runsToCome_10 rfl ?_
  refine zr_icmp_ne (tgt := 22) (x := (s.2 0) 2) (y := 1) hx hb ((r_s.2 0) 2) rg_1 dX7_runsToCome_11 (by decide) (fun c6 => ?_) (fun c6 => ?_)
  · have h9 := h2.2 c6
    refine lv_aload_n hx hb dX7_runsToCome_22 rfl (lv_at hl 0 rfl) ?_
    refine va_get (v := .ref (a 1)) (ci := 7) (C := RX7) (T := TX7) (N := 12) hx hb hts imX7_runsToCome_X7 hown hK hP 0 rfl rfl 0 (by decide) k1 (fun _ h9 => h9) rfl dX7_runsToCome_23 ?_
    refine lv_iconst (v := iI 5) hx hb dX7_runsToCome_26 rfl ?_
    refine zr_iald (n := 370) (f := (s.2 0)) (i := 5) hx hb hK hP 1 rfl rg_5 ⟨by decide, by decide⟩ dX7_runsToCome_27 ?_
    refine lv_iconst (v := iI 1) hx hb dX7_runsToCome_28 rfl ?_
    refine zr_icmp_ne (tgt := 36) (x := (s.2 0) 5) (y := 1) hx hb ((r_s.2 0) 5) rg_1 dX7_runsToCome_29 (by decide) (fun c10 => ?_) (fun c10 => ?_)
    · have h13 := h9.2 c10
      refine lv_iconst (v := iI 0) hx hb dX7_runsToCome_36 rfl ?_
      refine zr_iadd (x := manyZ (s.2 0) 0) (y := 0) hx hb dX7_runsToCome_37 ?_
      obtain ⟨r14, h15⟩ := h13
      exact zr_iret (z := (manyZ (s.2 0) 0) + 0) hx hb hr hlocks hK () hP hD hS dX7_runsToCome_38 ⟨r14, h15⟩
    · have h16 := h9.1 c10
      refine lv_iconst (v := iI 1) hx hb dX7_runsToCome_32 rfl ?_
      refine lv_goto (tgt := 37) hx hb dX7_runsToCome_33 (by decide) ?_
      refine zr_iadd (x := manyZ (s.2 0) 0) (y := 1) hx hb dX7_runsToCome_37 ?_
      obtain ⟨r17, h18⟩ := h16
      exact zr_iret (z := (manyZ (s.2 0) 0) + 1) hx hb hr hlocks hK () hP hD hS dX7_runsToCome_38 ⟨r17, h18⟩
  · have h19 := h2.1 c6
    refine lv_aload_n hx hb dX7_runsToCome_14 rfl (lv_at hl 0 rfl) ?_
    refine lv_iconst (v := iI 1) hx hb dX7_runsToCome_15 rfl ?_
    refine zc_vi (As := [.int (iI 1)]) (rest := [.int (iI (manyZ (s.2 0) 0))]) (w2 := fun u_20 => W7 G a s) (c_X7_rowsAt l G a s 1 r_s rg_1 b1) ⟨hx, hb, hml, hown, hts⟩ (cwV 1 hts gX7_runsToCome_X7_rowsAt rfl rfl rfl hdX7_rowsAt ⟨Nat.le_of_ble_eq_true rfl, Nat.le_of_ble_eq_true rfl⟩) hK hP hD hS hA (q0 := 0) rfl rfl [0, 1, 2, 3, 4, 5, 6] [] [0, 1, 2, 3, 4, 5, 6] rfl rfl rfl rfl (by decide) (fun _ => rfl) rfl rfl hl.1 rfl (Nat.le_of_ble_eq_true rfl) dX7_runsToCome_16 ⟨Nat.zero_le _, Nat.zero_le _⟩ (fun z21 u_20 H locs hw hP hD hS => ?_)
    obtain ⟨rfl, r22⟩ := hw
    have hP : va_P G.1 vwCl (W7 G a s) H := hP
    have hD : va_D A (W7 G a s) := hD
    refine zr_if_gt (tgt := 32) (x := rowsAt (s.2 0) (1 : Int)) hx hb r22 dX7_runsToCome_19 (by decide) (fun c23 => ?_) (fun c23 => ?_)
    · have h26 := h19.1 c23
      refine lv_iconst (v := iI 1) hx hb dX7_runsToCome_32 rfl ?_
      refine lv_goto (tgt := 37) hx hb dX7_runsToCome_33 (by decide) ?_
      refine zr_iadd (x := manyZ (s.2 0) 0) (y := 1) hx hb dX7_runsToCome_37 ?_
      obtain ⟨r27, h28⟩ := h26
      exact zr_iret (z := (manyZ (s.2 0) 0) + 1) hx hb hr hlocks hK () hP hD hS dX7_runsToCome_38 ⟨r27, h28⟩
    · have h29 := h19.2 c23
      refine lv_aload_n hx hb dX7_runsToCome_22 rfl (lv_at hl 0 rfl) ?_
      refine va_get (v := .ref (a 1)) (ci := 7) (C := RX7) (T := TX7) (N := 12) hx hb hts imX7_runsToCome_X7 hown hK hP 0 rfl rfl 0 (by decide) k1 (fun _ h9 => h9) rfl dX7_runsToCome_23 ?_
      refine lv_iconst (v := iI 5) hx hb dX7_runsToCome_26 rfl ?_
      refine zr_iald (n := 370) (f := (s.2 0)) (i := 5) hx hb hK hP 1 rfl rg_5 ⟨by decide, by decide⟩ dX7_runsToCome_27 ?_
      refine lv_iconst (v := iI 1) hx hb dX7_runsToCome_28 rfl ?_
      refine zr_icmp_ne (tgt := 36) (x := (s.2 0) 5) (y := 1) hx hb ((r_s.2 0) 5) rg_1 dX7_runsToCome_29 (by decide) (fun c30 => ?_) (fun c30 => ?_)
      · have h33 := h29.2 c30
        refine lv_iconst (v := iI 0) hx hb dX7_runsToCome_36 rfl ?_
        refine zr_iadd (x := manyZ (s.2 0) 0) (y := 0) hx hb dX7_runsToCome_37 ?_
        obtain ⟨r34, h35⟩ := h33
        exact zr_iret (z := (manyZ (s.2 0) 0) + 0) hx hb hr hlocks hK () hP hD hS dX7_runsToCome_38 ⟨r34, h35⟩
      · have h36 := h29.1 c30
        refine lv_iconst (v := iI 1) hx hb dX7_runsToCome_32 rfl ?_
        refine lv_goto (tgt := 37) hx hb dX7_runsToCome_33 (by decide) ?_
        refine zr_iadd (x := manyZ (s.2 0) 0) (y := 1) hx hb dX7_runsToCome_37 ?_
        obtain ⟨r37, h38⟩ := h36
        exact zr_iret (z := (manyZ (s.2 0) 0) + 1) hx hb hr hlocks hK () hP hD hS dX7_runsToCome_38 ⟨r37, h38⟩
theorem c_X7_runsToCome (l : Launch) (G : ZG) (a : Nat → Nat) (s : SS)   (r_s : RG s)  (p0 : Vb (s.2 0)) : ZI l G yX7_runsToCome wsX7_runsToCome 4 89 [.ref (a 0)] (W7 G a s) (fun _ : Unit => W7 G a s) (fun (z : Int) (_ : Unit) => z = (manyZ (s.2 0) 0 + pz ((s.2 0) 2 = 1 ∧ 0 < rowsAt (s.2 0) 1 ∨ (s.2 0) 5 = 1)) ∧ rg z) := by
  refine ZI.fn (w1 := fun u : Unit => W7 G a s) (fun z u hq => ?_) (c0_X7_runsToCome l G a s (fun z => z = (manyZ (s.2 0) 0 + pz ((s.2 0) 2 = 1 ∧ 0 < rowsAt (s.2 0) 1 ∨ (s.2 0) 5 = 1))) r_s  (sp_X7_runsToCome s r_s  p0))
  obtain ⟨rz, ez⟩ := hq
  exact ⟨rfl, ⟨ez, rz⟩⟩
theorem imX7_canRun_X7 : ∀ w ∈ wsX70, w ∈ wsX7_canRun := fun _ h => (List.mem_cons_of_mem _ (List.mem_append_right _ h))
theorem hdX7_canRun : yX7_canRun.cls = RX7 ∧ yX7_canRun.cls ≠ "java/lang/invoke/MethodHandle" ∧ yX7_canRun.cls ≠ "java/lang/invoke/VarHandle" ∧ (parseMethodDescriptor yX7_canRun.desc).map (fun d => d.parameters.length) = some 0 := by decide +kernel
set_option maxRecDepth 100000 in
set_option maxHeartbeats 4000000 in
theorem c0_X7_canRun (l : Launch) (G : ZG) (a : Nat → Nat) (s : SS)  (P : Int → Prop) (r_s : RG s)  (hwp : wp_X7_canRun s P) : ZI l G yX7_canRun wsX7_canRun 5 109 [.ref (a 0)] (W7 G a s) (fun u : Unit => W7 G a s) (fun (z : Int) (u : Unit) => rg z ∧ P z) := by
  unfold wp_X7_canRun at hwp
  refine zm_i (cc := cX7_canRun) (maxL := 1) (ret := some .boolean) (own := RX7) (lvs := [(0, .ref (a 0))]) (by decide) rfl rfl (Nat.le_of_ble_eq_true rfl) rfl ?_
  intro p e sT m args below meth c ls A hx hb hr hml hown hts hlocks hK hP hD hS hA hl
  have k1 := hts (.fieldLink RX7 7 "GrantedSortModel" "z" "[I") (List.mem_of_getElem? (i := 1) rfl)
  refine lv_aload_n hx hb dX7_canRun_0 rfl (lv_at hl 0 rfl) ?_
  obtain ⟨b1, h2⟩ := hwp
  refine zc_vi (As := []) (rest := []) (w2 := fun u_3 => W7 G a s) (c_X7_runsToCome l G a s r_s b1) ⟨hx, hb, hml, hown, hts⟩ (cwV 0 hts gX7_canRun_X7_runsToCome rfl rfl rfl hdX7_runsToCome ⟨Nat.le_of_ble_eq_true rfl, Nat.le_of_ble_eq_true rfl⟩) hK hP hD hS hA (q0 := 0) rfl rfl [0, 1, 2, 3, 4, 5, 6] [] [0, 1, 2, 3, 4, 5, 6] rfl rfl rfl rfl (by decide) (fun _ => rfl) rfl rfl hl.1 rfl (Nat.le_of_ble_eq_true rfl) dX7_canRun_1 ⟨Nat.zero_le _, Nat.zero_le _⟩ (fun z4 u_3 H locs hw hP hD hS => ?_)
  obtain ⟨rfl, r5⟩ := hw
  have hP : va_P G.1 vwCl (W7 G a s) H := hP
  have hD : va_D A (W7 G a s) := hD
  refine lv_iconst (v := iI 2) hx hb dX7_canRun_4 rfl ?_
  refine zr_icmp_lt (tgt := 21) (x := manyZ (s.2 0) 0 + pz ((s.2 0) 2 = 1 ∧ 0 < rowsAt (s.2 0) 1 ∨ (s.2 0) 5 = 1)) (y := 2) hx hb r5 rg_2 dX7_canRun_5 (by decide) (fun c6 => ?_) (fun c6 => ?_)
  · have h9 := h2.1 c6
    refine lv_iconst (v := iI 1) hx hb dX7_canRun_21 rfl ?_
    refine lv_goto (tgt := 26) hx hb dX7_canRun_22 (by decide) ?_
    exact zr_zret (z := 1) hx hb hr hlocks hK (Or.inr rfl) () hP hD hS dX7_canRun_26 ⟨rg_1, h9⟩
  · have h10 := h2.2 c6
    refine lv_aload_n hx hb dX7_canRun_8 rfl (lv_at hl 0 rfl) ?_
    refine va_get (v := .ref (a 1)) (ci := 7) (C := RX7) (T := TX7) (N := 12) hx hb hts imX7_canRun_X7 hown hK hP 0 rfl rfl 0 (by decide) k1 (fun _ h9 => h9) rfl dX7_canRun_9 ?_
    refine lv_iconst (v := iI 0) hx hb dX7_canRun_12 rfl ?_
    refine zr_iald (n := 370) (f := (s.2 0)) (i := 0) hx hb hK hP 1 rfl rg_0 ⟨by decide, by decide⟩ dX7_canRun_13 ?_
    obtain ⟨b11, h12⟩ := h10
    refine zc_si (As := [.int (iI ((s.2 0) 0))]) (rest := []) (c_X7_waysOf l G ((s.2 0) 0) ((r_s.2 0) 0) b11) ⟨hx, hb, hml, hown, hts⟩ (va_cwS 1 hts gX7_canRun_X7_waysOf rfl rfl rfl hdX7_waysOf ⟨Nat.le_of_ble_eq_true rfl, Nat.le_of_ble_eq_true rfl⟩) hK hP hD hS hA rfl hl.1 rfl (Nat.le_of_ble_eq_true rfl) dX7_canRun_14 ⟨Nat.zero_le _, Nat.zero_le _⟩ (fun z14 H locs hw hP hD hS => ?_)
    obtain ⟨rfl, r15⟩ := hw
    have hP : va_P G.1 vwCl (W7 G a s) H := hP
    have hD : va_D A (W7 G a s) := hD
    refine lv_iconst (v := iI 1) hx hb dX7_canRun_17 rfl ?_
    refine zr_icmp_le (tgt := 25) (x := waysZ ((s.2 0) 0)) (y := 1) hx hb r15 rg_1 dX7_canRun_18 (by decide) (fun c16 => ?_) (fun c16 => ?_)
    · have h19 := h12.2 c16
      refine lv_iconst (v := iI 0) hx hb dX7_canRun_25 rfl ?_
      exact zr_zret (z := 0) hx hb hr hlocks hK (Or.inl rfl) () hP hD hS dX7_canRun_26 ⟨rg_0, h19⟩
    · have h20 := h12.1 c16
      refine lv_iconst (v := iI 1) hx hb dX7_canRun_21 rfl ?_
      refine lv_goto (tgt := 26) hx hb dX7_canRun_22 (by decide) ?_
      exact zr_zret (z := 1) hx hb hr hlocks hK (Or.inr rfl) () hP hD hS dX7_canRun_26 ⟨rg_1, h20⟩
theorem c_X7_canRun (l : Launch) (G : ZG) (a : Nat → Nat) (s : SS)   (r_s : RG s)  (p0 : Vb (s.2 0)) (p1 : 2 ≤ (s.2 0) 0 ∧ (s.2 0) 0 ≤ 20) : ZI l G yX7_canRun wsX7_canRun 5 109 [.ref (a 0)] (W7 G a s) (fun _ : Unit => W7 G a s) (fun (z : Int) (_ : Unit) => z = (pz (manyZ (s.2 0) 0 + pz ((s.2 0) 2 = 1 ∧ 0 < rowsAt (s.2 0) 1 ∨ (s.2 0) 5 = 1) < 2 ∨ 1 < waysZ ((s.2 0) 0))) ∧ rg z) := by
  refine ZI.fn (w1 := fun u : Unit => W7 G a s) (fun z u hq => ?_) (c0_X7_canRun l G a s (fun z => z = (pz (manyZ (s.2 0) 0 + pz ((s.2 0) 2 = 1 ∧ 0 < rowsAt (s.2 0) 1 ∨ (s.2 0) 5 = 1) < 2 ∨ 1 < waysZ ((s.2 0) 0)))) r_s  (sp_X7_canRun s r_s  p0 p1))
  obtain ⟨rz, ez⟩ := hq
  exact ⟨rfl, ⟨ez, rz⟩⟩
theorem imX7_below_X7 : ∀ w ∈ wsX70, w ∈ wsX7_below := fun _ h => (List.mem_cons_of_mem _ (List.mem_append_right _ h))
theorem hdX7_below : yX7_below.cls = RX7 ∧ yX7_below.cls ≠ "java/lang/invoke/MethodHandle" ∧ yX7_below.cls ≠ "java/lang/invoke/VarHandle" ∧ (parseMethodDescriptor yX7_below.desc).map (fun d => d.parameters.length) = some 1 := by decide +kernel
set_option maxRecDepth 100000 in
set_option maxHeartbeats 4000000 in
theorem c0_X7_below (l : Launch) (G : ZG) (a : Nat → Nat) (s : SS) (key : Int) (P : Int → Prop) (r_s : RG s) (r_key : rg key) (hwp : wp_X7_below s key P) : ZI l G yX7_below wsX7_below 0 0 [.ref (a 0), .int (iI key)] (W7 G a s) (fun u : Unit => W7 G a s) (fun (z : Int) (u : Unit) => rg z ∧ P z) := by
  unfold wp_X7_below at hwp
  refine zm_i (cc := cX7_below) (maxL := 4) (ret := some .int) (own := RX7) (lvs := [(0, .ref (a 0)), (1, .int (iI key))]) (by decide) rfl rfl (Nat.le_of_ble_eq_true rfl) rfl ?_
  intro p e sT m args below meth c ls A hx hb hr hml hown hts hlocks hK hP hD hS hA hl
  have k1 := hts (.fieldLink RX7 7 "GrantedSortModel" "z" "[I") (List.mem_of_getElem? (i := 1) rfl)
  refine lv_iconst (v := iI 0) hx hb dX7_below_0 rfl ?_
  refine lv_istore_n (lv' := [(2, .int (iI 0)), (0, .ref (a 0)), (1, .int (iI key))]) hx hb dX7_below_1 rfl hl (by decide) rfl (fun ls hl => ?_)
  refine lv_iconst (v := iI 0) hx hb dX7_below_2 rfl ?_
  refine lv_istore_n (lv' := [(3, .int (iI 0)), (2, .int (iI 0)), (0, .ref (a 0)), (1, .int (iI key))]) hx hb dX7_below_3 rfl hl (by decide) rfl (fun ls hl => ?_)
  obtain ⟨I2, μ3, h4, h5⟩ := hwp
  refine zr_loop (G := G) (σ := Int × Int) (fun x_1 => (rg x_1.1 ∧ rg x_1.2) ∧ I2 x_1.1 x_1.2) (fun x_1 => μ3 x_1.1 x_1.2) (fun x_1 => W7 G a s) (fun x_1 => [(3, .int (iI x_1.2)), (2, .int (iI x_1.1)), (0, .ref (a 0)), (1, .int (iI key))]) ((0, 0)) ⟨⟨rg_0, rg_0⟩, h4⟩ hP hD hS (lv_sub hl [0, 1, 2, 3] rfl) ?_
  clear hP hD hS hl
  intro x_1 H locs ls ih6 h7 hP hD hS hl
  obtain ⟨x2_1, x3_1⟩ := x_1
  obtain ⟨⟨rx2_1, rx3_1⟩, h7⟩ := h7
  have h8 := h5 x2_1 x3_1 rx2_1 rx3_1 h7
  have hP : va_P G.1 vwCl (W7 G a s) H := hP
  have hD : va_D A (W7 G a s) := hD
  have hl : lv_has ls 4 [(3, .int (iI x3_1)), (2, .int (iI x2_1)), (0, .ref (a 0)), (1, .int (iI key))] := hl
  refine lv_iload_n hx hb dX7_below_4 rfl (lv_at hl 0 rfl) ?_
  refine lv_aload_n hx hb dX7_below_5 rfl (lv_at hl 2 rfl) ?_
  refine va_get (v := .ref (a 1)) (ci := 7) (C := RX7) (T := TX7) (N := 12) hx hb hts imX7_below_X7 hown hK hP 0 rfl rfl 0 (by decide) k1 (fun _ h9 => h9) rfl dX7_below_6 ?_
  refine lv_iconst (v := iI 3) hx hb dX7_below_9 rfl ?_
  refine zr_iald (n := 370) (f := (s.2 0)) (i := 3) hx hb hK hP 1 rfl rg_3 ⟨by decide, by decide⟩ dX7_below_10 ?_
  refine zr_icmp_ge (tgt := 50) (x := x3_1) (y := (s.2 0) 3) hx hb rx3_1 ((r_s.2 0) 3) dX7_below_11 (by decide) (fun c9 => ?_) (fun c9 => ?_)
  · have h12 := h8.2 c9
    refine lv_iload_n hx hb dX7_below_50 rfl (lv_at hl 1 rfl) ?_
    exact zr_iret (z := x2_1) hx hb hr hlocks hK () hP hD hS dX7_below_51 ⟨rx2_1, h12⟩
  · have h13 := h8.1 c9
    refine lv_iload_n hx hb dX7_below_14 rfl (lv_at hl 1 rfl) ?_
    refine lv_aload_n hx hb dX7_below_15 rfl (lv_at hl 2 rfl) ?_
    refine va_get (v := .ref (a 1)) (ci := 7) (C := RX7) (T := TX7) (N := 12) hx hb hts imX7_below_X7 hown hK hP 0 rfl rfl 0 (by decide) k1 (fun _ h9 => h9) rfl dX7_below_16 ?_
    refine lv_bipush (v := iI 10) hx hb dX7_below_19 (by decide) ?_
    refine lv_iload_n hx hb dX7_below_21 rfl (lv_at hl 0 rfl) ?_
    refine zr_iadd (x := 10) (y := x3_1) hx hb dX7_below_22 ?_
    obtain ⟨r14, h15⟩ := h13
    obtain ⟨b16, h17⟩ := h15
    refine zr_iald (n := 370) (f := (s.2 0)) (i := 10 + x3_1) hx hb hK hP 1 rfl r14 b16 dX7_below_23 ?_
    refine lv_iload_n hx hb dX7_below_24 rfl (lv_at hl 3 rfl) ?_
    refine zr_icmp_ge (tgt := 41) (x := (s.2 0) (10 + x3_1)) (y := key) hx hb ((r_s.2 0) (10 + x3_1)) r_key dX7_below_25 (by decide) (fun c18 => ?_) (fun c18 => ?_)
    · have h21 := h17.2 c18
      refine lv_iconst (v := iI 0) hx hb dX7_below_41 rfl ?_
      refine zr_iadd (x := x2_1) (y := 0) hx hb dX7_below_42 ?_
      obtain ⟨r22, h23⟩ := h21
      refine lv_istore_n (lv' := [(2, .int (iI (x2_1 + 0))), (3, .int (iI x3_1)), (0, .ref (a 0)), (1, .int (iI key))]) hx hb dX7_below_43 rfl hl (by decide) rfl (fun ls hl => ?_)
      obtain ⟨r24, h25⟩ := h23
      refine zr_iinc (x := x3_1) (lv' := [(3, .int (iI (x3_1 + 1))), (2, .int (iI (x2_1 + 0))), (0, .ref (a 0)), (1, .int (iI key))]) hx hb dX7_below_44 hl (k := 1) rfl (by decide) rfl (fun ls hl => ?_)
      refine lv_goto (tgt := 4) hx hb dX7_below_47 (by decide) ?_
      obtain ⟨h26, h27⟩ := h25
      exact ih6 ((x2_1 + 0, x3_1 + 1)) H locs ls ⟨⟨r22, r24⟩, h26⟩ h27 hP hD hS (lv_sub hl [0, 1, 2, 3] rfl)
    · have h28 := h17.1 c18
      refine lv_aload_n hx hb dX7_below_28 rfl (lv_at hl 2 rfl) ?_
      refine va_get (v := .ref (a 1)) (ci := 7) (C := RX7) (T := TX7) (N := 12) hx hb hts imX7_below_X7 hown hK hP 0 rfl rfl 0 (by decide) k1 (fun _ h9 => h9) rfl dX7_below_29 ?_
      refine lv_sipush (v := iI 130) hx hb dX7_below_32 (by decide) ?_
      refine lv_iload_n hx hb dX7_below_35 rfl (lv_at hl 0 rfl) ?_
      refine zr_iadd (x := 130) (y := x3_1) hx hb dX7_below_36 ?_
      obtain ⟨r29, h30⟩ := h28
      obtain ⟨b31, h32⟩ := h30
      refine zr_iald (n := 370) (f := (s.2 0)) (i := 130 + x3_1) hx hb hK hP 1 rfl r29 b31 dX7_below_37 ?_
      refine lv_goto (tgt := 42) hx hb dX7_below_38 (by decide) ?_
      refine zr_iadd (x := x2_1) (y := (s.2 0) (130 + x3_1)) hx hb dX7_below_42 ?_
      obtain ⟨r33, h34⟩ := h32
      refine lv_istore_n (lv' := [(2, .int (iI (x2_1 + ((s.2 0) (130 + x3_1))))), (3, .int (iI x3_1)), (0, .ref (a 0)), (1, .int (iI key))]) hx hb dX7_below_43 rfl hl (by decide) rfl (fun ls hl => ?_)
      obtain ⟨r35, h36⟩ := h34
      refine zr_iinc (x := x3_1) (lv' := [(3, .int (iI (x3_1 + 1))), (2, .int (iI (x2_1 + ((s.2 0) (130 + x3_1))))), (0, .ref (a 0)), (1, .int (iI key))]) hx hb dX7_below_44 hl (k := 1) rfl (by decide) rfl (fun ls hl => ?_)
      refine lv_goto (tgt := 4) hx hb dX7_below_47 (by decide) ?_
      obtain ⟨h37, h38⟩ := h36
      exact ih6 ((x2_1 + ((s.2 0) (130 + x3_1)), x3_1 + 1)) H locs ls ⟨⟨r33, r35⟩, h37⟩ h38 hP hD hS (lv_sub hl [0, 1, 2, 3] rfl)
theorem c_X7_below (l : Launch) (G : ZG) (a : Nat → Nat) (s : SS) (key : Int)  (r_s : RG s) (r_key : rg key) (p0 : Vb (s.2 0)) (p1 : ∀ r, 0 ≤ r → r < (s.2 0) 3 → 0 ≤ (s.2 0) (130 + r) ∧ (s.2 0) (130 + r) ≤ 120) : ZI l G yX7_below wsX7_below 0 0 [.ref (a 0), .int (iI key)] (W7 G a s) (fun _ : Unit => W7 G a s) (fun (z : Int) (_ : Unit) => z = (sumI (fun r => if (s.2 0) (10 + r) < key then (s.2 0) (130 + r) else 0) ((s.2 0) 3).toNat) ∧ rg z) := by
  refine ZI.fn (w1 := fun u : Unit => W7 G a s) (fun z u hq => ?_) (c0_X7_below l G a s key (fun z => z = (sumI (fun r => if (s.2 0) (10 + r) < key then (s.2 0) (130 + r) else 0) ((s.2 0) 3).toNat)) r_s r_key (sp_X7_below s key r_s r_key p0 p1))
  obtain ⟨rz, ez⟩ := hq
  exact ⟨rfl, ⟨ez, rz⟩⟩
theorem imX7_rowsThere_X7 : ∀ w ∈ wsX70, w ∈ wsX7_rowsThere := fun _ h => (List.mem_cons_of_mem _ (List.mem_append_right _ h))
theorem hdX7_rowsThere : yX7_rowsThere.cls = RX7 ∧ yX7_rowsThere.cls ≠ "java/lang/invoke/MethodHandle" ∧ yX7_rowsThere.cls ≠ "java/lang/invoke/VarHandle" ∧ (parseMethodDescriptor yX7_rowsThere.desc).map (fun d => d.parameters.length) = some 0 := by decide +kernel
set_option maxRecDepth 100000 in
set_option maxHeartbeats 4000000 in
theorem c0_X7_rowsThere (l : Launch) (G : ZG) (a : Nat → Nat) (s : SS)  (P : Int → Prop) (r_s : RG s)  (hwp : wp_X7_rowsThere s P) : ZI l G yX7_rowsThere wsX7_rowsThere 1 21 [.ref (a 0)] (W7 G a s) (fun u : Unit => W7 G a s) (fun (z : Int) (u : Unit) => rg z ∧ P z) := by
  unfold wp_X7_rowsThere at hwp
  refine zm_i (cc := cX7_rowsThere) (maxL := 3) (ret := some .int) (own := RX7) (lvs := [(0, .ref (a 0))]) (by decide) rfl rfl (Nat.le_of_ble_eq_true rfl) rfl ?_
  intro p e sT m args below meth c ls A hx hb hr hml hown hts hlocks hK hP hD hS hA hl
  have k1 := hts (.fieldLink RX7 7 "GrantedSortModel" "z" "[I") (List.mem_of_getElem? (i := 1) rfl)
  refine lv_iconst (v := iI 0) hx hb dX7_rowsThere_0 rfl ?_
  refine lv_istore_n (lv' := [(1, .int (iI 0)), (0, .ref (a 0))]) hx hb dX7_rowsThere_1 rfl hl (by decide) rfl (fun ls hl => ?_)
  refine lv_iconst (v := iI 0) hx hb dX7_rowsThere_2 rfl ?_
  refine lv_istore_n (lv' := [(2, .int (iI 0)), (1, .int (iI 0)), (0, .ref (a 0))]) hx hb dX7_rowsThere_3 rfl hl (by decide) rfl (fun ls hl => ?_)
  obtain ⟨I2, μ3, h4, h5⟩ := hwp
  refine zr_loop (G := G) (σ := Int × Int) (fun x_1 => (rg x_1.1 ∧ rg x_1.2) ∧ I2 x_1.1 x_1.2) (fun x_1 => μ3 x_1.1 x_1.2) (fun x_1 => W7 G a s) (fun x_1 => [(2, .int (iI x_1.2)), (1, .int (iI x_1.1)), (0, .ref (a 0))]) ((0, 0)) ⟨⟨rg_0, rg_0⟩, h4⟩ hP hD hS (lv_sub hl [0, 1, 2] rfl) ?_
  clear hP hD hS hl
  intro x_1 H locs ls ih6 h7 hP hD hS hl
  obtain ⟨x1_1, x2_1⟩ := x_1
  obtain ⟨⟨rx1_1, rx2_1⟩, h7⟩ := h7
  have h8 := h5 x1_1 x2_1 rx1_1 rx2_1 h7
  have hP : va_P G.1 vwCl (W7 G a s) H := hP
  have hD : va_D A (W7 G a s) := hD
  have hl : lv_has ls 3 [(2, .int (iI x2_1)), (1, .int (iI x1_1)), (0, .ref (a 0))] := hl
  refine lv_iload_n hx hb dX7_rowsThere_4 rfl (lv_at hl 0 rfl) ?_
  refine lv_aload_n hx hb dX7_rowsThere_5 rfl (lv_at hl 2 rfl) ?_
  refine va_get (v := .ref (a 1)) (ci := 7) (C := RX7) (T := TX7) (N := 12) hx hb hts imX7_rowsThere_X7 hown hK hP 0 rfl rfl 0 (by decide) k1 (fun _ h9 => h9) rfl dX7_rowsThere_6 ?_
  refine lv_iconst (v := iI 3) hx hb dX7_rowsThere_9 rfl ?_
  refine zr_iald (n := 370) (f := (s.2 0)) (i := 3) hx hb hK hP 1 rfl rg_3 ⟨by decide, by decide⟩ dX7_rowsThere_10 ?_
  refine zr_icmp_ge (tgt := 36) (x := x2_1) (y := (s.2 0) 3) hx hb rx2_1 ((r_s.2 0) 3) dX7_rowsThere_11 (by decide) (fun c9 => ?_) (fun c9 => ?_)
  · have h12 := h8.2 c9
    refine lv_iload_n hx hb dX7_rowsThere_36 rfl (lv_at hl 1 rfl) ?_
    exact zr_iret (z := x1_1) hx hb hr hlocks hK () hP hD hS dX7_rowsThere_37 ⟨rx1_1, h12⟩
  · have h13 := h8.1 c9
    refine lv_iload_n hx hb dX7_rowsThere_14 rfl (lv_at hl 1 rfl) ?_
    refine lv_aload_n hx hb dX7_rowsThere_15 rfl (lv_at hl 2 rfl) ?_
    refine lv_iload_n hx hb dX7_rowsThere_16 rfl (lv_at hl 0 rfl) ?_
    obtain ⟨b14, h15⟩ := h13
    refine zc_vi (As := [.int (iI x2_1)]) (rest := [.int (iI x1_1)]) (w2 := fun u_16 => W7 G a s) (c_X7_place l G a s x2_1 r_s rx2_1 b14) ⟨hx, hb, hml, hown, hts⟩ (cwV 1 hts gX7_rowsThere_X7_place rfl rfl rfl hdX7_place ⟨Nat.le_of_ble_eq_true rfl, Nat.le_of_ble_eq_true rfl⟩) hK hP hD hS hA (q0 := 0) rfl rfl [0, 1, 2, 3, 4, 5, 6] [] [0, 1, 2, 3, 4, 5, 6] rfl rfl rfl rfl (by decide) (fun _ => rfl) rfl rfl hl.1 rfl (Nat.le_of_ble_eq_true rfl) dX7_rowsThere_17 ⟨Nat.zero_le _, Nat.zero_le _⟩ (fun z17 u_16 H locs hw hP hD hS => ?_)
    obtain ⟨rfl, r18⟩ := hw
    have hP : va_P G.1 vwCl (W7 G a s) H := hP
    have hD : va_D A (W7 G a s) := hD
    refine zr_if_le (tgt := 27) (x := (s.2 0) (250 + x2_1)) hx hb r18 dX7_rowsThere_20 (by decide) (fun c19 => ?_) (fun c19 => ?_)
    · have h22 := h15.2 c19
      refine lv_iconst (v := iI 0) hx hb dX7_rowsThere_27 rfl ?_
      refine zr_iadd (x := x1_1) (y := 0) hx hb dX7_rowsThere_28 ?_
      obtain ⟨r23, h24⟩ := h22
      refine lv_istore_n (lv' := [(1, .int (iI (x1_1 + 0))), (2, .int (iI x2_1)), (0, .ref (a 0))]) hx hb dX7_rowsThere_29 rfl hl (by decide) rfl (fun ls hl => ?_)
      obtain ⟨r25, h26⟩ := h24
      refine zr_iinc (x := x2_1) (lv' := [(2, .int (iI (x2_1 + 1))), (1, .int (iI (x1_1 + 0))), (0, .ref (a 0))]) hx hb dX7_rowsThere_30 hl (k := 1) rfl (by decide) rfl (fun ls hl => ?_)
      refine lv_goto (tgt := 4) hx hb dX7_rowsThere_33 (by decide) ?_
      obtain ⟨h27, h28⟩ := h26
      exact ih6 ((x1_1 + 0, x2_1 + 1)) H locs ls ⟨⟨r23, r25⟩, h27⟩ h28 hP hD hS (lv_sub hl [0, 1, 2] rfl)
    · have h29 := h15.1 c19
      refine lv_iconst (v := iI 1) hx hb dX7_rowsThere_23 rfl ?_
      refine lv_goto (tgt := 28) hx hb dX7_rowsThere_24 (by decide) ?_
      refine zr_iadd (x := x1_1) (y := 1) hx hb dX7_rowsThere_28 ?_
      obtain ⟨r30, h31⟩ := h29
      refine lv_istore_n (lv' := [(1, .int (iI (x1_1 + 1))), (2, .int (iI x2_1)), (0, .ref (a 0))]) hx hb dX7_rowsThere_29 rfl hl (by decide) rfl (fun ls hl => ?_)
      obtain ⟨r32, h33⟩ := h31
      refine zr_iinc (x := x2_1) (lv' := [(2, .int (iI (x2_1 + 1))), (1, .int (iI (x1_1 + 1))), (0, .ref (a 0))]) hx hb dX7_rowsThere_30 hl (k := 1) rfl (by decide) rfl (fun ls hl => ?_)
      refine lv_goto (tgt := 4) hx hb dX7_rowsThere_33 (by decide) ?_
      obtain ⟨h34, h35⟩ := h33
      exact ih6 ((x1_1 + 1, x2_1 + 1)) H locs ls ⟨⟨r30, r32⟩, h34⟩ h35 hP hD hS (lv_sub hl [0, 1, 2] rfl)
theorem c_X7_rowsThere (l : Launch) (G : ZG) (a : Nat → Nat) (s : SS)   (r_s : RG s)  (p0 : Vb (s.2 0)) : ZI l G yX7_rowsThere wsX7_rowsThere 1 21 [.ref (a 0)] (W7 G a s) (fun _ : Unit => W7 G a s) (fun (z : Int) (_ : Unit) => z = (sumI (fun r => pz (0 < (s.2 0) (250 + r))) ((s.2 0) 3).toNat) ∧ rg z) := by
  refine ZI.fn (w1 := fun u : Unit => W7 G a s) (fun z u hq => ?_) (c0_X7_rowsThere l G a s (fun z => z = (sumI (fun r => pz (0 < (s.2 0) (250 + r))) ((s.2 0) 3).toNat)) r_s  (sp_X7_rowsThere s r_s  p0))
  obtain ⟨rz, ez⟩ := hq
  exact ⟨rfl, ⟨ez, rz⟩⟩
theorem imX7_before_X7 : ∀ w ∈ wsX70, w ∈ wsX7_before := fun _ h => (List.mem_cons_of_mem _ (List.mem_append_right _ h))
theorem hdX7_before : yX7_before.cls = RX7 ∧ yX7_before.cls ≠ "java/lang/invoke/MethodHandle" ∧ yX7_before.cls ≠ "java/lang/invoke/VarHandle" ∧ (parseMethodDescriptor yX7_before.desc).map (fun d => d.parameters.length) = some 1 := by decide +kernel
set_option maxRecDepth 100000 in
set_option maxHeartbeats 4000000 in
theorem c0_X7_before (l : Launch) (G : ZG) (a : Nat → Nat) (s : SS) (row : Int) (P : Int → Prop) (r_s : RG s) (r_row : rg row) (hwp : wp_X7_before s row P) : ZI l G yX7_before wsX7_before 1 21 [.ref (a 0), .int (iI row)] (W7 G a s) (fun u : Unit => W7 G a s) (fun (z : Int) (u : Unit) => rg z ∧ P z) := by
  unfold wp_X7_before at hwp
  refine zm_i (cc := cX7_before) (maxL := 5) (ret := some .int) (own := RX7) (lvs := [(0, .ref (a 0)), (1, .int (iI row))]) (by decide) rfl rfl (Nat.le_of_ble_eq_true rfl) rfl ?_
  intro p e sT m args below meth c ls A hx hb hr hml hown hts hlocks hK hP hD hS hA hl
  have k1 := hts (.fieldLink RX7 7 "GrantedSortModel" "z" "[I") (List.mem_of_getElem? (i := 1) rfl)
  refine lv_iconst (v := iI 0) hx hb dX7_before_0 rfl ?_
  refine lv_istore_n (lv' := [(2, .int (iI 0)), (0, .ref (a 0)), (1, .int (iI row))]) hx hb dX7_before_1 rfl hl (by decide) rfl (fun ls hl => ?_)
  refine lv_iconst (v := iI 0) hx hb dX7_before_2 rfl ?_
  refine lv_istore_n (lv' := [(3, .int (iI 0)), (2, .int (iI 0)), (0, .ref (a 0)), (1, .int (iI row))]) hx hb dX7_before_3 rfl hl (by decide) rfl (fun ls hl => ?_)
  obtain ⟨I2, μ3, h4, h5⟩ := hwp
  refine zr_loop (G := G) (σ := Int × Int) (fun x_1 => (rg x_1.1 ∧ rg x_1.2) ∧ I2 x_1.1 x_1.2) (fun x_1 => μ3 x_1.1 x_1.2) (fun x_1 => W7 G a s) (fun x_1 => [(3, .int (iI x_1.2)), (2, .int (iI x_1.1)), (0, .ref (a 0)), (1, .int (iI row))]) ((0, 0)) ⟨⟨rg_0, rg_0⟩, h4⟩ hP hD hS (lv_sub hl [0, 1, 2, 3] rfl) ?_
  clear hP hD hS hl
  intro x_1 H locs ls ih6 h7 hP hD hS hl
  obtain ⟨x2_1, x3_1⟩ := x_1
  obtain ⟨⟨rx2_1, rx3_1⟩, h7⟩ := h7
  have h8 := h5 x2_1 x3_1 rx2_1 rx3_1 h7
  have hP : va_P G.1 vwCl (W7 G a s) H := hP
  have hD : va_D A (W7 G a s) := hD
  have hl : lv_has ls 5 [(3, .int (iI x3_1)), (2, .int (iI x2_1)), (0, .ref (a 0)), (1, .int (iI row))] := hl
  refine lv_iload_n hx hb dX7_before_4 rfl (lv_at hl 0 rfl) ?_
  refine lv_aload_n hx hb dX7_before_5 rfl (lv_at hl 2 rfl) ?_
  refine va_get (v := .ref (a 1)) (ci := 7) (C := RX7) (T := TX7) (N := 12) hx hb hts imX7_before_X7 hown hK hP 0 rfl rfl 0 (by decide) k1 (fun _ h9 => h9) rfl dX7_before_6 ?_
  refine lv_iconst (v := iI 3) hx hb dX7_before_9 rfl ?_
  refine zr_iald (n := 370) (f := (s.2 0)) (i := 3) hx hb hK hP 1 rfl rg_3 ⟨by decide, by decide⟩ dX7_before_10 ?_
  refine zr_icmp_ge (tgt := 100) (x := x3_1) (y := (s.2 0) 3) hx hb rx3_1 ((r_s.2 0) 3) dX7_before_11 (by decide) (fun c9 => ?_) (fun c9 => ?_)
  · have h12 := h8.2 c9
    refine lv_iload_n hx hb dX7_before_100 rfl (lv_at hl 1 rfl) ?_
    exact zr_iret (z := x2_1) hx hb hr hlocks hK () hP hD hS dX7_before_101 ⟨rx2_1, h12⟩
  · have h13 := h8.1 c9
    refine lv_aload_n hx hb dX7_before_14 rfl (lv_at hl 2 rfl) ?_
    refine va_get (v := .ref (a 1)) (ci := 7) (C := RX7) (T := TX7) (N := 12) hx hb hts imX7_before_X7 hown hK hP 0 rfl rfl 0 (by decide) k1 (fun _ h9 => h9) rfl dX7_before_15 ?_
    refine lv_bipush (v := iI 10) hx hb dX7_before_18 (by decide) ?_
    refine lv_iload_n hx hb dX7_before_20 rfl (lv_at hl 0 rfl) ?_
    refine zr_iadd (x := 10) (y := x3_1) hx hb dX7_before_21 ?_
    obtain ⟨r14, h15⟩ := h13
    obtain ⟨b16, h17⟩ := h15
    refine zr_iald (n := 370) (f := (s.2 0)) (i := 10 + x3_1) hx hb hK hP 1 rfl r14 b16 dX7_before_22 ?_
    refine lv_aload_n hx hb dX7_before_23 rfl (lv_at hl 2 rfl) ?_
    refine va_get (v := .ref (a 1)) (ci := 7) (C := RX7) (T := TX7) (N := 12) hx hb hts imX7_before_X7 hown hK hP 0 rfl rfl 0 (by decide) k1 (fun _ h9 => h9) rfl dX7_before_24 ?_
    refine lv_bipush (v := iI 10) hx hb dX7_before_27 (by decide) ?_
    refine lv_iload_n hx hb dX7_before_29 rfl (lv_at hl 3 rfl) ?_
    refine zr_iadd (x := 10) (y := row) hx hb dX7_before_30 ?_
    obtain ⟨r18, h19⟩ := h17
    obtain ⟨b20, h21⟩ := h19
    refine zr_iald (n := 370) (f := (s.2 0)) (i := 10 + row) hx hb hK hP 1 rfl r18 b20 dX7_before_31 ?_
    refine zr_icmp_lt (tgt := 61) (x := (s.2 0) (10 + x3_1)) (y := (s.2 0) (10 + row)) hx hb ((r_s.2 0) (10 + x3_1)) ((r_s.2 0) (10 + row)) dX7_before_32 (by decide) (fun c22 => ?_) (fun c22 => ?_)
    · have h25 := h21.1 c22
      refine lv_iconst (v := iI 1) hx hb dX7_before_61 rfl ?_
      refine lv_goto (tgt := 66) hx hb dX7_before_62 (by decide) ?_
      refine lv_istore (lv' := [(4, .int (iI 1)), (3, .int (iI x3_1)), (2, .int (iI x2_1)), (0, .ref (a 0)), (1, .int (iI row))]) hx hb dX7_before_66 hl (by decide) rfl (fun ls hl => ?_)
      refine lv_iload_n hx hb dX7_before_68 rfl (lv_at hl 2 rfl) ?_
      refine lv_aload_n hx hb dX7_before_69 rfl (lv_at hl 3 rfl) ?_
      refine lv_iload_n hx hb dX7_before_70 rfl (lv_at hl 1 rfl) ?_
      obtain ⟨b26, h27⟩ := h25
      refine zc_vi (As := [.int (iI x3_1)]) (rest := [.int (iI x2_1)]) (w2 := fun u_28 => W7 G a s) (c_X7_place l G a s x3_1 r_s rx3_1 b26) ⟨hx, hb, hml, hown, hts⟩ (cwV 1 hts gX7_before_X7_place rfl rfl rfl hdX7_place ⟨Nat.le_of_ble_eq_true rfl, Nat.le_of_ble_eq_true rfl⟩) hK hP hD hS hA (q0 := 0) rfl rfl [0, 1, 2, 3, 4, 5, 6] [] [0, 1, 2, 3, 4, 5, 6] rfl rfl rfl rfl (by decide) (fun _ => rfl) rfl rfl hl.1 rfl (Nat.le_of_ble_eq_true rfl) dX7_before_71 ⟨Nat.zero_le _, Nat.zero_le _⟩ (fun z29 u_28 H locs hw hP hD hS => ?_)
      obtain ⟨rfl, r30⟩ := hw
      have hP : va_P G.1 vwCl (W7 G a s) H := hP
      have hD : va_D A (W7 G a s) := hD
      refine lv_aload_n hx hb dX7_before_74 rfl (lv_at hl 3 rfl) ?_
      refine lv_iload_n hx hb dX7_before_75 rfl (lv_at hl 4 rfl) ?_
      obtain ⟨b31, h32⟩ := h27
      refine zc_vi (As := [.int (iI row)]) (rest := [.int (iI ((s.2 0) (250 + x3_1))), .int (iI x2_1)]) (w2 := fun u_33 => W7 G a s) (c_X7_place l G a s row r_s r_row b31) ⟨hx, hb, hml, hown, hts⟩ (cwV 1 hts gX7_before_X7_place rfl rfl rfl hdX7_place ⟨Nat.le_of_ble_eq_true rfl, Nat.le_of_ble_eq_true rfl⟩) hK hP hD hS hA (q0 := 0) rfl rfl [0, 1, 2, 3, 4, 5, 6] [] [0, 1, 2, 3, 4, 5, 6] rfl rfl rfl rfl (by decide) (fun _ => rfl) rfl rfl hl.1 rfl (Nat.le_of_ble_eq_true rfl) dX7_before_76 ⟨Nat.zero_le _, Nat.zero_le _⟩ (fun z34 u_33 H locs hw hP hD hS => ?_)
      obtain ⟨rfl, r35⟩ := hw
      have hP : va_P G.1 vwCl (W7 G a s) H := hP
      have hD : va_D A (W7 G a s) := hD
      refine zr_icmp_ne (tgt := 91) (x := (s.2 0) (250 + x3_1)) (y := (s.2 0) (250 + row)) hx hb r30 r35 dX7_before_79 (by decide) (fun c36 => ?_) (fun c36 => ?_)
      · have h39 := h32.2 c36
        refine lv_iconst (v := iI 0) hx hb dX7_before_91 rfl ?_
        refine zr_iadd (x := x2_1) (y := 0) hx hb dX7_before_92 ?_
        obtain ⟨r40, h41⟩ := h39
        refine lv_istore_n (lv' := [(2, .int (iI (x2_1 + 0))), (4, .int (iI 1)), (3, .int (iI x3_1)), (0, .ref (a 0)), (1, .int (iI row))]) hx hb dX7_before_93 rfl hl (by decide) rfl (fun ls hl => ?_)
        obtain ⟨r42, h43⟩ := h41
        refine zr_iinc (x := x3_1) (lv' := [(3, .int (iI (x3_1 + 1))), (2, .int (iI (x2_1 + 0))), (4, .int (iI 1)), (0, .ref (a 0)), (1, .int (iI row))]) hx hb dX7_before_94 hl (k := 2) rfl (by decide) rfl (fun ls hl => ?_)
        refine lv_goto (tgt := 4) hx hb dX7_before_97 (by decide) ?_
        obtain ⟨h44, h45⟩ := h43
        exact ih6 ((x2_1 + 0, x3_1 + 1)) H locs ls ⟨⟨r40, r42⟩, h44⟩ h45 hP hD hS (lv_sub hl [0, 1, 3, 4] rfl)
      · have h46 := h32.1 c36
        refine lv_iload hx hb dX7_before_82 (lv_at hl 0 rfl) ?_
        refine zr_if_eq (tgt := 91) (x := 1) hx hb rg_1 dX7_before_84 (by decide) (fun c => absurd c (by decide)) (fun _ => ?_)
        refine lv_iconst (v := iI 1) hx hb dX7_before_87 rfl ?_
        refine lv_goto (tgt := 92) hx hb dX7_before_88 (by decide) ?_
        refine zr_iadd (x := x2_1) (y := 1) hx hb dX7_before_92 ?_
        obtain ⟨r47, h48⟩ := h46
        refine lv_istore_n (lv' := [(2, .int (iI (x2_1 + 1))), (4, .int (iI 1)), (3, .int (iI x3_1)), (0, .ref (a 0)), (1, .int (iI row))]) hx hb dX7_before_93 rfl hl (by decide) rfl (fun ls hl => ?_)
        obtain ⟨r49, h50⟩ := h48
        refine zr_iinc (x := x3_1) (lv' := [(3, .int (iI (x3_1 + 1))), (2, .int (iI (x2_1 + 1))), (4, .int (iI 1)), (0, .ref (a 0)), (1, .int (iI row))]) hx hb dX7_before_94 hl (k := 2) rfl (by decide) rfl (fun ls hl => ?_)
        refine lv_goto (tgt := 4) hx hb dX7_before_97 (by decide) ?_
        obtain ⟨h51, h52⟩ := h50
        exact ih6 ((x2_1 + 1, x3_1 + 1)) H locs ls ⟨⟨r47, r49⟩, h51⟩ h52 hP hD hS (lv_sub hl [0, 1, 3, 4] rfl)
    · have h53 := h21.2 c22
      refine lv_aload_n hx hb dX7_before_35 rfl (lv_at hl 2 rfl) ?_
      refine va_get (v := .ref (a 1)) (ci := 7) (C := RX7) (T := TX7) (N := 12) hx hb hts imX7_before_X7 hown hK hP 0 rfl rfl 0 (by decide) k1 (fun _ h9 => h9) rfl dX7_before_36 ?_
      refine lv_bipush (v := iI 10) hx hb dX7_before_39 (by decide) ?_
      refine lv_iload_n hx hb dX7_before_41 rfl (lv_at hl 0 rfl) ?_
      refine zr_iadd (x := 10) (y := x3_1) hx hb dX7_before_42 ?_
      refine zr_iald (n := 370) (f := (s.2 0)) (i := 10 + x3_1) hx hb hK hP 1 rfl r14 b16 dX7_before_43 ?_
      refine lv_aload_n hx hb dX7_before_44 rfl (lv_at hl 2 rfl) ?_
      refine va_get (v := .ref (a 1)) (ci := 7) (C := RX7) (T := TX7) (N := 12) hx hb hts imX7_before_X7 hown hK hP 0 rfl rfl 0 (by decide) k1 (fun _ h9 => h9) rfl dX7_before_45 ?_
      refine lv_bipush (v := iI 10) hx hb dX7_before_48 (by decide) ?_
      refine lv_iload_n hx hb dX7_before_50 rfl (lv_at hl 3 rfl) ?_
      refine zr_iadd (x := 10) (y := row) hx hb dX7_before_51 ?_
      refine zr_iald (n := 370) (f := (s.2 0)) (i := 10 + row) hx hb hK hP 1 rfl r18 b20 dX7_before_52 ?_
      refine zr_icmp_ne (tgt := 65) (x := (s.2 0) (10 + x3_1)) (y := (s.2 0) (10 + row)) hx hb ((r_s.2 0) (10 + x3_1)) ((r_s.2 0) (10 + row)) dX7_before_53 (by decide) (fun c54 => ?_) (fun c54 => ?_)
      · have h57 := h53.2 c54
        refine lv_iconst (v := iI 0) hx hb dX7_before_65 rfl ?_
        refine lv_istore (lv' := [(4, .int (iI 0)), (3, .int (iI x3_1)), (2, .int (iI x2_1)), (0, .ref (a 0)), (1, .int (iI row))]) hx hb dX7_before_66 hl (by decide) rfl (fun ls hl => ?_)
        refine lv_iload_n hx hb dX7_before_68 rfl (lv_at hl 2 rfl) ?_
        refine lv_aload_n hx hb dX7_before_69 rfl (lv_at hl 3 rfl) ?_
        refine lv_iload_n hx hb dX7_before_70 rfl (lv_at hl 1 rfl) ?_
        obtain ⟨b58, h59⟩ := h57
        refine zc_vi (As := [.int (iI x3_1)]) (rest := [.int (iI x2_1)]) (w2 := fun u_60 => W7 G a s) (c_X7_place l G a s x3_1 r_s rx3_1 b58) ⟨hx, hb, hml, hown, hts⟩ (cwV 1 hts gX7_before_X7_place rfl rfl rfl hdX7_place ⟨Nat.le_of_ble_eq_true rfl, Nat.le_of_ble_eq_true rfl⟩) hK hP hD hS hA (q0 := 0) rfl rfl [0, 1, 2, 3, 4, 5, 6] [] [0, 1, 2, 3, 4, 5, 6] rfl rfl rfl rfl (by decide) (fun _ => rfl) rfl rfl hl.1 rfl (Nat.le_of_ble_eq_true rfl) dX7_before_71 ⟨Nat.zero_le _, Nat.zero_le _⟩ (fun z61 u_60 H locs hw hP hD hS => ?_)
        obtain ⟨rfl, r62⟩ := hw
        have hP : va_P G.1 vwCl (W7 G a s) H := hP
        have hD : va_D A (W7 G a s) := hD
        refine lv_aload_n hx hb dX7_before_74 rfl (lv_at hl 3 rfl) ?_
        refine lv_iload_n hx hb dX7_before_75 rfl (lv_at hl 4 rfl) ?_
        obtain ⟨b63, h64⟩ := h59
        refine zc_vi (As := [.int (iI row)]) (rest := [.int (iI ((s.2 0) (250 + x3_1))), .int (iI x2_1)]) (w2 := fun u_65 => W7 G a s) (c_X7_place l G a s row r_s r_row b63) ⟨hx, hb, hml, hown, hts⟩ (cwV 1 hts gX7_before_X7_place rfl rfl rfl hdX7_place ⟨Nat.le_of_ble_eq_true rfl, Nat.le_of_ble_eq_true rfl⟩) hK hP hD hS hA (q0 := 0) rfl rfl [0, 1, 2, 3, 4, 5, 6] [] [0, 1, 2, 3, 4, 5, 6] rfl rfl rfl rfl (by decide) (fun _ => rfl) rfl rfl hl.1 rfl (Nat.le_of_ble_eq_true rfl) dX7_before_76 ⟨Nat.zero_le _, Nat.zero_le _⟩ (fun z66 u_65 H locs hw hP hD hS => ?_)
        obtain ⟨rfl, r67⟩ := hw
        have hP : va_P G.1 vwCl (W7 G a s) H := hP
        have hD : va_D A (W7 G a s) := hD
        refine zr_icmp_ne (tgt := 91) (x := (s.2 0) (250 + x3_1)) (y := (s.2 0) (250 + row)) hx hb r62 r67 dX7_before_79 (by decide) (fun c68 => ?_) (fun c68 => ?_)
        · have h71 := h64.2 c68
          refine lv_iconst (v := iI 0) hx hb dX7_before_91 rfl ?_
          refine zr_iadd (x := x2_1) (y := 0) hx hb dX7_before_92 ?_
          obtain ⟨r72, h73⟩ := h71
          refine lv_istore_n (lv' := [(2, .int (iI (x2_1 + 0))), (4, .int (iI 0)), (3, .int (iI x3_1)), (0, .ref (a 0)), (1, .int (iI row))]) hx hb dX7_before_93 rfl hl (by decide) rfl (fun ls hl => ?_)
          obtain ⟨r74, h75⟩ := h73
          refine zr_iinc (x := x3_1) (lv' := [(3, .int (iI (x3_1 + 1))), (2, .int (iI (x2_1 + 0))), (4, .int (iI 0)), (0, .ref (a 0)), (1, .int (iI row))]) hx hb dX7_before_94 hl (k := 2) rfl (by decide) rfl (fun ls hl => ?_)
          refine lv_goto (tgt := 4) hx hb dX7_before_97 (by decide) ?_
          obtain ⟨h76, h77⟩ := h75
          exact ih6 ((x2_1 + 0, x3_1 + 1)) H locs ls ⟨⟨r72, r74⟩, h76⟩ h77 hP hD hS (lv_sub hl [0, 1, 3, 4] rfl)
        · have h78 := h64.1 c68
          refine lv_iload hx hb dX7_before_82 (lv_at hl 0 rfl) ?_
          refine zr_if_eq (tgt := 91) (x := 0) hx hb rg_0 dX7_before_84 (by decide) (fun _ => ?_) (fun c => absurd (by decide) c)
          refine lv_iconst (v := iI 0) hx hb dX7_before_91 rfl ?_
          refine zr_iadd (x := x2_1) (y := 0) hx hb dX7_before_92 ?_
          obtain ⟨r79, h80⟩ := h78
          refine lv_istore_n (lv' := [(2, .int (iI (x2_1 + 0))), (4, .int (iI 0)), (3, .int (iI x3_1)), (0, .ref (a 0)), (1, .int (iI row))]) hx hb dX7_before_93 rfl hl (by decide) rfl (fun ls hl => ?_)
          obtain ⟨r81, h82⟩ := h80
          refine zr_iinc (x := x3_1) (lv' := [(3, .int (iI (x3_1 + 1))), (2, .int (iI (x2_1 + 0))), (4, .int (iI 0)), (0, .ref (a 0)), (1, .int (iI row))]) hx hb dX7_before_94 hl (k := 2) rfl (by decide) rfl (fun ls hl => ?_)
          refine lv_goto (tgt := 4) hx hb dX7_before_97 (by decide) ?_
          obtain ⟨h83, h84⟩ := h82
          exact ih6 ((x2_1 + 0, x3_1 + 1)) H locs ls ⟨⟨r79, r81⟩, h83⟩ h84 hP hD hS (lv_sub hl [0, 1, 3, 4] rfl)
      · have h85 := h53.1 c54
        refine lv_iload_n hx hb dX7_before_56 rfl (lv_at hl 0 rfl) ?_
        refine lv_iload_n hx hb dX7_before_57 rfl (lv_at hl 3 rfl) ?_
        refine zr_icmp_ge (tgt := 65) (x := x3_1) (y := row) hx hb rx3_1 r_row dX7_before_58 (by decide) (fun c86 => ?_) (fun c86 => ?_)
        · have h89 := h85.2 c86
          refine lv_iconst (v := iI 0) hx hb dX7_before_65 rfl ?_
          refine lv_istore (lv' := [(4, .int (iI 0)), (3, .int (iI x3_1)), (2, .int (iI x2_1)), (0, .ref (a 0)), (1, .int (iI row))]) hx hb dX7_before_66 hl (by decide) rfl (fun ls hl => ?_)
          refine lv_iload_n hx hb dX7_before_68 rfl (lv_at hl 2 rfl) ?_
          refine lv_aload_n hx hb dX7_before_69 rfl (lv_at hl 3 rfl) ?_
          refine lv_iload_n hx hb dX7_before_70 rfl (lv_at hl 1 rfl) ?_
          obtain ⟨b90, h91⟩ := h89
          refine zc_vi (As := [.int (iI x3_1)]) (rest := [.int (iI x2_1)]) (w2 := fun u_92 => W7 G a s) (c_X7_place l G a s x3_1 r_s rx3_1 b90) ⟨hx, hb, hml, hown, hts⟩ (cwV 1 hts gX7_before_X7_place rfl rfl rfl hdX7_place ⟨Nat.le_of_ble_eq_true rfl, Nat.le_of_ble_eq_true rfl⟩) hK hP hD hS hA (q0 := 0) rfl rfl [0, 1, 2, 3, 4, 5, 6] [] [0, 1, 2, 3, 4, 5, 6] rfl rfl rfl rfl (by decide) (fun _ => rfl) rfl rfl hl.1 rfl (Nat.le_of_ble_eq_true rfl) dX7_before_71 ⟨Nat.zero_le _, Nat.zero_le _⟩ (fun z93 u_92 H locs hw hP hD hS => ?_)
          obtain ⟨rfl, r94⟩ := hw
          have hP : va_P G.1 vwCl (W7 G a s) H := hP
          have hD : va_D A (W7 G a s) := hD
          refine lv_aload_n hx hb dX7_before_74 rfl (lv_at hl 3 rfl) ?_
          refine lv_iload_n hx hb dX7_before_75 rfl (lv_at hl 4 rfl) ?_
          obtain ⟨b95, h96⟩ := h91
          refine zc_vi (As := [.int (iI row)]) (rest := [.int (iI ((s.2 0) (250 + x3_1))), .int (iI x2_1)]) (w2 := fun u_97 => W7 G a s) (c_X7_place l G a s row r_s r_row b95) ⟨hx, hb, hml, hown, hts⟩ (cwV 1 hts gX7_before_X7_place rfl rfl rfl hdX7_place ⟨Nat.le_of_ble_eq_true rfl, Nat.le_of_ble_eq_true rfl⟩) hK hP hD hS hA (q0 := 0) rfl rfl [0, 1, 2, 3, 4, 5, 6] [] [0, 1, 2, 3, 4, 5, 6] rfl rfl rfl rfl (by decide) (fun _ => rfl) rfl rfl hl.1 rfl (Nat.le_of_ble_eq_true rfl) dX7_before_76 ⟨Nat.zero_le _, Nat.zero_le _⟩ (fun z98 u_97 H locs hw hP hD hS => ?_)
          obtain ⟨rfl, r99⟩ := hw
          have hP : va_P G.1 vwCl (W7 G a s) H := hP
          have hD : va_D A (W7 G a s) := hD
          refine zr_icmp_ne (tgt := 91) (x := (s.2 0) (250 + x3_1)) (y := (s.2 0) (250 + row)) hx hb r94 r99 dX7_before_79 (by decide) (fun c100 => ?_) (fun c100 => ?_)
          · have h103 := h96.2 c100
            refine lv_iconst (v := iI 0) hx hb dX7_before_91 rfl ?_
            refine zr_iadd (x := x2_1) (y := 0) hx hb dX7_before_92 ?_
            obtain ⟨r104, h105⟩ := h103
            refine lv_istore_n (lv' := [(2, .int (iI (x2_1 + 0))), (4, .int (iI 0)), (3, .int (iI x3_1)), (0, .ref (a 0)), (1, .int (iI row))]) hx hb dX7_before_93 rfl hl (by decide) rfl (fun ls hl => ?_)
            obtain ⟨r106, h107⟩ := h105
            refine zr_iinc (x := x3_1) (lv' := [(3, .int (iI (x3_1 + 1))), (2, .int (iI (x2_1 + 0))), (4, .int (iI 0)), (0, .ref (a 0)), (1, .int (iI row))]) hx hb dX7_before_94 hl (k := 2) rfl (by decide) rfl (fun ls hl => ?_)
            refine lv_goto (tgt := 4) hx hb dX7_before_97 (by decide) ?_
            obtain ⟨h108, h109⟩ := h107
            exact ih6 ((x2_1 + 0, x3_1 + 1)) H locs ls ⟨⟨r104, r106⟩, h108⟩ h109 hP hD hS (lv_sub hl [0, 1, 3, 4] rfl)
          · have h110 := h96.1 c100
            refine lv_iload hx hb dX7_before_82 (lv_at hl 0 rfl) ?_
            refine zr_if_eq (tgt := 91) (x := 0) hx hb rg_0 dX7_before_84 (by decide) (fun _ => ?_) (fun c => absurd (by decide) c)
            refine lv_iconst (v := iI 0) hx hb dX7_before_91 rfl ?_
            refine zr_iadd (x := x2_1) (y := 0) hx hb dX7_before_92 ?_
            obtain ⟨r111, h112⟩ := h110
            refine lv_istore_n (lv' := [(2, .int (iI (x2_1 + 0))), (4, .int (iI 0)), (3, .int (iI x3_1)), (0, .ref (a 0)), (1, .int (iI row))]) hx hb dX7_before_93 rfl hl (by decide) rfl (fun ls hl => ?_)
            obtain ⟨r113, h114⟩ := h112
            refine zr_iinc (x := x3_1) (lv' := [(3, .int (iI (x3_1 + 1))), (2, .int (iI (x2_1 + 0))), (4, .int (iI 0)), (0, .ref (a 0)), (1, .int (iI row))]) hx hb dX7_before_94 hl (k := 2) rfl (by decide) rfl (fun ls hl => ?_)
            refine lv_goto (tgt := 4) hx hb dX7_before_97 (by decide) ?_
            obtain ⟨h115, h116⟩ := h114
            exact ih6 ((x2_1 + 0, x3_1 + 1)) H locs ls ⟨⟨r111, r113⟩, h115⟩ h116 hP hD hS (lv_sub hl [0, 1, 3, 4] rfl)
        · have h117 := h85.1 c86
          refine lv_iconst (v := iI 1) hx hb dX7_before_61 rfl ?_
          refine lv_goto (tgt := 66) hx hb dX7_before_62 (by decide) ?_
          refine lv_istore (lv' := [(4, .int (iI 1)), (3, .int (iI x3_1)), (2, .int (iI x2_1)), (0, .ref (a 0)), (1, .int (iI row))]) hx hb dX7_before_66 hl (by decide) rfl (fun ls hl => ?_)
          refine lv_iload_n hx hb dX7_before_68 rfl (lv_at hl 2 rfl) ?_
          refine lv_aload_n hx hb dX7_before_69 rfl (lv_at hl 3 rfl) ?_
          refine lv_iload_n hx hb dX7_before_70 rfl (lv_at hl 1 rfl) ?_
          obtain ⟨b118, h119⟩ := h117
          refine zc_vi (As := [.int (iI x3_1)]) (rest := [.int (iI x2_1)]) (w2 := fun u_120 => W7 G a s) (c_X7_place l G a s x3_1 r_s rx3_1 b118) ⟨hx, hb, hml, hown, hts⟩ (cwV 1 hts gX7_before_X7_place rfl rfl rfl hdX7_place ⟨Nat.le_of_ble_eq_true rfl, Nat.le_of_ble_eq_true rfl⟩) hK hP hD hS hA (q0 := 0) rfl rfl [0, 1, 2, 3, 4, 5, 6] [] [0, 1, 2, 3, 4, 5, 6] rfl rfl rfl rfl (by decide) (fun _ => rfl) rfl rfl hl.1 rfl (Nat.le_of_ble_eq_true rfl) dX7_before_71 ⟨Nat.zero_le _, Nat.zero_le _⟩ (fun z121 u_120 H locs hw hP hD hS => ?_)
          obtain ⟨rfl, r122⟩ := hw
          have hP : va_P G.1 vwCl (W7 G a s) H := hP
          have hD : va_D A (W7 G a s) := hD
          refine lv_aload_n hx hb dX7_before_74 rfl (lv_at hl 3 rfl) ?_
          refine lv_iload_n hx hb dX7_before_75 rfl (lv_at hl 4 rfl) ?_
          obtain ⟨b123, h124⟩ := h119
          refine zc_vi (As := [.int (iI row)]) (rest := [.int (iI ((s.2 0) (250 + x3_1))), .int (iI x2_1)]) (w2 := fun u_125 => W7 G a s) (c_X7_place l G a s row r_s r_row b123) ⟨hx, hb, hml, hown, hts⟩ (cwV 1 hts gX7_before_X7_place rfl rfl rfl hdX7_place ⟨Nat.le_of_ble_eq_true rfl, Nat.le_of_ble_eq_true rfl⟩) hK hP hD hS hA (q0 := 0) rfl rfl [0, 1, 2, 3, 4, 5, 6] [] [0, 1, 2, 3, 4, 5, 6] rfl rfl rfl rfl (by decide) (fun _ => rfl) rfl rfl hl.1 rfl (Nat.le_of_ble_eq_true rfl) dX7_before_76 ⟨Nat.zero_le _, Nat.zero_le _⟩ (fun z126 u_125 H locs hw hP hD hS => ?_)
          obtain ⟨rfl, r127⟩ := hw
          have hP : va_P G.1 vwCl (W7 G a s) H := hP
          have hD : va_D A (W7 G a s) := hD
          refine zr_icmp_ne (tgt := 91) (x := (s.2 0) (250 + x3_1)) (y := (s.2 0) (250 + row)) hx hb r122 r127 dX7_before_79 (by decide) (fun c128 => ?_) (fun c128 => ?_)
          · have h131 := h124.2 c128
            refine lv_iconst (v := iI 0) hx hb dX7_before_91 rfl ?_
            refine zr_iadd (x := x2_1) (y := 0) hx hb dX7_before_92 ?_
            obtain ⟨r132, h133⟩ := h131
            refine lv_istore_n (lv' := [(2, .int (iI (x2_1 + 0))), (4, .int (iI 1)), (3, .int (iI x3_1)), (0, .ref (a 0)), (1, .int (iI row))]) hx hb dX7_before_93 rfl hl (by decide) rfl (fun ls hl => ?_)
            obtain ⟨r134, h135⟩ := h133
            refine zr_iinc (x := x3_1) (lv' := [(3, .int (iI (x3_1 + 1))), (2, .int (iI (x2_1 + 0))), (4, .int (iI 1)), (0, .ref (a 0)), (1, .int (iI row))]) hx hb dX7_before_94 hl (k := 2) rfl (by decide) rfl (fun ls hl => ?_)
            refine lv_goto (tgt := 4) hx hb dX7_before_97 (by decide) ?_
            obtain ⟨h136, h137⟩ := h135
            exact ih6 ((x2_1 + 0, x3_1 + 1)) H locs ls ⟨⟨r132, r134⟩, h136⟩ h137 hP hD hS (lv_sub hl [0, 1, 3, 4] rfl)
          · have h138 := h124.1 c128
            refine lv_iload hx hb dX7_before_82 (lv_at hl 0 rfl) ?_
            refine zr_if_eq (tgt := 91) (x := 1) hx hb rg_1 dX7_before_84 (by decide) (fun c => absurd c (by decide)) (fun _ => ?_)
            refine lv_iconst (v := iI 1) hx hb dX7_before_87 rfl ?_
            refine lv_goto (tgt := 92) hx hb dX7_before_88 (by decide) ?_
            refine zr_iadd (x := x2_1) (y := 1) hx hb dX7_before_92 ?_
            obtain ⟨r139, h140⟩ := h138
            refine lv_istore_n (lv' := [(2, .int (iI (x2_1 + 1))), (4, .int (iI 1)), (3, .int (iI x3_1)), (0, .ref (a 0)), (1, .int (iI row))]) hx hb dX7_before_93 rfl hl (by decide) rfl (fun ls hl => ?_)
            obtain ⟨r141, h142⟩ := h140
            refine zr_iinc (x := x3_1) (lv' := [(3, .int (iI (x3_1 + 1))), (2, .int (iI (x2_1 + 1))), (4, .int (iI 1)), (0, .ref (a 0)), (1, .int (iI row))]) hx hb dX7_before_94 hl (k := 2) rfl (by decide) rfl (fun ls hl => ?_)
            refine lv_goto (tgt := 4) hx hb dX7_before_97 (by decide) ?_
            obtain ⟨h143, h144⟩ := h142
            exact ih6 ((x2_1 + 1, x3_1 + 1)) H locs ls ⟨⟨r139, r141⟩, h143⟩ h144 hP hD hS (lv_sub hl [0, 1, 3, 4] rfl)
theorem c_X7_before (l : Launch) (G : ZG) (a : Nat → Nat) (s : SS) (row : Int)  (r_s : RG s) (r_row : rg row) (p0 : Vb (s.2 0)) (p1 : 0 ≤ row ∧ row < 120) : ZI l G yX7_before wsX7_before 1 21 [.ref (a 0), .int (iI row)] (W7 G a s) (fun _ : Unit => W7 G a s) (fun (z : Int) (_ : Unit) => z = (sumI (fun r => pz ((s.2 0) (250 + r) = (s.2 0) (250 + row) ∧ ((s.2 0) (10 + r) < (s.2 0) (10 + row) ∨ (s.2 0) (10 + r) = (s.2 0) (10 + row) ∧ r < row))) ((s.2 0) 3).toNat) ∧ rg z) := by
  refine ZI.fn (w1 := fun u : Unit => W7 G a s) (fun z u hq => ?_) (c0_X7_before l G a s row (fun z => z = (sumI (fun r => pz ((s.2 0) (250 + r) = (s.2 0) (250 + row) ∧ ((s.2 0) (10 + r) < (s.2 0) (10 + row) ∨ (s.2 0) (10 + r) = (s.2 0) (10 + row) ∧ r < row))) ((s.2 0) 3).toNat)) r_s r_row (sp_X7_before s row r_s r_row p0 p1))
  obtain ⟨rz, ez⟩ := hq
  exact ⟨rfl, ⟨ez, rz⟩⟩
