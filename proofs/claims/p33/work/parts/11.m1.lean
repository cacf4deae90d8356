theorem imX3_has_X3 : ∀ w ∈ wsX30, w ∈ wsX3_has := fun _ h => (List.mem_cons_of_mem _ (List.mem_append_right _ h))
theorem hdX3_has : yX3_has.cls = RX3 ∧ yX3_has.cls ≠ "java/lang/invoke/MethodHandle" ∧ yX3_has.cls ≠ "java/lang/invoke/VarHandle" ∧ (parseMethodDescriptor yX3_has.desc).map (fun d => d.parameters.length) = some 1 := by decide +kernel
set_option maxRecDepth 100000 in
set_option maxHeartbeats 4000000 in
theorem c0_X3_has (l : Launch) (G : ZG) (a0 : Nat) (a1 : Nat) (a2 : Nat) (a3 : Nat) (ke : Int → Int) (co : Int → Int) (ne : Int → Int) (to : Int) (row : Int) (P : Int → Prop) (r_ke : rgA ke) (r_co : rgA co) (r_ne : rgA ne) (r_to : rg to) (r_row : rg row) (hwp : wp_X3_has ke co ne to row P) : ZI l G yX3_has wsX3_has 0 0 [.ref a0, .int (iI row)] (W3 G a0 a1 a2 a3 ke co ne to) (fun u : Unit => W3 G a0 a1 a2 a3 ke co ne to) (fun (z : Int) (u : Unit) => rg z ∧ P z) := by
  unfold wp_X3_has at hwp
  refine zm_i (cc := cX3_has) (maxL := 2) (ret := some .boolean) (own := RX3) (lvs := [(0, .ref a0), (1, .int (iI row))]) (by decide) rfl rfl (Nat.le_of_ble_eq_true rfl) rfl ?_
  intro p e sT m args below meth c ls A hx hb hr hml hown hts hlocks hK hP hD hS hA hl
  have k1 := hts (.fieldLink RX3 27 "GrantedSort$RowTable" "total" "I") (List.mem_of_getElem? (i := 1) rfl)
  refine lv_iload_n hx hb dX3_has_0 rfl (lv_at hl 1 rfl) ?_
  refine zr_if_lt (tgt := 16) (x := row) hx hb r_row dX3_has_1 (by decide) (fun c1 => ?_) (fun c1 => ?_)
  · have h4 := hwp.1 c1
    refine lv_iconst (v := iI 0) hx hb dX3_has_16 rfl ?_
    exact zr_zret (z := 0) hx hb hr hlocks hK (Or.inl rfl) () hP hD hS dX3_has_17 ⟨rg_0, h4⟩
  · have h5 := hwp.2 c1
    refine lv_iload_n hx hb dX3_has_4 rfl (lv_at hl 1 rfl) ?_
    refine lv_aload_n hx hb dX3_has_5 rfl (lv_at hl 0 rfl) ?_
    refine va_get (v := .int (iI to)) (ci := 3) (C := RX3) (T := TX3) (N := 4) hx hb hts imX3_has_X3 hown hK hP 0 rfl rfl 3 (by decide) k1 (fun _ h9 => h9) rfl dX3_has_6 ?_
    refine zr_icmp_ge (tgt := 16) (x := row) (y := to) hx hb r_row r_to dX3_has_9 (by decide) (fun c6 => ?_) (fun c6 => ?_)
    · have h9 := h5.2 c6
      refine lv_iconst (v := iI 0) hx hb dX3_has_16 rfl ?_
      exact zr_zret (z := 0) hx hb hr hlocks hK (Or.inl rfl) () hP hD hS dX3_has_17 ⟨rg_0, h9⟩
    · have h10 := h5.1 c6
      refine lv_iconst (v := iI 1) hx hb dX3_has_12 rfl ?_
      refine lv_goto (tgt := 17) hx hb dX3_has_13 (by decide) ?_
      exact zr_zret (z := 1) hx hb hr hlocks hK (Or.inr rfl) () hP hD hS dX3_has_17 ⟨rg_1, h10⟩
theorem c_X3_has (l : Launch) (G : ZG) (a0 : Nat) (a1 : Nat) (a2 : Nat) (a3 : Nat) (ke : Int → Int) (co : Int → Int) (ne : Int → Int) (to : Int) (row : Int)  (r_ke : rgA ke) (r_co : rgA co) (r_ne : rgA ne) (r_to : rg to) (r_row : rg row)  : ZI l G yX3_has wsX3_has 0 0 [.ref a0, .int (iI row)] (W3 G a0 a1 a2 a3 ke co ne to) (fun _ : Unit => W3 G a0 a1 a2 a3 ke co ne to) (fun (z : Int) (_ : Unit) => z = (pz (0 ≤ row ∧ row < to)) ∧ rg z) := by
  refine ZI.fn (w1 := fun u : Unit => W3 G a0 a1 a2 a3 ke co ne to) (fun z u hq => ?_) (c0_X3_has l G a0 a1 a2 a3 ke co ne to row (fun z => z = (pz (0 ≤ row ∧ row < to))) r_ke r_co r_ne r_to r_row (sp_X3_has ke co ne to row r_ke r_co r_ne r_to r_row ))
  obtain ⟨rz, ez⟩ := hq
  exact ⟨rfl, ⟨ez, rz⟩⟩
theorem imX3_hasRoom_X3 : ∀ w ∈ wsX30, w ∈ wsX3_hasRoom := fun _ h => (List.mem_cons_of_mem _ (List.mem_append_right _ h))
theorem hdX3_hasRoom : yX3_hasRoom.cls = RX3 ∧ yX3_hasRoom.cls ≠ "java/lang/invoke/MethodHandle" ∧ yX3_hasRoom.cls ≠ "java/lang/invoke/VarHandle" ∧ (parseMethodDescriptor yX3_hasRoom.desc).map (fun d => d.parameters.length) = some 0 := by decide +kernel
set_option maxRecDepth 100000 in
set_option maxHeartbeats 4000000 in
theorem c0_X3_hasRoom (l : Launch) (G : ZG) (a0 : Nat) (a1 : Nat) (a2 : Nat) (a3 : Nat) (ke : Int → Int) (co : Int → Int) (ne : Int → Int) (to : Int)  (P : Int → Prop) (r_ke : rgA ke) (r_co : rgA co) (r_ne : rgA ne) (r_to : rg to)  (hwp : wp_X3_hasRoom ke co ne to P) : ZI l G yX3_hasRoom wsX3_hasRoom 0 0 [.ref a0] (W3 G a0 a1 a2 a3 ke co ne to) (fun u : Unit => W3 G a0 a1 a2 a3 ke co ne to) (fun (z : Int) (u : Unit) => rg z ∧ P z) := by
  unfold wp_X3_hasRoom at hwp
  refine zm_i (cc := cX3_hasRoom) (maxL := 1) (ret := some .boolean) (own := RX3) (lvs := [(0, .ref a0)]) (by decide) rfl rfl (Nat.le_of_ble_eq_true rfl) rfl ?_
  intro p e sT m args below meth c ls A hx hb hr hml hown hts hlocks hK hP hD hS hA hl
  have k1 := hts (.fieldLink RX3 27 "GrantedSort$RowTable" "total" "I") (List.mem_of_getElem? (i := 1) rfl)
  refine lv_aload_n hx hb dX3_hasRoom_0 rfl (lv_at hl 0 rfl) ?_
  refine va_get (v := .int (iI to)) (ci := 3) (C := RX3) (T := TX3) (N := 4) hx hb hts imX3_hasRoom_X3 hown hK hP 0 rfl rfl 3 (by decide) k1 (fun _ h9 => h9) rfl dX3_hasRoom_1 ?_
  refine zr_if_lt (tgt := 20) (x := to) hx hb r_to dX3_hasRoom_4 (by decide) (fun c1 => ?_) (fun c1 => ?_)
  · have h4 := hwp.1 c1
    refine lv_iconst (v := iI 0) hx hb dX3_hasRoom_20 rfl ?_
    exact zr_zret (z := 0) hx hb hr hlocks hK (Or.inl rfl) () hP hD hS dX3_hasRoom_21 ⟨rg_0, h4⟩
  · have h5 := hwp.2 c1
    refine lv_aload_n hx hb dX3_hasRoom_7 rfl (lv_at hl 0 rfl) ?_
    refine va_get (v := .int (iI to)) (ci := 3) (C := RX3) (T := TX3) (N := 4) hx hb hts imX3_hasRoom_X3 hown hK hP 0 rfl rfl 3 (by decide) k1 (fun _ h9 => h9) rfl dX3_hasRoom_8 ?_
    refine lv_bipush (v := iI 120) hx hb dX3_hasRoom_11 (by decide) ?_
    refine zr_icmp_ge (tgt := 20) (x := to) (y := 120) hx hb r_to rg_120 dX3_hasRoom_13 (by decide) (fun c6 => ?_) (fun c6 => ?_)
    · have h9 := h5.2 c6
      refine lv_iconst (v := iI 0) hx hb dX3_hasRoom_20 rfl ?_
      exact zr_zret (z := 0) hx hb hr hlocks hK (Or.inl rfl) () hP hD hS dX3_hasRoom_21 ⟨rg_0, h9⟩
    · have h10 := h5.1 c6
      refine lv_iconst (v := iI 1) hx hb dX3_hasRoom_16 rfl ?_
      refine lv_goto (tgt := 21) hx hb dX3_hasRoom_17 (by decide) ?_
      exact zr_zret (z := 1) hx hb hr hlocks hK (Or.inr rfl) () hP hD hS dX3_hasRoom_21 ⟨rg_1, h10⟩
theorem c_X3_hasRoom (l : Launch) (G : ZG) (a0 : Nat) (a1 : Nat) (a2 : Nat) (a3 : Nat) (ke : Int → Int) (co : Int → Int) (ne : Int → Int) (to : Int)   (r_ke : rgA ke) (r_co : rgA co) (r_ne : rgA ne) (r_to : rg to)   : ZI l G yX3_hasRoom wsX3_hasRoom 0 0 [.ref a0] (W3 G a0 a1 a2 a3 ke co ne to) (fun _ : Unit => W3 G a0 a1 a2 a3 ke co ne to) (fun (z : Int) (_ : Unit) => z = (pz (0 ≤ to ∧ to < 120)) ∧ rg z) := by
  refine ZI.fn (w1 := fun u : Unit => W3 G a0 a1 a2 a3 ke co ne to) (fun z u hq => ?_) (c0_X3_hasRoom l G a0 a1 a2 a3 ke co ne to (fun z => z = (pz (0 ≤ to ∧ to < 120))) r_ke r_co r_ne r_to  (sp_X3_hasRoom ke co ne to r_ke r_co r_ne r_to  ))
  obtain ⟨rz, ez⟩ := hq
  exact ⟨rfl, ⟨ez, rz⟩⟩
theorem imX3_put_X3 : ∀ w ∈ wsX30, w ∈ wsX3_put := fun _ h => (List.mem_cons_of_mem _ (List.mem_append_right _ h))
theorem hdX3_put : yX3_put.cls = RX3 ∧ yX3_put.cls ≠ "java/lang/invoke/MethodHandle" ∧ yX3_put.cls ≠ "java/lang/invoke/VarHandle" ∧ (parseMethodDescriptor yX3_put.desc).map (fun d => d.parameters.length) = some 1 := by decide +kernel
set_option maxRecDepth 100000 in
set_option maxHeartbeats 4000000 in
theorem c0_X3_put (l : Launch) (G : ZG) (a0 : Nat) (a1 : Nat) (a2 : Nat) (a3 : Nat) (ke : Int → Int) (co : Int → Int) (ne : Int → Int) (to : Int) (key : Int) (P : Int → (Int → Int) → (Int → Int) → (Int → Int) → Int → Prop) (r_ke : rgA ke) (r_co : rgA co) (r_ne : rgA ne) (r_to : rg to) (r_key : rg key) (hwp : wp_X3_put ke co ne to key P) : ZI l G yX3_put wsX3_put 1 20 [.ref a0, .int (iI key)] (W3 G a0 a1 a2 a3 ke co ne to) (fun u : (Int → Int) × (Int → Int) × (Int → Int) × Int => W3 G a0 a1 a2 a3 u.1 u.2.1 u.2.2.1 u.2.2.2) (fun (z : Int) (u : (Int → Int) × (Int → Int) × (Int → Int) × Int) => rg z ∧ rgA u.1 ∧ rgA u.2.1 ∧ rgA u.2.2.1 ∧ rg u.2.2.2 ∧ P z u.1 u.2.1 u.2.2.1 u.2.2.2) := by
  unfold wp_X3_put at hwp
  refine zm_i (cc := cX3_put) (maxL := 3) (ret := some .int) (own := RX3) (lvs := [(0, .ref a0), (1, .int (iI key))]) (by decide) rfl rfl (Nat.le_of_ble_eq_true rfl) rfl ?_
  intro p e sT m args below meth c ls A hx hb hr hml hown hts hlocks hK hP hD hS hA hl
  have k1 := hts (.fieldLink RX3 27 "GrantedSort$RowTable" "total" "I") (List.mem_of_getElem? (i := 1) rfl)
  have k2 := hts (.fieldLink RX3 9 "GrantedSort$RowTable" "keys" "[I") (List.mem_of_getElem? (i := 2) rfl)
  have k3 := hts (.fieldLink RX3 15 "GrantedSort$RowTable" "counts" "[I") (List.mem_of_getElem? (i := 3) rfl)
  have k4 := hts (.fieldLink RX3 18 "GrantedSort$RowTable" "nexts" "[I") (List.mem_of_getElem? (i := 4) rfl)
  refine lv_aload_n hx hb dX3_put_0 rfl (lv_at hl 0 rfl) ?_
  refine zc_vi (As := []) (rest := []) (w2 := fun u_1 => W3 G a0 a1 a2 a3 ke co ne to) (c_X3_hasRoom l G a0 a1 a2 a3 ke co ne to r_ke r_co r_ne r_to) ⟨hx, hb, hml, hown, hts⟩ (cwV 0 hts gX3_put_X3_hasRoom rfl rfl rfl hdX3_hasRoom ⟨Nat.le_of_ble_eq_true rfl, Nat.le_of_ble_eq_true rfl⟩) hK hP hD hS hA (q0 := 0) rfl rfl [0, 1, 2, 3] [] [0, 1, 2, 3] rfl rfl rfl rfl (by decide) (fun _ => rfl) rfl rfl hl.1 rfl (Nat.le_of_ble_eq_true rfl) dX3_put_1 ⟨Nat.zero_le _, Nat.zero_le _⟩ (fun z2 u_1 H locs hw hP hD hS => ?_)
  obtain ⟨rfl, r3⟩ := hw
  have hP : va_P G.1 vwCl (W3 G a0 a1 a2 a3 ke co ne to) H := hP
  have hD : va_D A (W3 G a0 a1 a2 a3 ke co ne to) := hD
  refine zr_ifB_ne (tgt := 9)  hx hb dX3_put_4 (by decide) (fun c4 => ?_) (fun c4 => ?_)
  · have h7 := hwp.1 c4
    refine lv_aload_n hx hb dX3_put_9 rfl (lv_at hl 0 rfl) ?_
    refine va_get (v := .int (iI to)) (ci := 3) (C := RX3) (T := TX3) (N := 4) hx hb hts imX3_put_X3 hown hK hP 0 rfl rfl 3 (by decide) k1 (fun _ h9 => h9) rfl dX3_put_10 ?_
    refine lv_istore_n (lv' := [(2, .int (iI to)), (0, .ref a0), (1, .int (iI key))]) hx hb dX3_put_13 rfl hl (by decide) rfl (fun ls hl => ?_)
    refine lv_aload_n hx hb dX3_put_14 rfl (lv_at hl 1 rfl) ?_
    refine va_get (v := .ref a1) (ci := 3) (C := RX3) (T := TX3) (N := 4) hx hb hts imX3_put_X3 hown hK hP 0 rfl rfl 0 (by decide) k2 (fun _ h9 => h9) rfl dX3_put_15 ?_
    refine lv_iload_n hx hb dX3_put_18 rfl (lv_at hl 0 rfl) ?_
    refine lv_iload_n hx hb dX3_put_19 rfl (lv_at hl 2 rfl) ?_
    obtain ⟨b8, h9⟩ := h7
    refine zr_iast (n := 120) (f := ke) (i := to) (x := key) hx hb hK hP hD hS 1 rfl r_to b8 dX3_put_20 (fun H locs hP hD hS => ?_)
    have hP : va_P G.1 vwCl (W3 G a0 a1 a2 a3 (uZ ke to key) co ne to) H := hP
    have hD : va_D A (W3 G a0 a1 a2 a3 (uZ ke to key) co ne to) := hD
    refine lv_aload_n hx hb dX3_put_21 rfl (lv_at hl 1 rfl) ?_
    refine va_get (v := .ref a2) (ci := 3) (C := RX3) (T := TX3) (N := 4) hx hb hts imX3_put_X3 hown hK hP 0 rfl rfl 1 (by decide) k3 (fun _ h9 => h9) rfl dX3_put_22 ?_
    refine lv_iload_n hx hb dX3_put_25 rfl (lv_at hl 0 rfl) ?_
    refine lv_iconst (v := iI 1) hx hb dX3_put_26 rfl ?_
    refine zr_iast (n := 120) (f := co) (i := to) (x := 1) hx hb hK hP hD hS 2 rfl r_to b8 dX3_put_27 (fun H locs hP hD hS => ?_)
    have hP : va_P G.1 vwCl (W3 G a0 a1 a2 a3 (uZ ke to key) (uZ co to 1) ne to) H := hP
    have hD : va_D A (W3 G a0 a1 a2 a3 (uZ ke to key) (uZ co to 1) ne to) := hD
    refine lv_aload_n hx hb dX3_put_28 rfl (lv_at hl 1 rfl) ?_
    refine va_get (v := .ref a3) (ci := 3) (C := RX3) (T := TX3) (N := 4) hx hb hts imX3_put_X3 hown hK hP 0 rfl rfl 2 (by decide) k4 (fun _ h9 => h9) rfl dX3_put_29 ?_
    refine lv_iload_n hx hb dX3_put_32 rfl (lv_at hl 0 rfl) ?_
    refine lv_iconst (v := iI (-1)) hx hb dX3_put_33 rfl ?_
    refine zr_iast (n := 120) (f := ne) (i := to) (x := (-1)) hx hb hK hP hD hS 3 rfl r_to b8 dX3_put_34 (fun H locs hP hD hS => ?_)
    have hP : va_P G.1 vwCl (W3 G a0 a1 a2 a3 (uZ ke to key) (uZ co to 1) (uZ ne to (-1)) to) H := hP
    have hD : va_D A (W3 G a0 a1 a2 a3 (uZ ke to key) (uZ co to 1) (uZ ne to (-1)) to) := hD
    refine lv_aload_n hx hb dX3_put_35 rfl (lv_at hl 1 rfl) ?_
    refine lv_dup hx hb dX3_put_36 rfl ?_
    refine va_get (v := .int (iI to)) (ci := 3) (C := RX3) (T := TX3) (N := 4) hx hb hts imX3_put_X3 hown hK hP 0 rfl rfl 3 (by decide) k1 (fun _ h9 => h9) rfl dX3_put_37 ?_
    refine lv_iconst (v := iI 1) hx hb dX3_put_40 rfl ?_
    refine zr_iadd (x := to) (y := 1) hx hb dX3_put_41 ?_
    obtain ⟨r10, h11⟩ := h9
    refine va_put (v := .int (iI (to + 1))) (ty := .int) (ci := 3) (C := RX3) (T := TX3) (N := 4) hx hb hts imX3_put_X3 tyX3 tyX3_ok nmX3 hown hK hP hD hS 0 rfl rfl 3 (by decide) k1 (fun _ h9 => h9) rfl (tyX3_ok 3 (by decide)) rfl rfl (Nat.le_of_ble_eq_true rfl) dX3_put_42 (fun H locs hP hD hS => ?_)
    have hP : va_P G.1 vwCl (W3 G a0 a1 a2 a3 (uZ ke to key) (uZ co to 1) (uZ ne to (-1)) (to + 1)) H := hP
    have hD : va_D A (W3 G a0 a1 a2 a3 (uZ ke to key) (uZ co to 1) (uZ ne to (-1)) (to + 1)) := hD
    refine lv_iload_n hx hb dX3_put_45 rfl (lv_at hl 0 rfl) ?_
    exact zr_iret (z := to) hx hb hr hlocks hK ((uZ ke to key, uZ co to 1, uZ ne to (-1), to + 1)) hP hD hS dX3_put_46 ⟨r_to, (rgA_u (i := to) r_ke r_key), (rgA_u (i := to) r_co rg_1), (rgA_u (i := to) r_ne rg_m1), r10, h11⟩
  · have h12 := hwp.2 c4
    refine lv_iconst (v := iI (-1)) hx hb dX3_put_7 rfl ?_
    exact zr_iret (z := (-1)) hx hb hr hlocks hK ((ke, co, ne, to)) hP hD hS dX3_put_8 ⟨rg_m1, r_ke, r_co, r_ne, r_to, h12⟩
theorem c_X3_put (l : Launch) (G : ZG) (a0 : Nat) (a1 : Nat) (a2 : Nat) (a3 : Nat) (ke : Int → Int) (co : Int → Int) (ne : Int → Int) (to : Int) (key : Int)  (r_ke : rgA ke) (r_co : rgA co) (r_ne : rgA ne) (r_to : rg to) (r_key : rg key) (p0 : 0 ≤ to ∧ to < 120) : ZI l G yX3_put wsX3_put 1 20 [.ref a0, .int (iI key)] (W3 G a0 a1 a2 a3 ke co ne to) (fun _ : Unit => W3 G a0 a1 a2 a3 (uZ ke to key) (uZ co to 1) (uZ ne to (-1)) (to + 1)) (fun (z : Int) (_ : Unit) => z = to ∧ rg z ∧ rgA (uZ ke to key) ∧ rgA (uZ co to 1) ∧ rgA (uZ ne to (-1)) ∧ rg (to + 1)) := by
  refine ZI.fn (w1 := fun u : (Int → Int) × (Int → Int) × (Int → Int) × Int => W3 G a0 a1 a2 a3 u.1 u.2.1 u.2.2.1 u.2.2.2) (fun z u hq => ?_) (c0_X3_put l G a0 a1 a2 a3 ke co ne to key (fun z o0 o1 o2 o3 => z = to ∧ o0 = (uZ ke to key) ∧ o1 = (uZ co to 1) ∧ o2 = (uZ ne to (-1)) ∧ o3 = (to + 1)) r_ke r_co r_ne r_to r_key (sp_X3_put ke co ne to key r_ke r_co r_ne r_to r_key p0))
  obtain ⟨rz, ro0, ro1, ro2, ro3, ⟨ez, eo0, eo1, eo2, eo3⟩⟩ := hq
  exact ⟨by rw [eo0, eo1, eo2, eo3], ⟨ez, rz, (by rw [← eo0]; exact ro0), (by rw [← eo1]; exact ro1), (by rw [← eo2]; exact ro2), (by rw [← eo3]; exact ro3)⟩⟩
theorem imX3_keyOf_X3 : ∀ w ∈ wsX30, w ∈ wsX3_keyOf := fun _ h => (List.mem_cons_of_mem _ (List.mem_append_right _ h))
theorem hdX3_keyOf : yX3_keyOf.cls = RX3 ∧ yX3_keyOf.cls ≠ "java/lang/invoke/MethodHandle" ∧ yX3_keyOf.cls ≠ "java/lang/invoke/VarHandle" ∧ (parseMethodDescriptor yX3_keyOf.desc).map (fun d => d.parameters.length) = some 1 := by decide +kernel
set_option maxRecDepth 100000 in
set_option maxHeartbeats 4000000 in
theorem c0_X3_keyOf (l : Launch) (G : ZG) (a0 : Nat) (a1 : Nat) (a2 : Nat) (a3 : Nat) (ke : Int → Int) (co : Int → Int) (ne : Int → Int) (to : Int) (row : Int) (P : Int → Prop) (r_ke : rgA ke) (r_co : rgA co) (r_ne : rgA ne) (r_to : rg to) (r_row : rg row) (hwp : wp_X3_keyOf ke co ne to row P) : ZI l G yX3_keyOf wsX3_keyOf 0 0 [.ref a0, .int (iI row)] (W3 G a0 a1 a2 a3 ke co ne to) (fun u : Unit => W3 G a0 a1 a2 a3 ke co ne to) (fun (z : Int) (u : Unit) => rg z ∧ P z) := by
  unfold wp_X3_keyOf at hwp
  refine zm_i (cc := cX3_keyOf) (maxL := 2) (ret := some .int) (own := RX3) (lvs := [(0, .ref a0), (1, .int (iI row))]) (by decide) rfl rfl (Nat.le_of_ble_eq_true rfl) rfl ?_
  intro p e sT m args below meth c ls A hx hb hr hml hown hts hlocks hK hP hD hS hA hl
  have k1 := hts (.fieldLink RX3 9 "GrantedSort$RowTable" "keys" "[I") (List.mem_of_getElem? (i := 1) rfl)
  refine lv_iload_n hx hb dX3_keyOf_0 rfl (lv_at hl 1 rfl) ?_
  refine zr_if_lt (tgt := 19) (x := row) hx hb r_row dX3_keyOf_1 (by decide) (fun c1 => ?_) (fun c1 => ?_)
  · have h4 := hwp.1 c1
    refine lv_iconst (v := iI (-1)) hx hb dX3_keyOf_19 rfl ?_
    exact zr_iret (z := (-1)) hx hb hr hlocks hK () hP hD hS dX3_keyOf_20 ⟨rg_m1, h4⟩
  · have h5 := hwp.2 c1
    refine lv_iload_n hx hb dX3_keyOf_4 rfl (lv_at hl 1 rfl) ?_
    refine lv_bipush (v := iI 120) hx hb dX3_keyOf_5 (by decide) ?_
    refine zr_icmp_ge (tgt := 19) (x := row) (y := 120) hx hb r_row rg_120 dX3_keyOf_7 (by decide) (fun c6 => ?_) (fun c6 => ?_)
    · have h9 := h5.2 c6
      refine lv_iconst (v := iI (-1)) hx hb dX3_keyOf_19 rfl ?_
      exact zr_iret (z := (-1)) hx hb hr hlocks hK () hP hD hS dX3_keyOf_20 ⟨rg_m1, h9⟩
    · have h10 := h5.1 c6
      refine lv_aload_n hx hb dX3_keyOf_10 rfl (lv_at hl 0 rfl) ?_
      refine va_get (v := .ref a1) (ci := 3) (C := RX3) (T := TX3) (N := 4) hx hb hts imX3_keyOf_X3 hown hK hP 0 rfl rfl 0 (by decide) k1 (fun _ h9 => h9) rfl dX3_keyOf_11 ?_
      refine lv_iload_n hx hb dX3_keyOf_14 rfl (lv_at hl 1 rfl) ?_
      obtain ⟨b11, h12⟩ := h10
      refine zr_iald (n := 120) (f := ke) (i := row) hx hb hK hP 1 rfl r_row b11 dX3_keyOf_15 ?_
      refine lv_goto (tgt := 20) hx hb dX3_keyOf_16 (by decide) ?_
      exact zr_iret (z := ke row) hx hb hr hlocks hK () hP hD hS dX3_keyOf_20 ⟨(r_ke row), h12⟩
theorem c_X3_keyOf (l : Launch) (G : ZG) (a0 : Nat) (a1 : Nat) (a2 : Nat) (a3 : Nat) (ke : Int → Int) (co : Int → Int) (ne : Int → Int) (to : Int) (row : Int)  (r_ke : rgA ke) (r_co : rgA co) (r_ne : rgA ne) (r_to : rg to) (r_row : rg row) (p0 : 0 ≤ row ∧ row < 120) : ZI l G yX3_keyOf wsX3_keyOf 0 0 [.ref a0, .int (iI row)] (W3 G a0 a1 a2 a3 ke co ne to) (fun _ : Unit => W3 G a0 a1 a2 a3 ke co ne to) (fun (z : Int) (_ : Unit) => z = (ke row) ∧ rg z) := by
  refine ZI.fn (w1 := fun u : Unit => W3 G a0 a1 a2 a3 ke co ne to) (fun z u hq => ?_) (c0_X3_keyOf l G a0 a1 a2 a3 ke co ne to row (fun z => z = (ke row)) r_ke r_co r_ne r_to r_row (sp_X3_keyOf ke co ne to row r_ke r_co r_ne r_to r_row p0))
  obtain ⟨rz, ez⟩ := hq
  exact ⟨rfl, ⟨ez, rz⟩⟩
theorem imX3_countOf_X3 : ∀ w ∈ wsX30, w ∈ wsX3_countOf := fun _ h => (List.mem_cons_of_mem _ (List.mem_append_right _ h))
theorem hdX3_countOf : yX3_countOf.cls = RX3 ∧ yX3_countOf.cls ≠ "java/lang/invoke/MethodHandle" ∧ yX3_countOf.cls ≠ "java/lang/invoke/VarHandle" ∧ (parseMethodDescriptor yX3_countOf.desc).map (fun d => d.parameters.length) = some 1 := by decide +kernel
set_option maxRecDepth 100000 in
set_option maxHeartbeats 4000000 in
theorem c0_X3_countOf (l : Launch) (G : ZG) (a0 : Nat) (a1 : Nat) (a2 : Nat) (a3 : Nat) (ke : Int → Int) (co : Int → Int) (ne : Int → Int) (to : Int) (row : Int) (P : Int → Prop) (r_ke : rgA ke) (r_co : rgA co) (r_ne : rgA ne) (r_to : rg to) (r_row : rg row) (hwp : wp_X3_countOf ke co ne to row P) : ZI l G yX3_countOf wsX3_countOf 0 0 [.ref a0, .int (iI row)] (W3 G a0 a1 a2 a3 ke co ne to) (fun u : Unit => W3 G a0 a1 a2 a3 ke co ne to) (fun (z : Int) (u : Unit) => rg z ∧ P z) := by
  unfold wp_X3_countOf at hwp
  refine zm_i (cc := cX3_countOf) (maxL := 2) (ret := some .int) (own := RX3) (lvs := [(0, .ref a0), (1, .int (iI row))]) (by decide) rfl rfl (Nat.le_of_ble_eq_true rfl) rfl ?_
  intro p e sT m args below meth c ls A hx hb hr hml hown hts hlocks hK hP hD hS hA hl
  have k1 := hts (.fieldLink RX3 15 "GrantedSort$RowTable" "counts" "[I") (List.mem_of_getElem? (i := 1) rfl)
  refine lv_iload_n hx hb dX3_countOf_0 rfl (lv_at hl 1 rfl) ?_
  refine zr_if_lt (tgt := 19) (x := row) hx hb r_row dX3_countOf_1 (by decide) (fun c1 => ?_) (fun c1 => ?_)
  · have h4 := hwp.1 c1
    refine lv_iconst (v := iI 0) hx hb dX3_countOf_19 rfl ?_
    exact zr_iret (z := 0) hx hb hr hlocks hK () hP hD hS dX3_countOf_20 ⟨rg_0, h4⟩
  · have h5 := hwp.2 c1
    refine lv_iload_n hx hb dX3_countOf_4 rfl (lv_at hl 1 rfl) ?_
    refine lv_bipush (v := iI 120) hx hb dX3_countOf_5 (by decide) ?_
    refine zr_icmp_ge (tgt := 19) (x := row) (y := 120) hx hb r_row rg_120 dX3_countOf_7 (by decide) (fun c6 => ?_) (fun c6 => ?_)
    · have h9 := h5.2 c6
      refine lv_iconst (v := iI 0) hx hb dX3_countOf_19 rfl ?_
      exact zr_iret (z := 0) hx hb hr hlocks hK () hP hD hS dX3_countOf_20 ⟨rg_0, h9⟩
    · have h10 := h5.1 c6
      refine lv_aload_n hx hb dX3_countOf_10 rfl (lv_at hl 0 rfl) ?_
      refine va_get (v := .ref a2) (ci := 3) (C := RX3) (T := TX3) (N := 4) hx hb hts imX3_countOf_X3 hown hK hP 0 rfl rfl 1 (by decide) k1 (fun _ h9 => h9) rfl dX3_countOf_11 ?_
      refine lv_iload_n hx hb dX3_countOf_14 rfl (lv_at hl 1 rfl) ?_
      obtain ⟨b11, h12⟩ := h10
      refine zr_iald (n := 120) (f := co) (i := row) hx hb hK hP 2 rfl r_row b11 dX3_countOf_15 ?_
      refine lv_goto (tgt := 20) hx hb dX3_countOf_16 (by decide) ?_
      exact zr_iret (z := co row) hx hb hr hlocks hK () hP hD hS dX3_countOf_20 ⟨(r_co row), h12⟩
theorem c_X3_countOf (l : Launch) (G : ZG) (a0 : Nat) (a1 : Nat) (a2 : Nat) (a3 : Nat) (ke : Int → Int) (co : Int → Int) (ne : Int → Int) (to : Int) (row : Int)  (r_ke : rgA ke) (r_co : rgA co) (r_ne : rgA ne) (r_to : rg to) (r_row : rg row) (p0 : 0 ≤ row ∧ row < 120) : ZI l G yX3_countOf wsX3_countOf 0 0 [.ref a0, .int (iI row)] (W3 G a0 a1 a2 a3 ke co ne to) (fun _ : Unit => W3 G a0 a1 a2 a3 ke co ne to) (fun (z : Int) (_ : Unit) => z = (co row) ∧ rg z) := by
  refine ZI.fn (w1 := fun u : Unit => W3 G a0 a1 a2 a3 ke co ne to) (fun z u hq => ?_) (c0_X3_countOf l G a0 a1 a2 a3 ke co ne to row (fun z => z = (co row)) r_ke r_co r_ne r_to r_row (sp_X3_countOf ke co ne to row r_ke r_co r_ne r_to r_row p0))
  obtain ⟨rz, ez⟩ := hq
  exact ⟨rfl, ⟨ez, rz⟩⟩
theorem imX3_nextOf_X3 : ∀ w ∈ wsX30, w ∈ wsX3_nextOf := fun _ h => (List.mem_cons_of_mem _ (List.mem_append_right _ h))
theorem hdX3_nextOf : yX3_nextOf.cls = RX3 ∧ yX3_nextOf.cls ≠ "java/lang/invoke/MethodHandle" ∧ yX3_nextOf.cls ≠ "java/lang/invoke/VarHandle" ∧ (parseMethodDescriptor yX3_nextOf.desc).map (fun d => d.parameters.length) = some 1 := by decide +kernel
set_option maxRecDepth 100000 in
set_option maxHeartbeats 4000000 in
theorem c0_X3_nextOf (l : Launch) (G : ZG) (a0 : Nat) (a1 : Nat) (a2 : Nat) (a3 : Nat) (ke : Int → Int) (co : Int → Int) (ne : Int → Int) (to : Int) (row : Int) (P : Int → Prop) (r_ke : rgA ke) (r_co : rgA co) (r_ne : rgA ne) (r_to : rg to) (r_row : rg row) (hwp : wp_X3_nextOf ke co ne to row P) : ZI l G yX3_nextOf wsX3_nextOf 0 0 [.ref a0, .int (iI row)] (W3 G a0 a1 a2 a3 ke co ne to) (fun u : Unit => W3 G a0 a1 a2 a3 ke co ne to) (fun (z : Int) (u : Unit) => rg z ∧ P z) := by
  unfold wp_X3_nextOf at hwp
  refine zm_i (cc := cX3_nextOf) (maxL := 2) (ret := some .int) (own := RX3) (lvs := [(0, .ref a0), (1, .int (iI row))]) (by decide) rfl rfl (Nat.le_of_ble_eq_true rfl) rfl ?_
  intro p e sT m args below meth c ls A hx hb hr hml hown hts hlocks hK hP hD hS hA hl
  have k1 := hts (.fieldLink RX3 18 "GrantedSort$RowTable" "nexts" "[I") (List.mem_of_getElem? (i := 1) rfl)
  refine lv_iload_n hx hb dX3_nextOf_0 rfl (lv_at hl 1 rfl) ?_
  refine zr_if_lt (tgt := 19) (x := row) hx hb r_row dX3_nextOf_1 (by decide) (fun c1 => ?_) (fun c1 => ?_)
  · have h4 := hwp.1 c1
    refine lv_iconst (v := iI (-1)) hx hb dX3_nextOf_19 rfl ?_
    exact zr_iret (z := (-1)) hx hb hr hlocks hK () hP hD hS dX3_nextOf_20 ⟨rg_m1, h4⟩
  · have h5 := hwp.2 c1
    refine lv_iload_n hx hb dX3_nextOf_4 rfl (lv_at hl 1 rfl) ?_
    refine lv_bipush (v := iI 120) hx hb dX3_nextOf_5 (by decide) ?_
    refine zr_icmp_ge (tgt := 19) (x := row) (y := 120) hx hb r_row rg_120 dX3_nextOf_7 (by decide) (fun c6 => ?_) (fun c6 => ?_)
    · have h9 := h5.2 c6
      refine lv_iconst (v := iI (-1)) hx hb dX3_nextOf_19 rfl ?_
      exact zr_iret (z := (-1)) hx hb hr hlocks hK () hP hD hS dX3_nextOf_20 ⟨rg_m1, h9⟩
    · have h10 := h5.1 c6
      refine lv_aload_n hx hb dX3_nextOf_10 rfl (lv_at hl 0 rfl) ?_
      refine va_get (v := .ref a3) (ci := 3) (C := RX3) (T := TX3) (N := 4) hx hb hts imX3_nextOf_X3 hown hK hP 0 rfl rfl 2 (by decide) k1 (fun _ h9 => h9) rfl dX3_nextOf_11 ?_
      refine lv_iload_n hx hb dX3_nextOf_14 rfl (lv_at hl 1 rfl) ?_
      obtain ⟨b11, h12⟩ := h10
      refine zr_iald (n := 120) (f := ne) (i := row) hx hb hK hP 3 rfl r_row b11 dX3_nextOf_15 ?_
      refine lv_goto (tgt := 20) hx hb dX3_nextOf_16 (by decide) ?_
      exact zr_iret (z := ne row) hx hb hr hlocks hK () hP hD hS dX3_nextOf_20 ⟨(r_ne row), h12⟩
theorem c_X3_nextOf (l : Launch) (G : ZG) (a0 : Nat) (a1 : Nat) (a2 : Nat) (a3 : Nat) (ke : Int → Int) (co : Int → Int) (ne : Int → Int) (to : Int) (row : Int)  (r_ke : rgA ke) (r_co : rgA co) (r_ne : rgA ne) (r_to : rg to) (r_row : rg row) (p0 : 0 ≤ row ∧ row < 120) : ZI l G yX3_nextOf wsX3_nextOf 0 0 [.ref a0, .int (iI row)] (W3 G a0 a1 a2 a3 ke co ne to) (fun _ : Unit => W3 G a0 a1 a2 a3 ke co ne to) (fun (z : Int) (_ : Unit) => z = (ne row) ∧ rg z) := by
  refine ZI.fn (w1 := fun u : Unit => W3 G a0 a1 a2 a3 ke co ne to) (fun z u hq => ?_) (c0_X3_nextOf l G a0 a1 a2 a3 ke co ne to row (fun z => z = (ne row)) r_ke r_co r_ne r_to r_row (sp_X3_nextOf ke co ne to row r_ke r_co r_ne r_to r_row p0))
  obtain ⟨rz, ez⟩ := hq
  exact ⟨rfl, ⟨ez, rz⟩⟩
theorem imX3_link_X3 : ∀ w ∈ wsX30, w ∈ wsX3_link := fun _ h => (List.mem_cons_of_mem _ (List.mem_append_right _ h))
theorem hdX3_link : yX3_link.cls = RX3 ∧ yX3_link.cls ≠ "java/lang/invoke/MethodHandle" ∧ yX3_link.cls ≠ "java/lang/invoke/VarHandle" ∧ (parseMethodDescriptor yX3_link.desc).map (fun d => d.parameters.length) = some 2 := by decide +kernel
set_option maxRecDepth 100000 in
set_option maxHeartbeats 4000000 in
theorem c0_X3_link (l : Launch) (G : ZG) (a0 : Nat) (a1 : Nat) (a2 : Nat) (a3 : Nat) (ke : Int → Int) (co : Int → Int) (ne : Int → Int) (to : Int) (row : Int) (next : Int) (P : (Int → Int) → Prop) (r_ke : rgA ke) (r_co : rgA co) (r_ne : rgA ne) (r_to : rg to) (r_row : rg row) (r_next : rg next) (hwp : wp_X3_link ke co ne to row next P) : ZV l G yX3_link wsX3_link 0 0 [.ref a0, .int (iI row), .int (iI next)] (W3 G a0 a1 a2 a3 ke co ne to) (fun u : (Int → Int) => W3 G a0 a1 a2 a3 ke co u to) (fun (u : (Int → Int)) => rgA u ∧ P u) := by
  unfold wp_X3_link at hwp
  refine zm_v (cc := cX3_link) (maxL := 3) (ret := none) (own := RX3) (lvs := [(0, .ref a0), (1, .int (iI row)), (2, .int (iI next))]) (by decide) rfl rfl (Nat.le_of_ble_eq_true rfl) rfl ?_
  intro p e sT m args below meth c ls A hx hb hr hml hown hts hlocks hK hP hD hS hA hl
  have k1 := hts (.fieldLink RX3 18 "GrantedSort$RowTable" "nexts" "[I") (List.mem_of_getElem? (i := 1) rfl)
  refine lv_iload_n hx hb dX3_link_0 rfl (lv_at hl 1 rfl) ?_
  refine zr_if_lt (tgt := 17) (x := row) hx hb r_row dX3_link_1 (by decide) (fun c1 => ?_) (fun c1 => ?_)
  · have h4 := hwp.1 c1
    exact zr_vret hx hb hr hlocks hK (ne) hP hD hS dX3_link_17 ⟨r_ne, h4⟩
  · have h5 := hwp.2 c1
    refine lv_iload_n hx hb dX3_link_4 rfl (lv_at hl 1 rfl) ?_
    refine lv_bipush (v := iI 120) hx hb dX3_link_5 (by decide) ?_
    refine zr_icmp_ge (tgt := 17) (x := row) (y := 120) hx hb r_row rg_120 dX3_link_7 (by decide) (fun c6 => ?_) (fun c6 => ?_)
    · have h9 := h5.2 c6
      exact zr_vret hx hb hr hlocks hK (ne) hP hD hS dX3_link_17 ⟨r_ne, h9⟩
    · have h10 := h5.1 c6
      refine lv_aload_n hx hb dX3_link_10 rfl (lv_at hl 0 rfl) ?_
      refine va_get (v := .ref a3) (ci := 3) (C := RX3) (T := TX3) (N := 4) hx hb hts imX3_link_X3 hown hK hP 0 rfl rfl 2 (by decide) k1 (fun _ h9 => h9) rfl dX3_link_11 ?_
      refine lv_iload_n hx hb dX3_link_14 rfl (lv_at hl 1 rfl) ?_
      refine lv_iload_n hx hb dX3_link_15 rfl (lv_at hl 2 rfl) ?_
      obtain ⟨b11, h12⟩ := h10
      refine zr_iast (n := 120) (f := ne) (i := row) (x := next) hx hb hK hP hD hS 3 rfl r_row b11 dX3_link_16 (fun H locs hP hD hS => ?_)
      have hP : va_P G.1 vwCl (W3 G a0 a1 a2 a3 ke co (uZ ne row next) to) H := hP
      have hD : va_D A (W3 G a0 a1 a2 a3 ke co (uZ ne row next) to) := hD
      exact zr_vret hx hb hr hlocks hK (uZ ne row next) hP hD hS dX3_link_17 ⟨(rgA_u (i := row) r_ne r_next), h12⟩
theorem c_X3_link (l : Launch) (G : ZG) (a0 : Nat) (a1 : Nat) (a2 : Nat) (a3 : Nat) (ke : Int → Int) (co : Int → Int) (ne : Int → Int) (to : Int) (row : Int) (next : Int)  (r_ke : rgA ke) (r_co : rgA co) (r_ne : rgA ne) (r_to : rg to) (r_row : rg row) (r_next : rg next) (p0 : 0 ≤ row ∧ row < 120) : ZV l G yX3_link wsX3_link 0 0 [.ref a0, .int (iI row), .int (iI next)] (W3 G a0 a1 a2 a3 ke co ne to) (fun _ : Unit => W3 G a0 a1 a2 a3 ke co (uZ ne row next) to) (fun (_ : Unit) => rgA (uZ ne row next)) := by
  refine ZV.fn (w1 := fun u : (Int → Int) => W3 G a0 a1 a2 a3 ke co u to) (fun  u hq => ?_) (c0_X3_link l G a0 a1 a2 a3 ke co ne to row next (fun o0 => o0 = (uZ ne row next)) r_ke r_co r_ne r_to r_row r_next (sp_X3_link ke co ne to row next r_ke r_co r_ne r_to r_row r_next p0))
  obtain ⟨ro0, eo0⟩ := hq
  exact ⟨by rw [eo0], (by rw [← eo0]; exact ro0)⟩
theorem hdX3_rowBehind : yX3_rowBehind.cls = RX3 ∧ yX3_rowBehind.cls ≠ "java/lang/invoke/MethodHandle" ∧ yX3_rowBehind.cls ≠ "java/lang/invoke/VarHandle" ∧ (parseMethodDescriptor yX3_rowBehind.desc).map (fun d => d.parameters.length) = some 2 := by decide +kernel
set_option maxRecDepth 100000 in
set_option maxHeartbeats 4000000 in
theorem c0_X3_rowBehind (l : Launch) (G : ZG) (a0 : Nat) (a1 : Nat) (a2 : Nat) (a3 : Nat) (ke : Int → Int) (co : Int → Int) (ne : Int → Int) (to : Int) (first : Int) (dist : Int) (P : Int → Prop) (r_ke : rgA ke) (r_co : rgA co) (r_ne : rgA ne) (r_to : rg to) (r_first : rg first) (r_dist : rg dist) (hwp : wp_X3_rowBehind ke co ne to first dist P) : ZI l G yX3_rowBehind wsX3_rowBehind 1 21 [.ref a0, .int (iI first), .int (iI dist)] (W3 G a0 a1 a2 a3 ke co ne to) (fun u : Unit => W3 G a0 a1 a2 a3 ke co ne to) (fun (z : Int) (u : Unit) => rg z ∧ P z) := by
  unfold wp_X3_rowBehind at hwp
  refine zm_i (cc := cX3_rowBehind) (maxL := 5) (ret := some .int) (own := RX3) (lvs := [(0, .ref a0), (1, .int (iI first)), (2, .int (iI dist))]) (by decide) rfl rfl (Nat.le_of_ble_eq_true rfl) rfl ?_
  intro p e sT m args below meth c ls A hx hb hr hml hown hts hlocks hK hP hD hS hA hl
  refine lv_iload_n hx hb dX3_rowBehind_0 rfl (lv_at hl 1 rfl) ?_
  refine lv_istore_n (lv' := [(3, .int (iI first)), (0, .ref a0), (1, .int (iI first)), (2, .int (iI dist))]) hx hb dX3_rowBehind_1 rfl hl (by decide) rfl (fun ls hl => ?_)
  refine lv_iconst (v := iI 0) hx hb dX3_rowBehind_2 rfl ?_
  refine lv_istore (lv' := [(4, .int (iI 0)), (3, .int (iI first)), (0, .ref a0), (1, .int (iI first)), (2, .int (iI dist))]) hx hb dX3_rowBehind_3 hl (by decide) rfl (fun ls hl => ?_)
  obtain ⟨I2, μ3, h4, h5⟩ := hwp
  refine zr_loop (G := G) (σ := Int × Int) (fun x_1 => (rg x_1.1 ∧ rg x_1.2) ∧ I2 x_1.1 x_1.2) (fun x_1 => μ3 x_1.1 x_1.2) (fun x_1 => W3 G a0 a1 a2 a3 ke co ne to) (fun x_1 => [(4, .int (iI x_1.2)), (3, .int (iI x_1.1)), (0, .ref a0), (2, .int (iI dist))]) ((first, 0)) ⟨⟨r_first, rg_0⟩, h4⟩ hP hD hS (lv_sub hl [0, 1, 2, 4] rfl) ?_
  clear hP hD hS hl
  intro x_1 H locs ls ih6 h7 hP hD hS hl
  obtain ⟨x3_1, x4_1⟩ := x_1
  obtain ⟨⟨rx3_1, rx4_1⟩, h7⟩ := h7
  have h8 := h5 x3_1 x4_1 rx3_1 rx4_1 h7
  have hP : va_P G.1 vwCl (W3 G a0 a1 a2 a3 ke co ne to) H := hP
  have hD : va_D A (W3 G a0 a1 a2 a3 ke co ne to) := hD
  have hl : lv_has ls 5 [(4, .int (iI x4_1)), (3, .int (iI x3_1)), (0, .ref a0), (2, .int (iI dist))] := hl
  refine lv_iload hx hb dX3_rowBehind_5 (lv_at hl 0 rfl) ?_
  refine lv_iload_n hx hb dX3_rowBehind_7 rfl (lv_at hl 3 rfl) ?_
  refine zr_icmp_ge (tgt := 23) (x := x4_1) (y := dist) hx hb rx4_1 r_dist dX3_rowBehind_8 (by decide) (fun c9 => ?_) (fun c9 => ?_)
  · have h12 := h8.2 c9
    refine lv_iload_n hx hb dX3_rowBehind_23 rfl (lv_at hl 1 rfl) ?_
    exact zr_iret (z := x3_1) hx hb hr hlocks hK () hP hD hS dX3_rowBehind_24 ⟨rx3_1, h12⟩
  · have h13 := h8.1 c9
    refine lv_aload_n hx hb dX3_rowBehind_11 rfl (lv_at hl 2 rfl) ?_
    refine lv_iload_n hx hb dX3_rowBehind_12 rfl (lv_at hl 1 rfl) ?_
    obtain ⟨b14, h15⟩ := h13
    refine zc_vi (As := [.int (iI x3_1)]) (rest := []) (w2 := fun u_16 => W3 G a0 a1 a2 a3 ke co ne to) (c_X3_nextOf l G a0 a1 a2 a3 ke co ne to x3_1 r_ke r_co r_ne r_to rx3_1 b14) ⟨hx, hb, hml, hown, hts⟩ (cwV 1 hts gX3_rowBehind_X3_nextOf rfl rfl rfl hdX3_nextOf ⟨Nat.le_of_ble_eq_true rfl, Nat.le_of_ble_eq_true rfl⟩) hK hP hD hS hA (q0 := 0) rfl rfl [0, 1, 2, 3] [] [0, 1, 2, 3] rfl rfl rfl rfl (by decide) (fun _ => rfl) rfl rfl hl.1 rfl (Nat.le_of_ble_eq_true rfl) dX3_rowBehind_13 ⟨Nat.zero_le _, Nat.zero_le _⟩ (fun z17 u_16 H locs hw hP hD hS => ?_)
    obtain ⟨rfl, r18⟩ := hw
    have hP : va_P G.1 vwCl (W3 G a0 a1 a2 a3 ke co ne to) H := hP
    have hD : va_D A (W3 G a0 a1 a2 a3 ke co ne to) := hD
    refine lv_istore_n (lv' := [(3, .int (iI (ne x3_1))), (4, .int (iI x4_1)), (0, .ref a0), (2, .int (iI dist))]) hx hb dX3_rowBehind_16 rfl hl (by decide) rfl (fun ls hl => ?_)
    obtain ⟨r19, h20⟩ := h15
    refine zr_iinc (x := x4_1) (lv' := [(4, .int (iI (x4_1 + 1))), (3, .int (iI (ne x3_1))), (0, .ref a0), (2, .int (iI dist))]) hx hb dX3_rowBehind_17 hl (k := 1) rfl (by decide) rfl (fun ls hl => ?_)
    refine lv_goto (tgt := 5) hx hb dX3_rowBehind_20 (by decide) ?_
    obtain ⟨h21, h22⟩ := h20
    exact ih6 ((ne x3_1, x4_1 + 1)) _ _ _ ⟨⟨r18, r19⟩, h21⟩ h22 hP hD hS (lv_sub hl [0, 1, 2, 3] rfl)
theorem c_X3_rowBehind (l : Launch) (G : ZG) (a0 : Nat) (a1 : Nat) (a2 : Nat) (a3 : Nat) (ke : Int → Int) (co : Int → Int) (ne : Int → Int) (to : Int) (first : Int) (dist : Int)  (r_ke : rgA ke) (r_co : rgA co) (r_ne : rgA ne) (r_to : rg to) (r_first : rg first) (r_dist : rg dist) (p0 : ∀ j : Nat, (j : Int) < dist → 0 ≤ chn ne first j ∧ chn ne first j < 120) : ZI l G yX3_rowBehind wsX3_rowBehind 1 21 [.ref a0, .int (iI first), .int (iI dist)] (W3 G a0 a1 a2 a3 ke co ne to) (fun _ : Unit => W3 G a0 a1 a2 a3 ke co ne to) (fun (z : Int) (_ : Unit) => z = (chn ne first dist.toNat) ∧ rg z) := by
  refine ZI.fn (w1 := fun u : Unit => W3 G a0 a1 a2 a3 ke co ne to) (fun z u hq => ?_) (c0_X3_rowBehind l G a0 a1 a2 a3 ke co ne to first dist (fun z => z = (chn ne first dist.toNat)) r_ke r_co r_ne r_to r_first r_dist (sp_X3_rowBehind ke co ne to first dist r_ke r_co r_ne r_to r_first r_dist p0))
  obtain ⟨rz, ez⟩ := hq
  exact ⟨rfl, ⟨ez, rz⟩⟩
theorem imX3_comesBefore_X3 : ∀ w ∈ wsX30, w ∈ wsX3_comesBefore := fun _ h => (List.mem_cons_of_mem _ (List.mem_append_right _ h))
theorem hdX3_comesBefore : yX3_comesBefore.cls = RX3 ∧ yX3_comesBefore.cls ≠ "java/lang/invoke/MethodHandle" ∧ yX3_comesBefore.cls ≠ "java/lang/invoke/VarHandle" ∧ (parseMethodDescriptor yX3_comesBefore.desc).map (fun d => d.parameters.length) = some 2 := by decide +kernel
set_option maxRecDepth 100000 in
set_option maxHeartbeats 4000000 in
theorem c0_X3_comesBefore (l : Launch) (G : ZG) (a0 : Nat) (a1 : Nat) (a2 : Nat) (a3 : Nat) (ke : Int → Int) (co : Int → Int) (ne : Int → Int) (to : Int) (row : Int) (other : Int) (P : Int → Prop) (r_ke : rgA ke) (r_co : rgA co) (r_ne : rgA ne) (r_to : rg to) (r_row : rg row) (r_other : rg other) (hwp : wp_X3_comesBefore ke co ne to row other P) : ZI l G yX3_comesBefore wsX3_comesBefore 0 0 [.ref a0, .int (iI row), .int (iI other)] (W3 G a0 a1 a2 a3 ke co ne to) (fun u : Unit => W3 G a0 a1 a2 a3 ke co ne to) (fun (z : Int) (u : Unit) => rg z ∧ P z) := by
  unfold wp_X3_comesBefore at hwp
  refine zm_i (cc := cX3_comesBefore) (maxL := 3) (ret := some .boolean) (own := RX3) (lvs := [(0, .ref a0), (1, .int (iI row)), (2, .int (iI other))]) (by decide) rfl rfl (Nat.le_of_ble_eq_true rfl) rfl ?_
  intro p e sT m args below meth c ls A hx hb hr hml hown hts hlocks hK hP hD hS hA hl
  have k1 := hts (.fieldLink RX3 9 "GrantedSort$RowTable" "keys" "[I") (List.mem_of_getElem? (i := 1) rfl)
  refine lv_iload_n hx hb dX3_comesBefore_0 rfl (lv_at hl 1 rfl) ?_
  refine zr_if_lt (tgt := 20) (x := row) hx hb r_row dX3_comesBefore_1 (by decide) (fun c1 => ?_) (fun c1 => ?_)
  · have h4 := hwp.1 c1
    refine lv_iconst (v := iI 0) hx hb dX3_comesBefore_20 rfl ?_
    exact zr_zret (z := 0) hx hb hr hlocks hK (Or.inl rfl) () hP hD hS dX3_comesBefore_21 ⟨rg_0, h4⟩
  · have h5 := hwp.2 c1
    refine lv_iload_n hx hb dX3_comesBefore_4 rfl (lv_at hl 1 rfl) ?_
    refine lv_bipush (v := iI 120) hx hb dX3_comesBefore_5 (by decide) ?_
    refine zr_icmp_ge (tgt := 20) (x := row) (y := 120) hx hb r_row rg_120 dX3_comesBefore_7 (by decide) (fun c6 => ?_) (fun c6 => ?_)
    · have h9 := h5.2 c6
      refine lv_iconst (v := iI 0) hx hb dX3_comesBefore_20 rfl ?_
      exact zr_zret (z := 0) hx hb hr hlocks hK (Or.inl rfl) () hP hD hS dX3_comesBefore_21 ⟨rg_0, h9⟩
    · have h10 := h5.1 c6
      refine lv_iload_n hx hb dX3_comesBefore_10 rfl (lv_at hl 2 rfl) ?_
      refine zr_if_lt (tgt := 20) (x := other) hx hb r_other dX3_comesBefore_11 (by decide) (fun c11 => ?_) (fun c11 => ?_)
      · have h14 := h10.1 c11
        refine lv_iconst (v := iI 0) hx hb dX3_comesBefore_20 rfl ?_
        exact zr_zret (z := 0) hx hb hr hlocks hK (Or.inl rfl) () hP hD hS dX3_comesBefore_21 ⟨rg_0, h14⟩
      · have h15 := h10.2 c11
        refine lv_iload_n hx hb dX3_comesBefore_14 rfl (lv_at hl 2 rfl) ?_
        refine lv_bipush (v := iI 120) hx hb dX3_comesBefore_15 (by decide) ?_
        refine zr_icmp_lt (tgt := 22) (x := other) (y := 120) hx hb r_other rg_120 dX3_comesBefore_17 (by decide) (fun c16 => ?_) (fun c16 => ?_)
        · have h19 := h15.1 c16
          refine lv_aload_n hx hb dX3_comesBefore_22 rfl (lv_at hl 0 rfl) ?_
          refine va_get (v := .ref a1) (ci := 3) (C := RX3) (T := TX3) (N := 4) hx hb hts imX3_comesBefore_X3 hown hK hP 0 rfl rfl 0 (by decide) k1 (fun _ h9 => h9) rfl dX3_comesBefore_23 ?_
          refine lv_iload_n hx hb dX3_comesBefore_26 rfl (lv_at hl 1 rfl) ?_
          obtain ⟨b20, h21⟩ := h19
          refine zr_iald (n := 120) (f := ke) (i := row) hx hb hK hP 1 rfl r_row b20 dX3_comesBefore_27 ?_
          refine lv_aload_n hx hb dX3_comesBefore_28 rfl (lv_at hl 0 rfl) ?_
          refine va_get (v := .ref a1) (ci := 3) (C := RX3) (T := TX3) (N := 4) hx hb hts imX3_comesBefore_X3 hown hK hP 0 rfl rfl 0 (by decide) k1 (fun _ h9 => h9) rfl dX3_comesBefore_29 ?_
          refine lv_iload_n hx hb dX3_comesBefore_32 rfl (lv_at hl 2 rfl) ?_
          obtain ⟨b22, h23⟩ := h21
          refine zr_iald (n := 120) (f := ke) (i := other) hx hb hK hP 1 rfl r_other b22 dX3_comesBefore_33 ?_
          refine zr_icmp_lt (tgt := 57) (x := ke row) (y := ke other) hx hb (r_ke row) (r_ke other) dX3_comesBefore_34 (by decide) (fun c24 => ?_) (fun c24 => ?_)
          · have h27 := h23.1 c24
            refine lv_iconst (v := iI 1) hx hb dX3_comesBefore_57 rfl ?_
            refine lv_goto (tgt := 62) hx hb dX3_comesBefore_58 (by decide) ?_
            exact zr_zret (z := 1) hx hb hr hlocks hK (Or.inr rfl) () hP hD hS dX3_comesBefore_62 ⟨rg_1, h27⟩
          · have h28 := h23.2 c24
            refine lv_aload_n hx hb dX3_comesBefore_37 rfl (lv_at hl 0 rfl) ?_
            refine va_get (v := .ref a1) (ci := 3) (C := RX3) (T := TX3) (N := 4) hx hb hts imX3_comesBefore_X3 hown hK hP 0 rfl rfl 0 (by decide) k1 (fun _ h9 => h9) rfl dX3_comesBefore_38 ?_
            refine lv_iload_n hx hb dX3_comesBefore_41 rfl (lv_at hl 1 rfl) ?_
            refine zr_iald (n := 120) (f := ke) (i := row) hx hb hK hP 1 rfl r_row b20 dX3_comesBefore_42 ?_
            refine lv_aload_n hx hb dX3_comesBefore_43 rfl (lv_at hl 0 rfl) ?_
            refine va_get (v := .ref a1) (ci := 3) (C := RX3) (T := TX3) (N := 4) hx hb hts imX3_comesBefore_X3 hown hK hP 0 rfl rfl 0 (by decide) k1 (fun _ h9 => h9) rfl dX3_comesBefore_44 ?_
            refine lv_iload_n hx hb dX3_comesBefore_47 rfl (lv_at hl 2 rfl) ?_
            refine zr_iald (n := 120) (f := ke) (i := other) hx hb hK hP 1 rfl r_other b22 dX3_comesBefore_48 ?_
            refine zr_icmp_ne (tgt := 61) (x := ke row) (y := ke other) hx hb (r_ke row) (r_ke other) dX3_comesBefore_49 (by decide) (fun c29 => ?_) (fun c29 => ?_)
            · have h32 := h28.2 c29
              refine lv_iconst (v := iI 0) hx hb dX3_comesBefore_61 rfl ?_
              exact zr_zret (z := 0) hx hb hr hlocks hK (Or.inl rfl) () hP hD hS dX3_comesBefore_62 ⟨rg_0, h32⟩
            · have h33 := h28.1 c29
              refine lv_iload_n hx hb dX3_comesBefore_52 rfl (lv_at hl 1 rfl) ?_
              refine lv_iload_n hx hb dX3_comesBefore_53 rfl (lv_at hl 2 rfl) ?_
              refine zr_icmp_ge (tgt := 61) (x := row) (y := other) hx hb r_row r_other dX3_comesBefore_54 (by decide) (fun c34 => ?_) (fun c34 => ?_)
              · have h37 := h33.2 c34
                refine lv_iconst (v := iI 0) hx hb dX3_comesBefore_61 rfl ?_
                exact zr_zret (z := 0) hx hb hr hlocks hK (Or.inl rfl) () hP hD hS dX3_comesBefore_62 ⟨rg_0, h37⟩
              · have h38 := h33.1 c34
                refine lv_iconst (v := iI 1) hx hb dX3_comesBefore_57 rfl ?_
                refine lv_goto (tgt := 62) hx hb dX3_comesBefore_58 (by decide) ?_
                exact zr_zret (z := 1) hx hb hr hlocks hK (Or.inr rfl) () hP hD hS dX3_comesBefore_62 ⟨rg_1, h38⟩
        · have h39 := h15.2 c16
          refine lv_iconst (v := iI 0) hx hb dX3_comesBefore_20 rfl ?_
          exact zr_zret (z := 0) hx hb hr hlocks hK (Or.inl rfl) () hP hD hS dX3_comesBefore_21 ⟨rg_0, h39⟩
theorem c_X3_comesBefore (l : Launch) (G : ZG) (a0 : Nat) (a1 : Nat) (a2 : Nat) (a3 : Nat) (ke : Int → Int) (co : Int → Int) (ne : Int → Int) (to : Int) (row : Int) (other : Int)  (r_ke : rgA ke) (r_co : rgA co) (r_ne : rgA ne) (r_to : rg to) (r_row : rg row) (r_other : rg other) (p0 : 0 ≤ row ∧ row < 120) (p1 : 0 ≤ other ∧ other < 120) : ZI l G yX3_comesBefore wsX3_comesBefore 0 0 [.ref a0, .int (iI row), .int (iI other)] (W3 G a0 a1 a2 a3 ke co ne to) (fun _ : Unit => W3 G a0 a1 a2 a3 ke co ne to) (fun (z : Int) (_ : Unit) => z = (pz (ke row < ke other ∨ ke row = ke other ∧ row < other)) ∧ rg z) := by
  refine ZI.fn (w1 := fun u : Unit => W3 G a0 a1 a2 a3 ke co ne to) (fun z u hq => ?_) (c0_X3_comesBefore l G a0 a1 a2 a3 ke co ne to row other (fun z => z = (pz (ke row < ke other ∨ ke row = ke other ∧ row < other))) r_ke r_co r_ne r_to r_row r_other (sp_X3_comesBefore ke co ne to row other r_ke r_co r_ne r_to r_row r_other p0 p1))
  obtain ⟨rz, ez⟩ := hq
  exact ⟨rfl, ⟨ez, rz⟩⟩
theorem imX3_absorb_X3 : ∀ w ∈ wsX30, w ∈ wsX3_absorb := fun _ h => (List.mem_cons_of_mem _ (List.mem_append_right _ h))
theorem hdX3_absorb : yX3_absorb.cls = RX3 ∧ yX3_absorb.cls ≠ "java/lang/invoke/MethodHandle" ∧ yX3_absorb.cls ≠ "java/lang/invoke/VarHandle" ∧ (parseMethodDescriptor yX3_absorb.desc).map (fun d => d.parameters.length) = some 2 := by decide +kernel
set_option maxRecDepth 100000 in
set_option maxHeartbeats 4000000 in
theorem c0_X3_absorb (l : Launch) (G : ZG) (a0 : Nat) (a1 : Nat) (a2 : Nat) (a3 : Nat) (ke : Int → Int) (co : Int → Int) (ne : Int → Int) (to : Int) (keeper : Int) (row : Int) (P : (Int → Int) → Prop) (r_ke : rgA ke) (r_co : rgA co) (r_ne : rgA ne) (r_to : rg to) (r_keeper : rg keeper) (r_row : rg row) (hwp : wp_X3_absorb ke co ne to keeper row P) : ZV l G yX3_absorb wsX3_absorb 0 0 [.ref a0, .int (iI keeper), .int (iI row)] (W3 G a0 a1 a2 a3 ke co ne to) (fun u : (Int → Int) => W3 G a0 a1 a2 a3 ke u ne to) (fun (u : (Int → Int)) => rgA u ∧ P u) := by
  unfold wp_X3_absorb at hwp
  refine zm_v (cc := cX3_absorb) (maxL := 3) (ret := none) (own := RX3) (lvs := [(0, .ref a0), (1, .int (iI keeper)), (2, .int (iI row))]) (by decide) rfl rfl (Nat.le_of_ble_eq_true rfl) rfl ?_
  intro p e sT m args below meth c ls A hx hb hr hml hown hts hlocks hK hP hD hS hA hl
  have k1 := hts (.fieldLink RX3 15 "GrantedSort$RowTable" "counts" "[I") (List.mem_of_getElem? (i := 1) rfl)
  refine lv_iload_n hx hb dX3_absorb_0 rfl (lv_at hl 1 rfl) ?_
  refine zr_if_lt (tgt := 42) (x := keeper) hx hb r_keeper dX3_absorb_1 (by decide) (fun c1 => ?_) (fun c1 => ?_)
  · have h4 := hwp.1 c1
    exact zr_vret hx hb hr hlocks hK (co) hP hD hS dX3_absorb_42 ⟨r_co, h4⟩
  · have h5 := hwp.2 c1
    refine lv_iload_n hx hb dX3_absorb_4 rfl (lv_at hl 1 rfl) ?_
    refine lv_bipush (v := iI 120) hx hb dX3_absorb_5 (by decide) ?_
    refine zr_icmp_ge (tgt := 42) (x := keeper) (y := 120) hx hb r_keeper rg_120 dX3_absorb_7 (by decide) (fun c6 => ?_) (fun c6 => ?_)
    · have h9 := h5.2 c6
      exact zr_vret hx hb hr hlocks hK (co) hP hD hS dX3_absorb_42 ⟨r_co, h9⟩
    · have h10 := h5.1 c6
      refine lv_iload_n hx hb dX3_absorb_10 rfl (lv_at hl 2 rfl) ?_
      refine zr_if_lt (tgt := 42) (x := row) hx hb r_row dX3_absorb_11 (by decide) (fun c11 => ?_) (fun c11 => ?_)
      · have h14 := h10.1 c11
        exact zr_vret hx hb hr hlocks hK (co) hP hD hS dX3_absorb_42 ⟨r_co, h14⟩
      · have h15 := h10.2 c11
        refine lv_iload_n hx hb dX3_absorb_14 rfl (lv_at hl 2 rfl) ?_
        refine lv_bipush (v := iI 120) hx hb dX3_absorb_15 (by decide) ?_
        refine zr_icmp_ge (tgt := 42) (x := row) (y := 120) hx hb r_row rg_120 dX3_absorb_17 (by decide) (fun c16 => ?_) (fun c16 => ?_)
        · have h19 := h15.2 c16
          exact zr_vret hx hb hr hlocks hK (co) hP hD hS dX3_absorb_42 ⟨r_co, h19⟩
        · have h20 := h15.1 c16
          refine lv_aload_n hx hb dX3_absorb_20 rfl (lv_at hl 0 rfl) ?_
          refine va_get (v := .ref a2) (ci := 3) (C := RX3) (T := TX3) (N := 4) hx hb hts imX3_absorb_X3 hown hK hP 0 rfl rfl 1 (by decide) k1 (fun _ h9 => h9) rfl dX3_absorb_21 ?_
          refine lv_iload_n hx hb dX3_absorb_24 rfl (lv_at hl 1 rfl) ?_
          refine lv_dup2_11 hx hb dX3_absorb_25 rfl rfl ?_
          obtain ⟨b21, h22⟩ := h20
          refine zr_iald (n := 120) (f := co) (i := keeper) hx hb hK hP 2 rfl r_keeper b21 dX3_absorb_26 ?_
          refine lv_aload_n hx hb dX3_absorb_27 rfl (lv_at hl 0 rfl) ?_
          refine va_get (v := .ref a2) (ci := 3) (C := RX3) (T := TX3) (N := 4) hx hb hts imX3_absorb_X3 hown hK hP 0 rfl rfl 1 (by decide) k1 (fun _ h9 => h9) rfl dX3_absorb_28 ?_
          refine lv_iload_n hx hb dX3_absorb_31 rfl (lv_at hl 2 rfl) ?_
          obtain ⟨b23, h24⟩ := h22
          refine zr_iald (n := 120) (f := co) (i := row) hx hb hK hP 2 rfl r_row b23 dX3_absorb_32 ?_
          refine zr_iadd (x := co keeper) (y := co row) hx hb dX3_absorb_33 ?_
          obtain ⟨r25, h26⟩ := h24
          refine zr_iast (n := 120) (f := co) (i := keeper) (x := (co keeper) + (co row)) hx hb hK hP hD hS 2 rfl r_keeper b21 dX3_absorb_34 (fun H locs hP hD hS => ?_)
          have hP : va_P G.1 vwCl (W3 G a0 a1 a2 a3 ke (uZ co keeper ((co keeper) + (co row))) ne to) H := hP
          have hD : va_D A (W3 G a0 a1 a2 a3 ke (uZ co keeper ((co keeper) + (co row))) ne to) := hD
          refine lv_aload_n hx hb dX3_absorb_35 rfl (lv_at hl 0 rfl) ?_
          refine va_get (v := .ref a2) (ci := 3) (C := RX3) (T := TX3) (N := 4) hx hb hts imX3_absorb_X3 hown hK hP 0 rfl rfl 1 (by decide) k1 (fun _ h9 => h9) rfl dX3_absorb_36 ?_
          refine lv_iload_n hx hb dX3_absorb_39 rfl (lv_at hl 2 rfl) ?_
          refine lv_iconst (v := iI 0) hx hb dX3_absorb_40 rfl ?_
          refine zr_iast (n := 120) (f := uZ co keeper ((co keeper) + (co row))) (i := row) (x := 0) hx hb hK hP hD hS 2 rfl r_row b23 dX3_absorb_41 (fun H locs hP hD hS => ?_)
          have hP : va_P G.1 vwCl (W3 G a0 a1 a2 a3 ke (uZ (uZ co keeper ((co keeper) + (co row))) row 0) ne to) H := hP
          have hD : va_D A (W3 G a0 a1 a2 a3 ke (uZ (uZ co keeper ((co keeper) + (co row))) row 0) ne to) := hD
          exact zr_vret hx hb hr hlocks hK (uZ (uZ co keeper ((co keeper) + (co row))) row 0) hP hD hS dX3_absorb_42 ⟨(rgA_u (i := row) (rgA_u (i := keeper) r_co r25) rg_0), h26⟩
theorem c_X3_absorb (l : Launch) (G : ZG) (a0 : Nat) (a1 : Nat) (a2 : Nat) (a3 : Nat) (ke : Int → Int) (co : Int → Int) (ne : Int → Int) (to : Int) (keeper : Int) (row : Int)  (r_ke : rgA ke) (r_co : rgA co) (r_ne : rgA ne) (r_to : rg to) (r_keeper : rg keeper) (r_row : rg row) (p0 : 0 ≤ keeper ∧ keeper < 120) (p1 : 0 ≤ row ∧ row < 120) (p2 : rg (co keeper + co row)) : ZV l G yX3_absorb wsX3_absorb 0 0 [.ref a0, .int (iI keeper), .int (iI row)] (W3 G a0 a1 a2 a3 ke co ne to) (fun _ : Unit => W3 G a0 a1 a2 a3 ke (uZ (uZ co keeper (co keeper + co row)) row 0) ne to) (fun (_ : Unit) => rgA (uZ (uZ co keeper (co keeper + co row)) row 0)) := by
  refine ZV.fn (w1 := fun u : (Int → Int) => W3 G a0 a1 a2 a3 ke u ne to) (fun  u hq => ?_) (c0_X3_absorb l G a0 a1 a2 a3 ke co ne to keeper row (fun o0 => o0 = (uZ (uZ co keeper (co keeper + co row)) row 0)) r_ke r_co r_ne r_to r_keeper r_row (sp_X3_absorb ke co ne to keeper row r_ke r_co r_ne r_to r_keeper r_row p0 p1 p2))
  obtain ⟨ro0, eo0⟩ := hq
  exact ⟨by rw [eo0], (by rw [← eo0]; exact ro0)⟩
theorem imX3_rowsKept_X3 : ∀ w ∈ wsX30, w ∈ wsX3_rowsKept := fun _ h => (List.mem_cons_of_mem _ (List.mem_append_right _ h))
theorem hdX3_rowsKept : yX3_rowsKept.cls = RX3 ∧ yX3_rowsKept.cls ≠ "java/lang/invoke/MethodHandle" ∧ yX3_rowsKept.cls ≠ "java/lang/invoke/VarHandle" ∧ (parseMethodDescriptor yX3_rowsKept.desc).map (fun d => d.parameters.length) = some 0 := by decide +kernel
set_option maxRecDepth 100000 in
set_option maxHeartbeats 4000000 in
theorem c0_X3_rowsKept (l : Launch) (G : ZG) (a0 : Nat) (a1 : Nat) (a2 : Nat) (a3 : Nat) (ke : Int → Int) (co : Int → Int) (ne : Int → Int) (to : Int)  (P : Int → Prop) (r_ke : rgA ke) (r_co : rgA co) (r_ne : rgA ne) (r_to : rg to)  (hwp : wp_X3_rowsKept ke co ne to P) : ZI l G yX3_rowsKept wsX3_rowsKept 1 21 [.ref a0] (W3 G a0 a1 a2 a3 ke co ne to) (fun u : Unit => W3 G a0 a1 a2 a3 ke co ne to) (fun (z : Int) (u : Unit) => rg z ∧ P z) := by
  unfold wp_X3_rowsKept at hwp
  refine zm_i (cc := cX3_rowsKept) (maxL := 3) (ret := some .int) (own := RX3) (lvs := [(0, .ref a0)]) (by decide) rfl rfl (Nat.le_of_ble_eq_true rfl) rfl ?_
  intro p e sT m args below meth c ls A hx hb hr hml hown hts hlocks hK hP hD hS hA hl
  have k1 := hts (.fieldLink RX3 27 "GrantedSort$RowTable" "total" "I") (List.mem_of_getElem? (i := 1) rfl)
  refine lv_iconst (v := iI 0) hx hb dX3_rowsKept_0 rfl ?_
  refine lv_istore_n (lv' := [(1, .int (iI 0)), (0, .ref a0)]) hx hb dX3_rowsKept_1 rfl hl (by decide) rfl (fun ls hl => ?_)
  refine lv_iconst (v := iI 0) hx hb dX3_rowsKept_2 rfl ?_
  refine lv_istore_n (lv' := [(2, .int (iI 0)), (1, .int (iI 0)), (0, .ref a0)]) hx hb dX3_rowsKept_3 rfl hl (by decide) rfl (fun ls hl => ?_)
  obtain ⟨I2, μ3, h4, h5⟩ := hwp
  refine zr_loop (G := G) (σ := Int × Int) (fun x_1 => (rg x_1.1 ∧ rg x_1.2) ∧ I2 x_1.1 x_1.2) (fun x_1 => μ3 x_1.1 x_1.2) (fun x_1 => W3 G a0 a1 a2 a3 ke co ne to) (fun x_1 => [(2, .int (iI x_1.2)), (1, .int (iI x_1.1)), (0, .ref a0)]) ((0, 0)) ⟨⟨rg_0, rg_0⟩, h4⟩ hP hD hS (lv_sub hl [0, 1, 2] rfl) ?_
  clear hP hD hS hl
  intro x_1 H locs ls ih6 h7 hP hD hS hl
  obtain ⟨x1_1, x2_1⟩ := x_1
  obtain ⟨⟨rx1_1, rx2_1⟩, h7⟩ := h7
  have h8 := h5 x1_1 x2_1 rx1_1 rx2_1 h7
  have hP : va_P G.1 vwCl (W3 G a0 a1 a2 a3 ke co ne to) H := hP
  have hD : va_D A (W3 G a0 a1 a2 a3 ke co ne to) := hD
  have hl : lv_has ls 3 [(2, .int (iI x2_1)), (1, .int (iI x1_1)), (0, .ref a0)] := hl
  refine lv_iload_n hx hb dX3_rowsKept_4 rfl (lv_at hl 0 rfl) ?_
  refine lv_aload_n hx hb dX3_rowsKept_5 rfl (lv_at hl 2 rfl) ?_
  refine va_get (v := .int (iI to)) (ci := 3) (C := RX3) (T := TX3) (N := 4) hx hb hts imX3_rowsKept_X3 hown hK hP 0 rfl rfl 3 (by decide) k1 (fun _ h9 => h9) rfl dX3_rowsKept_6 ?_
  refine zr_icmp_ge (tgt := 29) (x := x2_1) (y := to) hx hb rx2_1 r_to dX3_rowsKept_9 (by decide) (fun c9 => ?_) (fun c9 => ?_)
  · have h12 := h8.2 c9
    refine lv_iload_n hx hb dX3_rowsKept_29 rfl (lv_at hl 1 rfl) ?_
    exact zr_iret (z := x1_1) hx hb hr hlocks hK () hP hD hS dX3_rowsKept_30 ⟨rx1_1, h12⟩
  · have h13 := h8.1 c9
    refine lv_aload_n hx hb dX3_rowsKept_12 rfl (lv_at hl 2 rfl) ?_
    refine lv_iload_n hx hb dX3_rowsKept_13 rfl (lv_at hl 0 rfl) ?_
    obtain ⟨b14, h15⟩ := h13
    refine zc_vi (As := [.int (iI x2_1)]) (rest := []) (w2 := fun u_16 => W3 G a0 a1 a2 a3 ke co ne to) (c_X3_countOf l G a0 a1 a2 a3 ke co ne to x2_1 r_ke r_co r_ne r_to rx2_1 b14) ⟨hx, hb, hml, hown, hts⟩ (cwV 1 hts gX3_rowsKept_X3_countOf rfl rfl rfl hdX3_countOf ⟨Nat.le_of_ble_eq_true rfl, Nat.le_of_ble_eq_true rfl⟩) hK hP hD hS hA (q0 := 0) rfl rfl [0, 1, 2, 3] [] [0, 1, 2, 3] rfl rfl rfl rfl (by decide) (fun _ => rfl) rfl rfl hl.1 rfl (Nat.le_of_ble_eq_true rfl) dX3_rowsKept_14 ⟨Nat.zero_le _, Nat.zero_le _⟩ (fun z17 u_16 H locs hw hP hD hS => ?_)
    obtain ⟨rfl, r18⟩ := hw
    have hP : va_P G.1 vwCl (W3 G a0 a1 a2 a3 ke co ne to) H := hP
    have hD : va_D A (W3 G a0 a1 a2 a3 ke co ne to) := hD
    refine zr_if_le (tgt := 23) (x := co x2_1) hx hb r18 dX3_rowsKept_17 (by decide) (fun c19 => ?_) (fun c19 => ?_)
    · have h22 := h15.2 c19
      obtain ⟨r23, h24⟩ := h22
      refine zr_iinc (x := x2_1) (lv' := [(2, .int (iI (x2_1 + 1))), (1, .int (iI x1_1)), (0, .ref a0)]) hx hb dX3_rowsKept_23 hl (k := 0) rfl (by decide) rfl (fun ls hl => ?_)
      refine lv_goto (tgt := 4) hx hb dX3_rowsKept_26 (by decide) ?_
      obtain ⟨h25, h26⟩ := h24
      exact ih6 ((x1_1, x2_1 + 1)) _ _ _ ⟨⟨rx1_1, r23⟩, h25⟩ h26 hP hD hS (lv_sub hl [0, 1, 2] rfl)
    · have h27 := h15.1 c19
      obtain ⟨r28, h29⟩ := h27
      refine zr_iinc (x := x1_1) (lv' := [(1, .int (iI (x1_1 + 1))), (2, .int (iI x2_1)), (0, .ref a0)]) hx hb dX3_rowsKept_20 hl (k := 1) rfl (by decide) rfl (fun ls hl => ?_)
      obtain ⟨r30, h31⟩ := h29
      refine zr_iinc (x := x2_1) (lv' := [(2, .int (iI (x2_1 + 1))), (1, .int (iI (x1_1 + 1))), (0, .ref a0)]) hx hb dX3_rowsKept_23 hl (k := 1) rfl (by decide) rfl (fun ls hl => ?_)
      refine lv_goto (tgt := 4) hx hb dX3_rowsKept_26 (by decide) ?_
      obtain ⟨h32, h33⟩ := h31
      exact ih6 ((x1_1 + 1, x2_1 + 1)) _ _ _ ⟨⟨r28, r30⟩, h32⟩ h33 hP hD hS (lv_sub hl [0, 1, 2] rfl)
theorem c_X3_rowsKept (l : Launch) (G : ZG) (a0 : Nat) (a1 : Nat) (a2 : Nat) (a3 : Nat) (ke : Int → Int) (co : Int → Int) (ne : Int → Int) (to : Int)   (r_ke : rgA ke) (r_co : rgA co) (r_ne : rgA ne) (r_to : rg to)  (p0 : 0 ≤ to ∧ to ≤ 120) : ZI l G yX3_rowsKept wsX3_rowsKept 1 21 [.ref a0] (W3 G a0 a1 a2 a3 ke co ne to) (fun _ : Unit => W3 G a0 a1 a2 a3 ke co ne to) (fun (z : Int) (_ : Unit) => z = (sumI (fun r => pz (0 < co r)) to.toNat) ∧ rg z) := by
  refine ZI.fn (w1 := fun u : Unit => W3 G a0 a1 a2 a3 ke co ne to) (fun z u hq => ?_) (c0_X3_rowsKept l G a0 a1 a2 a3 ke co ne to (fun z => z = (sumI (fun r => pz (0 < co r)) to.toNat)) r_ke r_co r_ne r_to  (sp_X3_rowsKept ke co ne to r_ke r_co r_ne r_to  p0))
  obtain ⟨rz, ez⟩ := hq
  exact ⟨rfl, ⟨ez, rz⟩⟩
theorem imX3_countsBelow_X3 : ∀ w ∈ wsX30, w ∈ wsX3_countsBelow := fun _ h => (List.mem_cons_of_mem _ (List.mem_append_right _ h))
theorem hdX3_countsBelow : yX3_countsBelow.cls = RX3 ∧ yX3_countsBelow.cls ≠ "java/lang/invoke/MethodHandle" ∧ yX3_countsBelow.cls ≠ "java/lang/invoke/VarHandle" ∧ (parseMethodDescriptor yX3_countsBelow.desc).map (fun d => d.parameters.length) = some 1 := by decide +kernel
set_option maxRecDepth 100000 in
set_option maxHeartbeats 4000000 in
theorem c0_X3_countsBelow (l : Launch) (G : ZG) (a0 : Nat) (a1 : Nat) (a2 : Nat) (a3 : Nat) (ke : Int → Int) (co : Int → Int) (ne : Int → Int) (to : Int) (key : Int) (P : Int → Prop) (r_ke : rgA ke) (r_co : rgA co) (r_ne : rgA ne) (r_to : rg to) (r_key : rg key) (hwp : wp_X3_countsBelow ke co ne to key P) : ZI l G yX3_countsBelow wsX3_countsBelow 1 21 [.ref a0, .int (iI key)] (W3 G a0 a1 a2 a3 ke co ne to) (fun u : Unit => W3 G a0 a1 a2 a3 ke co ne to) (fun (z : Int) (u : Unit) => rg z ∧ P z) := by
  unfold wp_X3_countsBelow at hwp
  refine zm_i (cc := cX3_countsBelow) (maxL := 4) (ret := some .int) (own := RX3) (lvs := [(0, .ref a0), (1, .int (iI key))]) (by decide) rfl rfl (Nat.le_of_ble_eq_true rfl) rfl ?_
  intro p e sT m args below meth c ls A hx hb hr hml hown hts hlocks hK hP hD hS hA hl
  have k1 := hts (.fieldLink RX3 27 "GrantedSort$RowTable" "total" "I") (List.mem_of_getElem? (i := 1) rfl)
  refine lv_iconst (v := iI 0) hx hb dX3_countsBelow_0 rfl ?_
  refine lv_istore_n (lv' := [(2, .int (iI 0)), (0, .ref a0), (1, .int (iI key))]) hx hb dX3_countsBelow_1 rfl hl (by decide) rfl (fun ls hl => ?_)
  refine lv_iconst (v := iI 0) hx hb dX3_countsBelow_2 rfl ?_
  refine lv_istore_n (lv' := [(3, .int (iI 0)), (2, .int (iI 0)), (0, .ref a0), (1, .int (iI key))]) hx hb dX3_countsBelow_3 rfl hl (by decide) rfl (fun ls hl => ?_)
  obtain ⟨I2, μ3, h4, h5⟩ := hwp
  refine zr_loop (G := G) (σ := Int × Int) (fun x_1 => (rg x_1.1 ∧ rg x_1.2) ∧ I2 x_1.1 x_1.2) (fun x_1 => μ3 x_1.1 x_1.2) (fun x_1 => W3 G a0 a1 a2 a3 ke co ne to) (fun x_1 => [(3, .int (iI x_1.2)), (2, .int (iI x_1.1)), (0, .ref a0), (1, .int (iI key))]) ((0, 0)) ⟨⟨rg_0, rg_0⟩, h4⟩ hP hD hS (lv_sub hl [0, 1, 2, 3] rfl) ?_
  clear hP hD hS hl
  intro x_1 H locs ls ih6 h7 hP hD hS hl
  obtain ⟨x2_1, x3_1⟩ := x_1
  obtain ⟨⟨rx2_1, rx3_1⟩, h7⟩ := h7
  have h8 := h5 x2_1 x3_1 rx2_1 rx3_1 h7
  have hP : va_P G.1 vwCl (W3 G a0 a1 a2 a3 ke co ne to) H := hP
  have hD : va_D A (W3 G a0 a1 a2 a3 ke co ne to) := hD
  have hl : lv_has ls 4 [(3, .int (iI x3_1)), (2, .int (iI x2_1)), (0, .ref a0), (1, .int (iI key))] := hl
  refine lv_iload_n hx hb dX3_countsBelow_4 rfl (lv_at hl 0 rfl) ?_
  refine lv_aload_n hx hb dX3_countsBelow_5 rfl (lv_at hl 2 rfl) ?_
  refine va_get (v := .int (iI to)) (ci := 3) (C := RX3) (T := TX3) (N := 4) hx hb hts imX3_countsBelow_X3 hown hK hP 0 rfl rfl 3 (by decide) k1 (fun _ h9 => h9) rfl dX3_countsBelow_6 ?_
  refine zr_icmp_ge (tgt := 35) (x := x3_1) (y := to) hx hb rx3_1 r_to dX3_countsBelow_9 (by decide) (fun c9 => ?_) (fun c9 => ?_)
  · have h12 := h8.2 c9
    refine lv_iload_n hx hb dX3_countsBelow_35 rfl (lv_at hl 1 rfl) ?_
    exact zr_iret (z := x2_1) hx hb hr hlocks hK () hP hD hS dX3_countsBelow_36 ⟨rx2_1, h12⟩
  · have h13 := h8.1 c9
    refine lv_aload_n hx hb dX3_countsBelow_12 rfl (lv_at hl 2 rfl) ?_
    refine lv_iload_n hx hb dX3_countsBelow_13 rfl (lv_at hl 0 rfl) ?_
    obtain ⟨b14, h15⟩ := h13
    refine zc_vi (As := [.int (iI x3_1)]) (rest := []) (w2 := fun u_16 => W3 G a0 a1 a2 a3 ke co ne to) (c_X3_keyOf l G a0 a1 a2 a3 ke co ne to x3_1 r_ke r_co r_ne r_to rx3_1 b14) ⟨hx, hb, hml, hown, hts⟩ (cwV 1 hts gX3_countsBelow_X3_keyOf rfl rfl rfl hdX3_keyOf ⟨Nat.le_of_ble_eq_true rfl, Nat.le_of_ble_eq_true rfl⟩) hK hP hD hS hA (q0 := 0) rfl rfl [0, 1, 2, 3] [] [0, 1, 2, 3] rfl rfl rfl rfl (by decide) (fun _ => rfl) rfl rfl hl.1 rfl (Nat.le_of_ble_eq_true rfl) dX3_countsBelow_14 ⟨Nat.zero_le _, Nat.zero_le _⟩ (fun z17 u_16 H locs hw hP hD hS => ?_)
    obtain ⟨rfl, r18⟩ := hw
    have hP : va_P G.1 vwCl (W3 G a0 a1 a2 a3 ke co ne to) H := hP
    have hD : va_D A (W3 G a0 a1 a2 a3 ke co ne to) := hD
    refine lv_iload_n hx hb dX3_countsBelow_17 rfl (lv_at hl 3 rfl) ?_
    refine zr_icmp_ge (tgt := 29) (x := ke x3_1) (y := key) hx hb r18 r_key dX3_countsBelow_18 (by decide) (fun c19 => ?_) (fun c19 => ?_)
    · have h22 := h15.2 c19
      obtain ⟨r23, h24⟩ := h22
      refine zr_iinc (x := x3_1) (lv' := [(3, .int (iI (x3_1 + 1))), (2, .int (iI x2_1)), (0, .ref a0), (1, .int (iI key))]) hx hb dX3_countsBelow_29 hl (k := 0) rfl (by decide) rfl (fun ls hl => ?_)
      refine lv_goto (tgt := 4) hx hb dX3_countsBelow_32 (by decide) ?_
      obtain ⟨h25, h26⟩ := h24
      exact ih6 ((x2_1, x3_1 + 1)) _ _ _ ⟨⟨rx2_1, r23⟩, h25⟩ h26 hP hD hS (lv_sub hl [0, 1, 2, 3] rfl)
    · have h27 := h15.1 c19
      refine lv_iload_n hx hb dX3_countsBelow_21 rfl (lv_at hl 1 rfl) ?_
      refine lv_aload_n hx hb dX3_countsBelow_22 rfl (lv_at hl 2 rfl) ?_
      refine lv_iload_n hx hb dX3_countsBelow_23 rfl (lv_at hl 0 rfl) ?_
      refine zc_vi (As := [.int (iI x3_1)]) (rest := [.int (iI x2_1)]) (w2 := fun u_28 => W3 G a0 a1 a2 a3 ke co ne to) (c_X3_countOf l G a0 a1 a2 a3 ke co ne to x3_1 r_ke r_co r_ne r_to rx3_1 b14) ⟨hx, hb, hml, hown, hts⟩ (cwV 1 hts gX3_countsBelow_X3_countOf rfl rfl rfl hdX3_countOf ⟨Nat.le_of_ble_eq_true rfl, Nat.le_of_ble_eq_true rfl⟩) hK hP hD hS hA (q0 := 0) rfl rfl [0, 1, 2, 3] [] [0, 1, 2, 3] rfl rfl rfl rfl (by decide) (fun _ => rfl) rfl rfl hl.1 rfl (Nat.le_of_ble_eq_true rfl) dX3_countsBelow_24 ⟨Nat.zero_le _, Nat.zero_le _⟩ (fun z29 u_28 H locs hw hP hD hS => ?_)
      obtain ⟨rfl, r30⟩ := hw
      have hP : va_P G.1 vwCl (W3 G a0 a1 a2 a3 ke co ne to) H := hP
      have hD : va_D A (W3 G a0 a1 a2 a3 ke co ne to) := hD
      refine zr_iadd (x := x2_1) (y := co x3_1) hx hb dX3_countsBelow_27 ?_
      obtain ⟨r31, h32⟩ := h27
      refine lv_istore_n (lv' := [(2, .int (iI (x2_1 + (co x3_1)))), (3, .int (iI x3_1)), (0, .ref a0), (1, .int (iI key))]) hx hb dX3_countsBelow_28 rfl hl (by decide) rfl (fun ls hl => ?_)
      obtain ⟨r33, h34⟩ := h32
      refine zr_iinc (x := x3_1) (lv' := [(3, .int (iI (x3_1 + 1))), (2, .int (iI (x2_1 + (co x3_1)))), (0, .ref a0), (1, .int (iI key))]) hx hb dX3_countsBelow_29 hl (k := 1) rfl (by decide) rfl (fun ls hl => ?_)
      refine lv_goto (tgt := 4) hx hb dX3_countsBelow_32 (by decide) ?_
      obtain ⟨h35, h36⟩ := h34
      exact ih6 ((x2_1 + (co x3_1), x3_1 + 1)) _ _ _ ⟨⟨r31, r33⟩, h35⟩ h36 hP hD hS (lv_sub hl [0, 1, 2, 3] rfl)
theorem c_X3_countsBelow (l : Launch) (G : ZG) (a0 : Nat) (a1 : Nat) (a2 : Nat) (a3 : Nat) (ke : Int → Int) (co : Int → Int) (ne : Int → Int) (to : Int) (key : Int)  (r_ke : rgA ke) (r_co : rgA co) (r_ne : rgA ne) (r_to : rg to) (r_key : rg key) (p0 : 0 ≤ to ∧ to ≤ 120) (p1 : ∀ r, 0 ≤ r → r < to → 0 ≤ co r ∧ co r ≤ 120) : ZI l G yX3_countsBelow wsX3_countsBelow 1 21 [.ref a0, .int (iI key)] (W3 G a0 a1 a2 a3 ke co ne to) (fun _ : Unit => W3 G a0 a1 a2 a3 ke co ne to) (fun (z : Int) (_ : Unit) => z = (sumI (fun r => if ke r < key then co r else 0) to.toNat) ∧ rg z) := by
  refine ZI.fn (w1 := fun u : Unit => W3 G a0 a1 a2 a3 ke co ne to) (fun z u hq => ?_) (c0_X3_countsBelow l G a0 a1 a2 a3 ke co ne to key (fun z => z = (sumI (fun r => if ke r < key then co r else 0) to.toNat)) r_ke r_co r_ne r_to r_key (sp_X3_countsBelow ke co ne to key r_ke r_co r_ne r_to r_key p0 p1))
  obtain ⟨rz, ez⟩ := hq
  exact ⟨rfl, ⟨ez, rz⟩⟩
theorem imX3_copyFrom_X3 : ∀ w ∈ wsX30, w ∈ wsX3_copyFrom := fun _ h => (List.mem_cons_of_mem _ (List.mem_append_right _ h))
theorem hdX3_copyFrom : yX3_copyFrom.cls = RX3 ∧ yX3_copyFrom.cls ≠ "java/lang/invoke/MethodHandle" ∧ yX3_copyFrom.cls ≠ "java/lang/invoke/VarHandle" ∧ (parseMethodDescriptor yX3_copyFrom.desc).map (fun d => d.parameters.length) = some 1 := by decide +kernel
set_option maxRecDepth 100000 in
set_option maxHeartbeats 4000000 in
theorem c0_X3_copyFrom (l : Launch) (G : ZG) (a0 : Nat) (a1 : Nat) (a2 : Nat) (a3 : Nat) (o_a0 : Nat) (o_a1 : Nat) (o_a2 : Nat) (o_a3 : Nat) (ke : Int → Int) (co : Int → Int) (ne : Int → Int) (to : Int) (o_ke : Int → Int) (o_co : Int → Int) (o_ne : Int → Int) (o_to : Int)  (P : (Int → Int) → (Int → Int) → (Int → Int) → Int → Prop) (r_ke : rgA ke) (r_co : rgA co) (r_ne : rgA ne) (r_to : rg to) (r_o_ke : rgA o_ke) (r_o_co : rgA o_co) (r_o_ne : rgA o_ne) (r_o_to : rg o_to)  (hwp : wp_X3_copyFrom ke co ne to o_ke o_co o_ne o_to P) : ZV l G yX3_copyFrom wsX3_copyFrom 1 40 [.ref a0, .ref o_a0] (W3 G a0 a1 a2 a3 ke co ne to ++ (W3 G o_a0 o_a1 o_a2 o_a3 o_ke o_co o_ne o_to)) (fun u : (Int → Int) × (Int → Int) × (Int → Int) × Int => W3 G a0 a1 a2 a3 u.1 u.2.1 u.2.2.1 u.2.2.2 ++ (W3 G o_a0 o_a1 o_a2 o_a3 o_ke o_co o_ne o_to)) (fun (u : (Int → Int) × (Int → Int) × (Int → Int) × Int) => rgA u.1 ∧ rgA u.2.1 ∧ rgA u.2.2.1 ∧ rg u.2.2.2 ∧ P u.1 u.2.1 u.2.2.1 u.2.2.2) := by
  unfold wp_X3_copyFrom at hwp
  refine zm_v (cc := cX3_copyFrom) (maxL := 2) (ret := none) (own := RX3) (lvs := [(0, .ref a0), (1, .ref o_a0)]) (by decide) rfl rfl (Nat.le_of_ble_eq_true rfl) rfl ?_
  intro p e sT m args below meth c ls A hx hb hr hml hown hts hlocks hK hP hD hS hA hl
  have k1 := hts (.fieldLink RX3 9 "GrantedSort$RowTable" "keys" "[I") (List.mem_of_getElem? (i := 1) rfl)
  have k2 := hts (.methodLink RX3 21 arraycopyName) (List.mem_of_getElem? (i := 2) rfl)
  have k3 := hts (.native arraycopyName) (List.mem_of_getElem? (i := 3) rfl)
  have k4 := hts (.static arraycopyName) (List.mem_of_getElem? (i := 4) rfl)
  have k5 := hts (.initialized "java/lang/System") (List.mem_of_getElem? (i := 5) rfl)
  have k6 := hts (.fieldLink RX3 15 "GrantedSort$RowTable" "counts" "[I") (List.mem_of_getElem? (i := 6) rfl)
  have k7 := hts (.fieldLink RX3 18 "GrantedSort$RowTable" "nexts" "[I") (List.mem_of_getElem? (i := 7) rfl)
  have k8 := hts (.fieldLink RX3 27 "GrantedSort$RowTable" "total" "I") (List.mem_of_getElem? (i := 8) rfl)
  refine lv_aload_n hx hb dX3_copyFrom_0 rfl (lv_at hl 1 rfl) ?_
  refine va_get (v := .ref o_a1) (ci := 3) (C := RX3) (T := TX3) (N := 4) hx hb hts imX3_copyFrom_X3 hown hK hP 4 rfl rfl 0 (by decide) k1 (fun _ h9 => h9) rfl dX3_copyFrom_1 ?_
  refine lv_iconst (v := iI 0) hx hb dX3_copyFrom_4 rfl ?_
  refine lv_aload_n hx hb dX3_copyFrom_5 rfl (lv_at hl 0 rfl) ?_
  refine va_get (v := .ref a1) (ci := 3) (C := RX3) (T := TX3) (N := 4) hx hb hts imX3_copyFrom_X3 hown hK hP 0 rfl rfl 0 (by decide) k1 (fun _ h9 => h9) rfl dX3_copyFrom_6 ?_
  refine lv_iconst (v := iI 0) hx hb dX3_copyFrom_9 rfl ?_
  refine lv_bipush (v := iI 120) hx hb dX3_copyFrom_10 (by decide) ?_
  refine zr_copyAll (n0 := 120) (f := o_ke) (g := ke) hx hb (hml.trans hl.1.symm) hown k2 k3 k4 k5 hK hP hD hS 5 1 rfl rfl rg_120 (by decide) rfl (Nat.le_of_ble_eq_true rfl) (Nat.le_of_ble_eq_true rfl) dX3_copyFrom_12 (fun H locs hP hD hS => ?_)
  have hP : va_P G.1 vwCl (W3 G a0 a1 a2 a3 o_ke co ne to ++ (W3 G o_a0 o_a1 o_a2 o_a3 o_ke o_co o_ne o_to)) H := hP
  have hD : va_D A (W3 G a0 a1 a2 a3 o_ke co ne to ++ (W3 G o_a0 o_a1 o_a2 o_a3 o_ke o_co o_ne o_to)) := hD
  refine lv_aload_n hx hb dX3_copyFrom_15 rfl (lv_at hl 1 rfl) ?_
  refine va_get (v := .ref o_a2) (ci := 3) (C := RX3) (T := TX3) (N := 4) hx hb hts imX3_copyFrom_X3 hown hK hP 4 rfl rfl 1 (by decide) k6 (fun _ h9 => h9) rfl dX3_copyFrom_16 ?_
  refine lv_iconst (v := iI 0) hx hb dX3_copyFrom_19 rfl ?_
  refine lv_aload_n hx hb dX3_copyFrom_20 rfl (lv_at hl 0 rfl) ?_
  refine va_get (v := .ref a2) (ci := 3) (C := RX3) (T := TX3) (N := 4) hx hb hts imX3_copyFrom_X3 hown hK hP 0 rfl rfl 1 (by decide) k6 (fun _ h9 => h9) rfl dX3_copyFrom_21 ?_
  refine lv_iconst (v := iI 0) hx hb dX3_copyFrom_24 rfl ?_
  refine lv_bipush (v := iI 120) hx hb dX3_copyFrom_25 (by decide) ?_
  refine zr_copyAll (n0 := 120) (f := o_co) (g := co) hx hb (hml.trans hl.1.symm) hown k2 k3 k4 k5 hK hP hD hS 6 2 rfl rfl rg_120 (by decide) rfl (Nat.le_of_ble_eq_true rfl) (Nat.le_of_ble_eq_true rfl) dX3_copyFrom_27 (fun H locs hP hD hS => ?_)
  have hP : va_P G.1 vwCl (W3 G a0 a1 a2 a3 o_ke o_co ne to ++ (W3 G o_a0 o_a1 o_a2 o_a3 o_ke o_co o_ne o_to)) H := hP
  have hD : va_D A (W3 G a0 a1 a2 a3 o_ke o_co ne to ++ (W3 G o_a0 o_a1 o_a2 o_a3 o_ke o_co o_ne o_to)) := hD
  refine lv_aload_n hx hb dX3_copyFrom_30 rfl (lv_at hl 1 rfl) ?_
  refine va_get (v := .ref o_a3) (ci := 3) (C := RX3) (T := TX3) (N := 4) hx hb hts imX3_copyFrom_X3 hown hK hP 4 rfl rfl 2 (by decide) k7 (fun _ h9 => h9) rfl dX3_copyFrom_31 ?_
  refine lv_iconst (v := iI 0) hx hb dX3_copyFrom_34 rfl ?_
  refine lv_aload_n hx hb dX3_copyFrom_35 rfl (lv_at hl 0 rfl) ?_
  refine va_get (v := .ref a3) (ci := 3) (C := RX3) (T := TX3) (N := 4) hx hb hts imX3_copyFrom_X3 hown hK hP 0 rfl rfl 2 (by decide) k7 (fun _ h9 => h9) rfl dX3_copyFrom_36 ?_
  refine lv_iconst (v := iI 0) hx hb dX3_copyFrom_39 rfl ?_
  refine lv_bipush (v := iI 120) hx hb dX3_copyFrom_40 (by decide) ?_
  refine zr_copyAll (n0 := 120) (f := o_ne) (g := ne) hx hb (hml.trans hl.1.symm) hown k2 k3 k4 k5 hK hP hD hS 7 3 rfl rfl rg_120 (by decide) rfl (Nat.le_of_ble_eq_true rfl) (Nat.le_of_ble_eq_true rfl) dX3_copyFrom_42 (fun H locs hP hD hS => ?_)
  have hP : va_P G.1 vwCl (W3 G a0 a1 a2 a3 o_ke o_co o_ne to ++ (W3 G o_a0 o_a1 o_a2 o_a3 o_ke o_co o_ne o_to)) H := hP
  have hD : va_D A (W3 G a0 a1 a2 a3 o_ke o_co o_ne to ++ (W3 G o_a0 o_a1 o_a2 o_a3 o_ke o_co o_ne o_to)) := hD
  refine lv_aload_n hx hb dX3_copyFrom_45 rfl (lv_at hl 0 rfl) ?_
  refine lv_aload_n hx hb dX3_copyFrom_46 rfl (lv_at hl 1 rfl) ?_
  refine va_get (v := .int (iI o_to)) (ci := 3) (C := RX3) (T := TX3) (N := 4) hx hb hts imX3_copyFrom_X3 hown hK hP 4 rfl rfl 3 (by decide) k8 (fun _ h9 => h9) rfl dX3_copyFrom_47 ?_
  refine va_put (v := .int (iI o_to)) (ty := .int) (ci := 3) (C := RX3) (T := TX3) (N := 4) hx hb hts imX3_copyFrom_X3 tyX3 tyX3_ok nmX3 hown hK hP hD hS 0 rfl rfl 3 (by decide) k8 (fun _ h9 => h9) rfl (tyX3_ok 3 (by decide)) rfl rfl (Nat.le_of_ble_eq_true rfl) dX3_copyFrom_50 (fun H locs hP hD hS => ?_)
  have hP : va_P G.1 vwCl (W3 G a0 a1 a2 a3 o_ke o_co o_ne o_to ++ (W3 G o_a0 o_a1 o_a2 o_a3 o_ke o_co o_ne o_to)) H := hP
  have hD : va_D A (W3 G a0 a1 a2 a3 o_ke o_co o_ne o_to ++ (W3 G o_a0 o_a1 o_a2 o_a3 o_ke o_co o_ne o_to)) := hD
  exact zr_vret hx hb hr hlocks hK ((o_ke, o_co, o_ne, o_to)) hP hD hS dX3_copyFrom_53 ⟨r_o_ke, r_o_co, r_o_ne, r_o_to, hwp⟩
theorem c_X3_copyFrom (l : Launch) (G : ZG) (a0 : Nat) (a1 : Nat) (a2 : Nat) (a3 : Nat) (o_a0 : Nat) (o_a1 : Nat) (o_a2 : Nat) (o_a3 : Nat) (ke : Int → Int) (co : Int → Int) (ne : Int → Int) (to : Int) (o_ke : Int → Int) (o_co : Int → Int) (o_ne : Int → Int) (o_to : Int)   (r_ke : rgA ke) (r_co : rgA co) (r_ne : rgA ne) (r_to : rg to) (r_o_ke : rgA o_ke) (r_o_co : rgA o_co) (r_o_ne : rgA o_ne) (r_o_to : rg o_to)   : ZV l G yX3_copyFrom wsX3_copyFrom 1 40 [.ref a0, .ref o_a0] (W3 G a0 a1 a2 a3 ke co ne to ++ (W3 G o_a0 o_a1 o_a2 o_a3 o_ke o_co o_ne o_to)) (fun _ : Unit => W3 G a0 a1 a2 a3 o_ke o_co o_ne o_to ++ (W3 G o_a0 o_a1 o_a2 o_a3 o_ke o_co o_ne o_to)) (fun (_ : Unit) => rgA o_ke ∧ rgA o_co ∧ rgA o_ne ∧ rg o_to) := by
  refine ZV.fn (w1 := fun u : (Int → Int) × (Int → Int) × (Int → Int) × Int => W3 G a0 a1 a2 a3 u.1 u.2.1 u.2.2.1 u.2.2.2 ++ (W3 G o_a0 o_a1 o_a2 o_a3 o_ke o_co o_ne o_to)) (fun  u hq => ?_) (c0_X3_copyFrom l G a0 a1 a2 a3 o_a0 o_a1 o_a2 o_a3 ke co ne to o_ke o_co o_ne o_to (fun o0 o1 o2 o3 => o0 = o_ke ∧ o1 = o_co ∧ o2 = o_ne ∧ o3 = o_to) r_ke r_co r_ne r_to r_o_ke r_o_co r_o_ne r_o_to  (sp_X3_copyFrom ke co ne to o_ke o_co o_ne o_to r_ke r_co r_ne r_to r_o_ke r_o_co r_o_ne r_o_to  ))
  obtain ⟨ro0, ro1, ro2, ro3, ⟨eo0, eo1, eo2, eo3⟩⟩ := hq
  exact ⟨by rw [eo0, eo1, eo2, eo3], ⟨(by rw [← eo0]; exact ro0), (by rw [← eo1]; exact ro1), (by rw [← eo2]; exact ro2), (by rw [← eo3]; exact ro3)⟩⟩
theorem imX4_has_X4 : ∀ w ∈ wsX40, w ∈ wsX4_has := fun _ h => (List.mem_cons_of_mem _ (List.mem_append_right _ h))
theorem hdX4_has : yX4_has.cls = RX4 ∧ yX4_has.cls ≠ "java/lang/invoke/MethodHandle" ∧ yX4_has.cls ≠ "java/lang/invoke/VarHandle" ∧ (parseMethodDescriptor yX4_has.desc).map (fun d => d.parameters.length) = some 1 := by decide +kernel
set_option maxRecDepth 100000 in
set_option maxHeartbeats 4000000 in
theorem c0_X4_has (l : Launch) (G : ZG) (a0 : Nat) (a1 : Nat) (a2 : Nat) (a3 : Nat) (nu : Int → Int) (fi : Int → Int) (le : Int → Int) (to : Int) (place : Int) (P : Int → Prop) (r_nu : rgA nu) (r_fi : rgA fi) (r_le : rgA le) (r_to : rg to) (r_place : rg place) (hwp : wp_X4_has nu fi le to place P) : ZI l G yX4_has wsX4_has 0 0 [.ref a0, .int (iI place)] (W4 G a0 a1 a2 a3 nu fi le to) (fun u : Unit => W4 G a0 a1 a2 a3 nu fi le to) (fun (z : Int) (u : Unit) => rg z ∧ P z) := by
  unfold wp_X4_has at hwp
  refine zm_i (cc := cX4_has) (maxL := 2) (ret := some .boolean) (own := RX4) (lvs := [(0, .ref a0), (1, .int (iI place))]) (by decide) rfl rfl (Nat.le_of_ble_eq_true rfl) rfl ?_
  intro p e sT m args below meth c ls A hx hb hr hml hown hts hlocks hK hP hD hS hA hl
  have k1 := hts (.fieldLink RX4 27 "GrantedSort$RunList" "total" "I") (List.mem_of_getElem? (i := 1) rfl)
  refine lv_iload_n hx hb dX4_has_0 rfl (lv_at hl 1 rfl) ?_
  refine zr_if_lt (tgt := 16) (x := place) hx hb r_place dX4_has_1 (by decide) (fun c1 => ?_) (fun c1 => ?_)
  · have h4 := hwp.1 c1
    refine lv_iconst (v := iI 0) hx hb dX4_has_16 rfl ?_
    exact zr_zret (z := 0) hx hb hr hlocks hK (Or.inl rfl) () hP hD hS dX4_has_17 ⟨rg_0, h4⟩
  · have h5 := hwp.2 c1
    refine lv_iload_n hx hb dX4_has_4 rfl (lv_at hl 1 rfl) ?_
    refine lv_aload_n hx hb dX4_has_5 rfl (lv_at hl 0 rfl) ?_
    refine va_get (v := .int (iI to)) (ci := 4) (C := RX4) (T := TX4) (N := 4) hx hb hts imX4_has_X4 hown hK hP 0 rfl rfl 3 (by decide) k1 (fun _ h9 => h9) rfl dX4_has_6 ?_
    refine zr_icmp_ge (tgt := 16) (x := place) (y := to) hx hb r_place r_to dX4_has_9 (by decide) (fun c6 => ?_) (fun c6 => ?_)
    · have h9 := h5.2 c6
      refine lv_iconst (v := iI 0) hx hb dX4_has_16 rfl ?_
      exact zr_zret (z := 0) hx hb hr hlocks hK (Or.inl rfl) () hP hD hS dX4_has_17 ⟨rg_0, h9⟩
    · have h10 := h5.1 c6
      refine lv_iconst (v := iI 1) hx hb dX4_has_12 rfl ?_
      refine lv_goto (tgt := 17) hx hb dX4_has_13 (by decide) ?_
      exact zr_zret (z := 1) hx hb hr hlocks hK (Or.inr rfl) () hP hD hS dX4_has_17 ⟨rg_1, h10⟩
theorem c_X4_has (l : Launch) (G : ZG) (a0 : Nat) (a1 : Nat) (a2 : Nat) (a3 : Nat) (nu : Int → Int) (fi : Int → Int) (le : Int → Int) (to : Int) (place : Int)  (r_nu : rgA nu) (r_fi : rgA fi) (r_le : rgA le) (r_to : rg to) (r_place : rg place)  : ZI l G yX4_has wsX4_has 0 0 [.ref a0, .int (iI place)] (W4 G a0 a1 a2 a3 nu fi le to) (fun _ : Unit => W4 G a0 a1 a2 a3 nu fi le to) (fun (z : Int) (_ : Unit) => z = (pz (0 ≤ place ∧ place < to)) ∧ rg z) := by
  refine ZI.fn (w1 := fun u : Unit => W4 G a0 a1 a2 a3 nu fi le to) (fun z u hq => ?_) (c0_X4_has l G a0 a1 a2 a3 nu fi le to place (fun z => z = (pz (0 ≤ place ∧ place < to))) r_nu r_fi r_le r_to r_place (sp_X4_has nu fi le to place r_nu r_fi r_le r_to r_place ))
  obtain ⟨rz, ez⟩ := hq
  exact ⟨rfl, ⟨ez, rz⟩⟩
theorem imX4_numberAt_X4 : ∀ w ∈ wsX40, w ∈ wsX4_numberAt := fun _ h => (List.mem_cons_of_mem _ (List.mem_append_right _ h))
theorem hdX4_numberAt : yX4_numberAt.cls = RX4 ∧ yX4_numberAt.cls ≠ "java/lang/invoke/MethodHandle" ∧ yX4_numberAt.cls ≠ "java/lang/invoke/VarHandle" ∧ (parseMethodDescriptor yX4_numberAt.desc).map (fun d => d.parameters.length) = some 1 := by decide +kernel
set_option maxRecDepth 100000 in
set_option maxHeartbeats 4000000 in
theorem c0_X4_numberAt (l : Launch) (G : ZG) (a0 : Nat) (a1 : Nat) (a2 : Nat) (a3 : Nat) (nu : Int → Int) (fi : Int → Int) (le : Int → Int) (to : Int) (place : Int) (P : Int → Prop) (r_nu : rgA nu) (r_fi : rgA fi) (r_le : rgA le) (r_to : rg to) (r_place : rg place) (hwp : wp_X4_numberAt nu fi le to place P) : ZI l G yX4_numberAt wsX4_numberAt 0 0 [.ref a0, .int (iI place)] (W4 G a0 a1 a2 a3 nu fi le to) (fun u : Unit => W4 G a0 a1 a2 a3 nu fi le to) (fun (z : Int) (u : Unit) => rg z ∧ P z) := by
  unfold wp_X4_numberAt at hwp
  refine zm_i (cc := cX4_numberAt) (maxL := 2) (ret := some .int) (own := RX4) (lvs := [(0, .ref a0), (1, .int (iI place))]) (by decide) rfl rfl (Nat.le_of_ble_eq_true rfl) rfl ?_
  intro p e sT m args below meth c ls A hx hb hr hml hown hts hlocks hK hP hD hS hA hl
  have k1 := hts (.fieldLink RX4 9 "GrantedSort$RunList" "numbers" "[I") (List.mem_of_getElem? (i := 1) rfl)
  refine lv_iload_n hx hb dX4_numberAt_0 rfl (lv_at hl 1 rfl) ?_
  refine zr_if_lt (tgt := 19) (x := place) hx hb r_place dX4_numberAt_1 (by decide) (fun c1 => ?_) (fun c1 => ?_)
  · have h4 := hwp.1 c1
    refine lv_iconst (v := iI (-1)) hx hb dX4_numberAt_19 rfl ?_
    exact zr_iret (z := (-1)) hx hb hr hlocks hK () hP hD hS dX4_numberAt_20 ⟨rg_m1, h4⟩
  · have h5 := hwp.2 c1
    refine lv_iload_n hx hb dX4_numberAt_4 rfl (lv_at hl 1 rfl) ?_
    refine lv_bipush (v := iI 120) hx hb dX4_numberAt_5 (by decide) ?_
    refine zr_icmp_ge (tgt := 19) (x := place) (y := 120) hx hb r_place rg_120 dX4_numberAt_7 (by decide) (fun c6 => ?_) (fun c6 => ?_)
    · have h9 := h5.2 c6
      refine lv_iconst (v := iI (-1)) hx hb dX4_numberAt_19 rfl ?_
      exact zr_iret (z := (-1)) hx hb hr hlocks hK () hP hD hS dX4_numberAt_20 ⟨rg_m1, h9⟩
    · have h10 := h5.1 c6
      refine lv_aload_n hx hb dX4_numberAt_10 rfl (lv_at hl 0 rfl) ?_
      refine va_get (v := .ref a1) (ci := 4) (C := RX4) (T := TX4) (N := 4) hx hb hts imX4_numberAt_X4 hown hK hP 0 rfl rfl 0 (by decide) k1 (fun _ h9 => h9) rfl dX4_numberAt_11 ?_
      refine lv_iload_n hx hb dX4_numberAt_14 rfl (lv_at hl 1 rfl) ?_
      obtain ⟨b11, h12⟩ := h10
      refine zr_iald (n := 120) (f := nu) (i := place) hx hb hK hP 1 rfl r_place b11 dX4_numberAt_15 ?_
      refine lv_goto (tgt := 20) hx hb dX4_numberAt_16 (by decide) ?_
      exact zr_iret (z := nu place) hx hb hr hlocks hK () hP hD hS dX4_numberAt_20 ⟨(r_nu place), h12⟩
theorem c_X4_numberAt (l : Launch) (G : ZG) (a0 : Nat) (a1 : Nat) (a2 : Nat) (a3 : Nat) (nu : Int → Int) (fi : Int → Int) (le : Int → Int) (to : Int) (place : Int)  (r_nu : rgA nu) (r_fi : rgA fi) (r_le : rgA le) (r_to : rg to) (r_place : rg place) (p0 : 0 ≤ place ∧ place < 120) : ZI l G yX4_numberAt wsX4_numberAt 0 0 [.ref a0, .int (iI place)] (W4 G a0 a1 a2 a3 nu fi le to) (fun _ : Unit => W4 G a0 a1 a2 a3 nu fi le to) (fun (z : Int) (_ : Unit) => z = (nu place) ∧ rg z) := by
  refine ZI.fn (w1 := fun u : Unit => W4 G a0 a1 a2 a3 nu fi le to) (fun z u hq => ?_) (c0_X4_numberAt l G a0 a1 a2 a3 nu fi le to place (fun z => z = (nu place)) r_nu r_fi r_le r_to r_place (sp_X4_numberAt nu fi le to place r_nu r_fi r_le r_to r_place p0))
  obtain ⟨rz, ez⟩ := hq
  exact ⟨rfl, ⟨ez, rz⟩⟩
theorem imX4_firstAt_X4 : ∀ w ∈ wsX40, w ∈ wsX4_firstAt := fun _ h => (List.mem_cons_of_mem _ (List.mem_append_right _ h))
theorem hdX4_firstAt : yX4_firstAt.cls = RX4 ∧ yX4_firstAt.cls ≠ "java/lang/invoke/MethodHandle" ∧ yX4_firstAt.cls ≠ "java/lang/invoke/VarHandle" ∧ (parseMethodDescriptor yX4_firstAt.desc).map (fun d => d.parameters.length) = some 1 := by decide +kernel
set_option maxRecDepth 100000 in
set_option maxHeartbeats 4000000 in
theorem c0_X4_firstAt (l : Launch) (G : ZG) (a0 : Nat) (a1 : Nat) (a2 : Nat) (a3 : Nat) (nu : Int → Int) (fi : Int → Int) (le : Int → Int) (to : Int) (place : Int) (P : Int → Prop) (r_nu : rgA nu) (r_fi : rgA fi) (r_le : rgA le) (r_to : rg to) (r_place : rg place) (hwp : wp_X4_firstAt nu fi le to place P) : ZI l G yX4_firstAt wsX4_firstAt 0 0 [.ref a0, .int (iI place)] (W4 G a0 a1 a2 a3 nu fi le to) (fun u : Unit => W4 G a0 a1 a2 a3 nu fi le to) (fun (z : Int) (u : Unit) => rg z ∧ P z) := by
  unfold wp_X4_firstAt at hwp
  refine zm_i (cc := cX4_firstAt) (maxL := 2) (ret := some .int) (own := RX4) (lvs := [(0, .ref a0), (1, .int (iI place))]) (by decide) rfl rfl (Nat.le_of_ble_eq_true rfl) rfl ?_
  intro p e sT m args below meth c ls A hx hb hr hml hown hts hlocks hK hP hD hS hA hl
  have k1 := hts (.fieldLink RX4 15 "GrantedSort$RunList" "firsts" "[I") (List.mem_of_getElem? (i := 1) rfl)
  refine lv_iload_n hx hb dX4_firstAt_0 rfl (lv_at hl 1 rfl) ?_
  refine zr_if_lt (tgt := 19) (x := place) hx hb r_place dX4_firstAt_1 (by decide) (fun c1 => ?_) (fun c1 => ?_)
  · have h4 := hwp.1 c1
    refine lv_iconst (v := iI (-1)) hx hb dX4_firstAt_19 rfl ?_
    exact zr_iret (z := (-1)) hx hb hr hlocks hK () hP hD hS dX4_firstAt_20 ⟨rg_m1, h4⟩
  · have h5 := hwp.2 c1
    refine lv_iload_n hx hb dX4_firstAt_4 rfl (lv_at hl 1 rfl) ?_
    refine lv_bipush (v := iI 120) hx hb dX4_firstAt_5 (by decide) ?_
    refine zr_icmp_ge (tgt := 19) (x := place) (y := 120) hx hb r_place rg_120 dX4_firstAt_7 (by decide) (fun c6 => ?_) (fun c6 => ?_)
    · have h9 := h5.2 c6
      refine lv_iconst (v := iI (-1)) hx hb dX4_firstAt_19 rfl ?_
      exact zr_iret (z := (-1)) hx hb hr hlocks hK () hP hD hS dX4_firstAt_20 ⟨rg_m1, h9⟩
    · have h10 := h5.1 c6
      refine lv_aload_n hx hb dX4_firstAt_10 rfl (lv_at hl 0 rfl) ?_
      refine va_get (v := .ref a2) (ci := 4) (C := RX4) (T := TX4) (N := 4) hx hb hts imX4_firstAt_X4 hown hK hP 0 rfl rfl 1 (by decide) k1 (fun _ h9 => h9) rfl dX4_firstAt_11 ?_
      refine lv_iload_n hx hb dX4_firstAt_14 rfl (lv_at hl 1 rfl) ?_
      obtain ⟨b11, h12⟩ := h10
      refine zr_iald (n := 120) (f := fi) (i := place) hx hb hK hP 2 rfl r_place b11 dX4_firstAt_15 ?_
      refine lv_goto (tgt := 20) hx hb dX4_firstAt_16 (by decide) ?_
      exact zr_iret (z := fi place) hx hb hr hlocks hK () hP hD hS dX4_firstAt_20 ⟨(r_fi place), h12⟩
theorem c_X4_firstAt (l : Launch) (G : ZG) (a0 : Nat) (a1 : Nat) (a2 : Nat) (a3 : Nat) (nu : Int → Int) (fi : Int → Int) (le : Int → Int) (to : Int) (place : Int)  (r_nu : rgA nu) (r_fi : rgA fi) (r_le : rgA le) (r_to : rg to) (r_place : rg place) (p0 : 0 ≤ place ∧ place < 120) : ZI l G yX4_firstAt wsX4_firstAt 0 0 [.ref a0, .int (iI place)] (W4 G a0 a1 a2 a3 nu fi le to) (fun _ : Unit => W4 G a0 a1 a2 a3 nu fi le to) (fun (z : Int) (_ : Unit) => z = (fi place) ∧ rg z) := by
  refine ZI.fn (w1 := fun u : Unit => W4 G a0 a1 a2 a3 nu fi le to) (fun z u hq => ?_) (c0_X4_firstAt l G a0 a1 a2 a3 nu fi le to place (fun z => z = (fi place)) r_nu r_fi r_le r_to r_place (sp_X4_firstAt nu fi le to place r_nu r_fi r_le r_to r_place p0))
  obtain ⟨rz, ez⟩ := hq
  exact ⟨rfl, ⟨ez, rz⟩⟩
theorem imX4_lengthAt_X4 : ∀ w ∈ wsX40, w ∈ wsX4_lengthAt := fun _ h => (List.mem_cons_of_mem _ (List.mem_append_right _ h))
theorem hdX4_lengthAt : yX4_lengthAt.cls = RX4 ∧ yX4_lengthAt.cls ≠ "java/lang/invoke/MethodHandle" ∧ yX4_lengthAt.cls ≠ "java/lang/invoke/VarHandle" ∧ (parseMethodDescriptor yX4_lengthAt.desc).map (fun d => d.parameters.length) = some 1 := by decide +kernel
set_option maxRecDepth 100000 in
set_option maxHeartbeats 4000000 in
theorem c0_X4_lengthAt (l : Launch) (G : ZG) (a0 : Nat) (a1 : Nat) (a2 : Nat) (a3 : Nat) (nu : Int → Int) (fi : Int → Int) (le : Int → Int) (to : Int) (place : Int) (P : Int → Prop) (r_nu : rgA nu) (r_fi : rgA fi) (r_le : rgA le) (r_to : rg to) (r_place : rg place) (hwp : wp_X4_lengthAt nu fi le to place P) : ZI l G yX4_lengthAt wsX4_lengthAt 0 0 [.ref a0, .int (iI place)] (W4 G a0 a1 a2 a3 nu fi le to) (fun u : Unit => W4 G a0 a1 a2 a3 nu fi le to) (fun (z : Int) (u : Unit) => rg z ∧ P z) := by
  unfold wp_X4_lengthAt at hwp
  refine zm_i (cc := cX4_lengthAt) (maxL := 2) (ret := some .int) (own := RX4) (lvs := [(0, .ref a0), (1, .int (iI place))]) (by decide) rfl rfl (Nat.le_of_ble_eq_true rfl) rfl ?_
  intro p e sT m args below meth c ls A hx hb hr hml hown hts hlocks hK hP hD hS hA hl
  have k1 := hts (.fieldLink RX4 18 "GrantedSort$RunList" "lengths" "[I") (List.mem_of_getElem? (i := 1) rfl)
  refine lv_iload_n hx hb dX4_lengthAt_0 rfl (lv_at hl 1 rfl) ?_
  refine zr_if_lt (tgt := 19) (x := place) hx hb r_place dX4_lengthAt_1 (by decide) (fun c1 => ?_) (fun c1 => ?_)
  · have h4 := hwp.1 c1
    refine lv_iconst (v := iI 0) hx hb dX4_lengthAt_19 rfl ?_
    exact zr_iret (z := 0) hx hb hr hlocks hK () hP hD hS dX4_lengthAt_20 ⟨rg_0, h4⟩
  · have h5 := hwp.2 c1
    refine lv_iload_n hx hb dX4_lengthAt_4 rfl (lv_at hl 1 rfl) ?_
    refine lv_bipush (v := iI 120) hx hb dX4_lengthAt_5 (by decide) ?_
    refine zr_icmp_ge (tgt := 19) (x := place) (y := 120) hx hb r_place rg_120 dX4_lengthAt_7 (by decide) (fun c6 => ?_) (fun c6 => ?_)
    · have h9 := h5.2 c6
      refine lv_iconst (v := iI 0) hx hb dX4_lengthAt_19 rfl ?_
      exact zr_iret (z := 0) hx hb hr hlocks hK () hP hD hS dX4_lengthAt_20 ⟨rg_0, h9⟩
    · have h10 := h5.1 c6
      refine lv_aload_n hx hb dX4_lengthAt_10 rfl (lv_at hl 0 rfl) ?_
      refine va_get (v := .ref a3) (ci := 4) (C := RX4) (T := TX4) (N := 4) hx hb hts imX4_lengthAt_X4 hown hK hP 0 rfl rfl 2 (by decide) k1 (fun _ h9 => h9) rfl dX4_lengthAt_11 ?_
      refine lv_iload_n hx hb dX4_lengthAt_14 rfl (lv_at hl 1 rfl) ?_
      obtain ⟨b11, h12⟩ := h10
      refine zr_iald (n := 120) (f := le) (i := place) hx hb hK hP 3 rfl r_place b11 dX4_lengthAt_15 ?_
      refine lv_goto (tgt := 20) hx hb dX4_lengthAt_16 (by decide) ?_
      exact zr_iret (z := le place) hx hb hr hlocks hK () hP hD hS dX4_lengthAt_20 ⟨(r_le place), h12⟩
theorem c_X4_lengthAt (l : Launch) (G : ZG) (a0 : Nat) (a1 : Nat) (a2 : Nat) (a3 : Nat) (nu : Int → Int) (fi : Int → Int) (le : Int → Int) (to : Int) (place : Int)  (r_nu : rgA nu) (r_fi : rgA fi) (r_le : rgA le) (r_to : rg to) (r_place : rg place)  : ZI l G yX4_lengthAt wsX4_lengthAt 0 0 [.ref a0, .int (iI place)] (W4 G a0 a1 a2 a3 nu fi le to) (fun _ : Unit => W4 G a0 a1 a2 a3 nu fi le to) (fun (z : Int) (_ : Unit) => z = (if 0 ≤ place ∧ place < 120 then le place else 0) ∧ rg z) := by
  refine ZI.fn (w1 := fun u : Unit => W4 G a0 a1 a2 a3 nu fi le to) (fun z u hq => ?_) (c0_X4_lengthAt l G a0 a1 a2 a3 nu fi le to place (fun z => z = (if 0 ≤ place ∧ place < 120 then le place else 0)) r_nu r_fi r_le r_to r_place (sp_X4_lengthAt nu fi le to place r_nu r_fi r_le r_to r_place ))
  obtain ⟨rz, ez⟩ := hq
  exact ⟨rfl, ⟨ez, rz⟩⟩
theorem imX4_placeOf_X4 : ∀ w ∈ wsX40, w ∈ wsX4_placeOf := fun _ h => (List.mem_cons_of_mem _ (List.mem_append_right _ h))
theorem hdX4_placeOf : yX4_placeOf.cls = RX4 ∧ yX4_placeOf.cls ≠ "java/lang/invoke/MethodHandle" ∧ yX4_placeOf.cls ≠ "java/lang/invoke/VarHandle" ∧ (parseMethodDescriptor yX4_placeOf.desc).map (fun d => d.parameters.length) = some 1 := by decide +kernel
set_option maxRecDepth 100000 in
set_option maxHeartbeats 4000000 in
theorem c0_X4_placeOf (l : Launch) (G : ZG) (a0 : Nat) (a1 : Nat) (a2 : Nat) (a3 : Nat) (nu : Int → Int) (fi : Int → Int) (le : Int → Int) (to : Int) (number : Int) (P : Int → Prop) (r_nu : rgA nu) (r_fi : rgA fi) (r_le : rgA le) (r_to : rg to) (r_number : rg number) (hwp : wp_X4_placeOf nu fi le to number P) : ZI l G yX4_placeOf wsX4_placeOf 1 21 [.ref a0, .int (iI number)] (W4 G a0 a1 a2 a3 nu fi le to) (fun u : Unit => W4 G a0 a1 a2 a3 nu fi le to) (fun (z : Int) (u : Unit) => rg z ∧ P z) := by
  unfold wp_X4_placeOf at hwp
  refine zm_i (cc := cX4_placeOf) (maxL := 3) (ret := some .int) (own := RX4) (lvs := [(0, .ref a0), (1, .int (iI number))]) (by decide) rfl rfl (Nat.le_of_ble_eq_true rfl) rfl ?_
  intro p e sT m args below meth c ls A hx hb hr hml hown hts hlocks hK hP hD hS hA hl
  have k1 := hts (.fieldLink RX4 27 "GrantedSort$RunList" "total" "I") (List.mem_of_getElem? (i := 1) rfl)
  refine lv_iconst (v := iI 0) hx hb dX4_placeOf_0 rfl ?_
  refine lv_istore_n (lv' := [(2, .int (iI 0)), (0, .ref a0), (1, .int (iI number))]) hx hb dX4_placeOf_1 rfl hl (by decide) rfl (fun ls hl => ?_)
  obtain ⟨I2, μ3, h4, h5⟩ := hwp
  refine zr_loop (G := G) (σ := Int) (fun x_1 => (rg x_1) ∧ I2 x_1) (fun x_1 => μ3 x_1) (fun x_1 => W4 G a0 a1 a2 a3 nu fi le to) (fun x_1 => [(2, .int (iI x_1)), (0, .ref a0), (1, .int (iI number))]) (0) ⟨rg_0, h4⟩ hP hD hS (lv_sub hl [0, 1, 2] rfl) ?_
  clear hP hD hS hl
  intro x_1 H locs ls ih6 h7 hP hD hS hl
  obtain ⟨x2_1, rfl⟩ : ∃ z, z = x_1 := ⟨_, rfl⟩
  obtain ⟨rx2_1, h7⟩ := h7
  have h8 := h5 x2_1 rx2_1 h7
  have hP : va_P G.1 vwCl (W4 G a0 a1 a2 a3 nu fi le to) H := hP
  have hD : va_D A (W4 G a0 a1 a2 a3 nu fi le to) := hD
  have hl : lv_has ls 3 [(2, .int (iI x2_1)), (0, .ref a0), (1, .int (iI number))] := hl
  refine lv_iload_n hx hb dX4_placeOf_2 rfl (lv_at hl 0 rfl) ?_
  refine lv_aload_n hx hb dX4_placeOf_3 rfl (lv_at hl 1 rfl) ?_
  refine va_get (v := .int (iI to)) (ci := 4) (C := RX4) (T := TX4) (N := 4) hx hb hts imX4_placeOf_X4 hown hK hP 0 rfl rfl 3 (by decide) k1 (fun _ h9 => h9) rfl dX4_placeOf_4 ?_
  refine zr_icmp_ge (tgt := 27) (x := x2_1) (y := to) hx hb rx2_1 r_to dX4_placeOf_7 (by decide) (fun c9 => ?_) (fun c9 => ?_)
  · have h12 := h8.2 c9
    refine lv_iconst (v := iI (-1)) hx hb dX4_placeOf_27 rfl ?_
    exact zr_iret (z := (-1)) hx hb hr hlocks hK () hP hD hS dX4_placeOf_28 ⟨rg_m1, h12⟩
  · have h13 := h8.1 c9
    refine lv_aload_n hx hb dX4_placeOf_10 rfl (lv_at hl 1 rfl) ?_
    refine lv_iload_n hx hb dX4_placeOf_11 rfl (lv_at hl 0 rfl) ?_
    obtain ⟨b14, h15⟩ := h13
    refine zc_vi (As := [.int (iI x2_1)]) (rest := []) (w2 := fun u_16 => W4 G a0 a1 a2 a3 nu fi le to) (c_X4_numberAt l G a0 a1 a2 a3 nu fi le to x2_1 r_nu r_fi r_le r_to rx2_1 b14) ⟨hx, hb, hml, hown, hts⟩ (cwV 1 hts gX4_placeOf_X4_numberAt rfl rfl rfl hdX4_numberAt ⟨Nat.le_of_ble_eq_true rfl, Nat.le_of_ble_eq_true rfl⟩) hK hP hD hS hA (q0 := 0) rfl rfl [0, 1, 2, 3] [] [0, 1, 2, 3] rfl rfl rfl rfl (by decide) (fun _ => rfl) rfl rfl hl.1 rfl (Nat.le_of_ble_eq_true rfl) dX4_placeOf_12 ⟨Nat.zero_le _, Nat.zero_le _⟩ (fun z17 u_16 H locs hw hP hD hS => ?_)
    obtain ⟨rfl, r18⟩ := hw
    have hP : va_P G.1 vwCl (W4 G a0 a1 a2 a3 nu fi le to) H := hP
    have hD : va_D A (W4 G a0 a1 a2 a3 nu fi le to) := hD
    refine lv_iload_n hx hb dX4_placeOf_15 rfl (lv_at hl 2 rfl) ?_
    refine zr_icmp_ne (tgt := 21) (x := nu x2_1) (y := number) hx hb r18 r_number dX4_placeOf_16 (by decide) (fun c19 => ?_) (fun c19 => ?_)
    · have h22 := h15.2 c19
      obtain ⟨r23, h24⟩ := h22
      refine zr_iinc (x := x2_1) (lv' := [(2, .int (iI (x2_1 + 1))), (0, .ref a0), (1, .int (iI number))]) hx hb dX4_placeOf_21 hl (k := 0) rfl (by decide) rfl (fun ls hl => ?_)
      refine lv_goto (tgt := 2) hx hb dX4_placeOf_24 (by decide) ?_
      obtain ⟨h25, h26⟩ := h24
      exact ih6 (x2_1 + 1) _ _ _ ⟨r23, h25⟩ h26 hP hD hS (lv_sub hl [0, 1, 2] rfl)
    · have h27 := h15.1 c19
      refine lv_iload_n hx hb dX4_placeOf_19 rfl (lv_at hl 0 rfl) ?_
      exact zr_iret (z := x2_1) hx hb hr hlocks hK () hP hD hS dX4_placeOf_20 ⟨rx2_1, h27⟩
theorem c_X4_placeOf (l : Launch) (G : ZG) (a0 : Nat) (a1 : Nat) (a2 : Nat) (a3 : Nat) (nu : Int → Int) (fi : Int → Int) (le : Int → Int) (to : Int) (number : Int)  (r_nu : rgA nu) (r_fi : rgA fi) (r_le : rgA le) (r_to : rg to) (r_number : rg number) (p0 : 0 ≤ to ∧ to ≤ 120) : ZI l G yX4_placeOf wsX4_placeOf 1 21 [.ref a0, .int (iI number)] (W4 G a0 a1 a2 a3 nu fi le to) (fun u : Unit => W4 G a0 a1 a2 a3 nu fi le to) (fun (zq : Int) (u : Unit) => rg zq ∧ ((zq = -1 ∧ ∀ j, 0 ≤ j → j < to → nu j ≠ number) ∨ (0 ≤ zq ∧ zq < to ∧ nu zq = number ∧ ∀ j, 0 ≤ j → j < zq → nu j ≠ number))) :=
  c0_X4_placeOf l G a0 a1 a2 a3 nu fi le to number (fun r => (r = -1 ∧ ∀ j, 0 ≤ j → j < to → nu j ≠ number) ∨ (0 ≤ r ∧ r < to ∧ nu r = number ∧ ∀ j, 0 ≤ j → j < r → nu j ≠ number)) r_nu r_fi r_le r_to r_number (sp_X4_placeOf nu fi le to number  r_nu r_fi r_le r_to r_number p0)
theorem imX4_placeOfShortest_X4 : ∀ w ∈ wsX40, w ∈ wsX4_placeOfShortest := fun _ h => (List.mem_cons_of_mem _ (List.mem_append_right _ h))
theorem hdX4_placeOfShortest : yX4_placeOfShortest.cls = RX4 ∧ yX4_placeOfShortest.cls ≠ "java/lang/invoke/MethodHandle" ∧ yX4_placeOfShortest.cls ≠ "java/lang/invoke/VarHandle" ∧ (parseMethodDescriptor yX4_placeOfShortest.desc).map (fun d => d.parameters.length) = some 0 := by decide +kernel
set_option maxRecDepth 100000 in
set_option maxHeartbeats 4000000 in
theorem c0_X4_placeOfShortest (l : Launch) (G : ZG) (a0 : Nat) (a1 : Nat) (a2 : Nat) (a3 : Nat) (nu : Int → Int) (fi : Int → Int) (le : Int → Int) (to : Int)  (P : Int → Prop) (r_nu : rgA nu) (r_fi : rgA fi) (r_le : rgA le) (r_to : rg to)  (hwp : wp_X4_placeOfShortest nu fi le to P) : ZI l G yX4_placeOfShortest wsX4_placeOfShortest 1 21 [.ref a0] (W4 G a0 a1 a2 a3 nu fi le to) (fun u : Unit => W4 G a0 a1 a2 a3 nu fi le to) (fun (z : Int) (u : Unit) => rg z ∧ P z) := by
  unfold wp_X4_placeOfShortest at hwp
  refine zm_i (cc := cX4_placeOfShortest) (maxL := 3) (ret := some .int) (own := RX4) (lvs := [(0, .ref a0)]) (by decide) rfl rfl (Nat.le_of_ble_eq_true rfl) rfl ?_
  intro p e sT m args below meth c ls A hx hb hr hml hown hts hlocks hK hP hD hS hA hl
  have k1 := hts (.fieldLink RX4 27 "GrantedSort$RunList" "total" "I") (List.mem_of_getElem? (i := 1) rfl)
  refine lv_iconst (v := iI 0) hx hb dX4_placeOfShortest_0 rfl ?_
  refine lv_istore_n (lv' := [(1, .int (iI 0)), (0, .ref a0)]) hx hb dX4_placeOfShortest_1 rfl hl (by decide) rfl (fun ls hl => ?_)
  refine lv_iconst (v := iI 1) hx hb dX4_placeOfShortest_2 rfl ?_
  refine lv_istore_n (lv' := [(2, .int (iI 1)), (1, .int (iI 0)), (0, .ref a0)]) hx hb dX4_placeOfShortest_3 rfl hl (by decide) rfl (fun ls hl => ?_)
  obtain ⟨I2, μ3, h4, h5⟩ := hwp
  refine zr_loop (G := G) (σ := Int × Int) (fun x_1 => (rg x_1.1 ∧ rg x_1.2) ∧ I2 x_1.1 x_1.2) (fun x_1 => μ3 x_1.1 x_1.2) (fun x_1 => W4 G a0 a1 a2 a3 nu fi le to) (fun x_1 => [(2, .int (iI x_1.2)), (1, .int (iI x_1.1)), (0, .ref a0)]) ((0, 1)) ⟨⟨rg_0, rg_1⟩, h4⟩ hP hD hS (lv_sub hl [0, 1, 2] rfl) ?_
  clear hP hD hS hl
  intro x_1 H locs ls ih6 h7 hP hD hS hl
  obtain ⟨x1_1, x2_1⟩ := x_1
  obtain ⟨⟨rx1_1, rx2_1⟩, h7⟩ := h7
  have h8 := h5 x1_1 x2_1 rx1_1 rx2_1 h7
  have hP : va_P G.1 vwCl (W4 G a0 a1 a2 a3 nu fi le to) H := hP
  have hD : va_D A (W4 G a0 a1 a2 a3 nu fi le to) := hD
  have hl : lv_has ls 3 [(2, .int (iI x2_1)), (1, .int (iI x1_1)), (0, .ref a0)] := hl
  refine lv_iload_n hx hb dX4_placeOfShortest_4 rfl (lv_at hl 0 rfl) ?_
  refine lv_aload_n hx hb dX4_placeOfShortest_5 rfl (lv_at hl 2 rfl) ?_
  refine va_get (v := .int (iI to)) (ci := 4) (C := RX4) (T := TX4) (N := 4) hx hb hts imX4_placeOfShortest_X4 hown hK hP 0 rfl rfl 3 (by decide) k1 (fun _ h9 => h9) rfl dX4_placeOfShortest_6 ?_
  refine zr_icmp_ge (tgt := 33) (x := x2_1) (y := to) hx hb rx2_1 r_to dX4_placeOfShortest_9 (by decide) (fun c9 => ?_) (fun c9 => ?_)
  · have h12 := h8.2 c9
    refine lv_iload_n hx hb dX4_placeOfShortest_33 rfl (lv_at hl 1 rfl) ?_
    exact zr_iret (z := x1_1) hx hb hr hlocks hK () hP hD hS dX4_placeOfShortest_34 ⟨rx1_1, h12⟩
  · have h13 := h8.1 c9
    refine lv_aload_n hx hb dX4_placeOfShortest_12 rfl (lv_at hl 2 rfl) ?_
    refine lv_iload_n hx hb dX4_placeOfShortest_13 rfl (lv_at hl 0 rfl) ?_
    refine zc_vi (As := [.int (iI x2_1)]) (rest := []) (w2 := fun u_14 => W4 G a0 a1 a2 a3 nu fi le to) (c_X4_lengthAt l G a0 a1 a2 a3 nu fi le to x2_1 r_nu r_fi r_le r_to rx2_1) ⟨hx, hb, hml, hown, hts⟩ (cwV 1 hts gX4_placeOfShortest_X4_lengthAt rfl rfl rfl hdX4_lengthAt ⟨Nat.le_of_ble_eq_true rfl, Nat.le_of_ble_eq_true rfl⟩) hK hP hD hS hA (q0 := 0) rfl rfl [0, 1, 2, 3] [] [0, 1, 2, 3] rfl rfl rfl rfl (by decide) (fun _ => rfl) rfl rfl hl.1 rfl (Nat.le_of_ble_eq_true rfl) dX4_placeOfShortest_14 ⟨Nat.zero_le _, Nat.zero_le _⟩ (fun z15 u_14 H locs hw hP hD hS => ?_)
    obtain ⟨rfl, r16⟩ := hw
    have hP : va_P G.1 vwCl (W4 G a0 a1 a2 a3 nu fi le to) H := hP
    have hD : va_D A (W4 G a0 a1 a2 a3 nu fi le to) := hD
    refine lv_aload_n hx hb dX4_placeOfShortest_17 rfl (lv_at hl 2 rfl) ?_
    refine lv_iload_n hx hb dX4_placeOfShortest_18 rfl (lv_at hl 1 rfl) ?_
    refine zc_vi (As := [.int (iI x1_1)]) (rest := [.int (iI (if 0 ≤ x2_1 ∧ x2_1 < 120 then le x2_1 else 0))]) (w2 := fun u_17 => W4 G a0 a1 a2 a3 nu fi le to) (c_X4_lengthAt l G a0 a1 a2 a3 nu fi le to x1_1 r_nu r_fi r_le r_to rx1_1) ⟨hx, hb, hml, hown, hts⟩ (cwV 1 hts gX4_placeOfShortest_X4_lengthAt rfl rfl rfl hdX4_lengthAt ⟨Nat.le_of_ble_eq_true rfl, Nat.le_of_ble_eq_true rfl⟩) hK hP hD hS hA (q0 := 0) rfl rfl [0, 1, 2, 3] [] [0, 1, 2, 3] rfl rfl rfl rfl (by decide) (fun _ => rfl) rfl rfl hl.1 rfl (Nat.le_of_ble_eq_true rfl) dX4_placeOfShortest_19 ⟨Nat.zero_le _, Nat.zero_le _⟩ (fun z18 u_17 H locs hw hP hD hS => ?_)
    obtain ⟨rfl, r19⟩ := hw
    have hP : va_P G.1 vwCl (W4 G a0 a1 a2 a3 nu fi le to) H := hP
    have hD : va_D A (W4 G a0 a1 a2 a3 nu fi le to) := hD
    refine zr_icmp_ge (tgt := 27) (x := (if 0 ≤ x2_1 ∧ x2_1 < 120 then le x2_1 else 0)) (y := (if 0 ≤ x1_1 ∧ x1_1 < 120 then le x1_1 else 0)) hx hb r16 r19 dX4_placeOfShortest_22 (by decide) (fun c20 => ?_) (fun c20 => ?_)
    · have h23 := h13.2 c20
      obtain ⟨r24, h25⟩ := h23
      refine zr_iinc (x := x2_1) (lv' := [(2, .int (iI (x2_1 + 1))), (1, .int (iI x1_1)), (0, .ref a0)]) hx hb dX4_placeOfShortest_27 hl (k := 0) rfl (by decide) rfl (fun ls hl => ?_)
      refine lv_goto (tgt := 4) hx hb dX4_placeOfShortest_30 (by decide) ?_
      obtain ⟨h26, h27⟩ := h25
      exact ih6 ((x1_1, x2_1 + 1)) _ _ _ ⟨⟨rx1_1, r24⟩, h26⟩ h27 hP hD hS (lv_sub hl [0, 1, 2] rfl)
    · have h28 := h13.1 c20
      refine lv_iload_n hx hb dX4_placeOfShortest_25 rfl (lv_at hl 0 rfl) ?_
      refine lv_istore_n (lv' := [(1, .int (iI x2_1)), (2, .int (iI x2_1)), (0, .ref a0)]) hx hb dX4_placeOfShortest_26 rfl hl (by decide) rfl (fun ls hl => ?_)
      obtain ⟨r29, h30⟩ := h28
      refine zr_iinc (x := x2_1) (lv' := [(2, .int (iI (x2_1 + 1))), (1, .int (iI x2_1)), (0, .ref a0)]) hx hb dX4_placeOfShortest_27 hl (k := 1) rfl (by decide) rfl (fun ls hl => ?_)
      refine lv_goto (tgt := 4) hx hb dX4_placeOfShortest_30 (by decide) ?_
      obtain ⟨h31, h32⟩ := h30
      exact ih6 ((x2_1, x2_1 + 1)) _ _ _ ⟨⟨rx2_1, r29⟩, h31⟩ h32 hP hD hS (lv_sub hl [0, 1, 2] rfl)
theorem c_X4_placeOfShortest (l : Launch) (G : ZG) (a0 : Nat) (a1 : Nat) (a2 : Nat) (a3 : Nat) (nu : Int → Int) (fi : Int → Int) (le : Int → Int) (to : Int)   (r_nu : rgA nu) (r_fi : rgA fi) (r_le : rgA le) (r_to : rg to)  (p0 : 1 ≤ to ∧ to ≤ 120) : ZI l G yX4_placeOfShortest wsX4_placeOfShortest 1 21 [.ref a0] (W4 G a0 a1 a2 a3 nu fi le to) (fun u : Unit => W4 G a0 a1 a2 a3 nu fi le to) (fun (zq : Int) (u : Unit) => rg zq ∧ (0 ≤ zq ∧ zq < to ∧ (∀ j, 0 ≤ j → j < to → le zq ≤ le j) ∧ ∀ j, 0 ≤ j → j < zq → le zq < le j)) :=
  c0_X4_placeOfShortest l G a0 a1 a2 a3 nu fi le to (fun r => 0 ≤ r ∧ r < to ∧ (∀ j, 0 ≤ j → j < to → le r ≤ le j) ∧ ∀ j, 0 ≤ j → j < r → le r < le j) r_nu r_fi r_le r_to  (sp_X4_placeOfShortest nu fi le to  r_nu r_fi r_le r_to  p0)
theorem imX4_rowsInAll_X4 : ∀ w ∈ wsX40, w ∈ wsX4_rowsInAll := fun _ h => (List.mem_cons_of_mem _ (List.mem_append_right _ h))
theorem hdX4_rowsInAll : yX4_rowsInAll.cls = RX4 ∧ yX4_rowsInAll.cls ≠ "java/lang/invoke/MethodHandle" ∧ yX4_rowsInAll.cls ≠ "java/lang/invoke/VarHandle" ∧ (parseMethodDescriptor yX4_rowsInAll.desc).map (fun d => d.parameters.length) = some 0 := by decide +kernel
set_option maxRecDepth 100000 in
set_option maxHeartbeats 4000000 in
theorem c0_X4_rowsInAll (l : Launch) (G : ZG) (a0 : Nat) (a1 : Nat) (a2 : Nat) (a3 : Nat) (nu : Int → Int) (fi : Int → Int) (le : Int → Int) (to : Int)  (P : Int → Prop) (r_nu : rgA nu) (r_fi : rgA fi) (r_le : rgA le) (r_to : rg to)  (hwp : wp_X4_rowsInAll nu fi le to P) : ZI l G yX4_rowsInAll wsX4_rowsInAll 1 21 [.ref a0] (W4 G a0 a1 a2 a3 nu fi le to) (fun u : Unit => W4 G a0 a1 a2 a3 nu fi le to) (fun (z : Int) (u : Unit) => rg z ∧ P z) := by
  unfold wp_X4_rowsInAll at hwp
  refine zm_i (cc := cX4_rowsInAll) (maxL := 3) (ret := some .int) (own := RX4) (lvs := [(0, .ref a0)]) (by decide) rfl rfl (Nat.le_of_ble_eq_true rfl) rfl ?_
  intro p e sT m args below meth c ls A hx hb hr hml hown hts hlocks hK hP hD hS hA hl
  have k1 := hts (.fieldLink RX4 27 "GrantedSort$RunList" "total" "I") (List.mem_of_getElem? (i := 1) rfl)
  refine lv_iconst (v := iI 0) hx hb dX4_rowsInAll_0 rfl ?_
  refine lv_istore_n (lv' := [(1, .int (iI 0)), (0, .ref a0)]) hx hb dX4_rowsInAll_1 rfl hl (by decide) rfl (fun ls hl => ?_)
  refine lv_iconst (v := iI 0) hx hb dX4_rowsInAll_2 rfl ?_
  refine lv_istore_n (lv' := [(2, .int (iI 0)), (1, .int (iI 0)), (0, .ref a0)]) hx hb dX4_rowsInAll_3 rfl hl (by decide) rfl (fun ls hl => ?_)
  obtain ⟨I2, μ3, h4, h5⟩ := hwp
  refine zr_loop (G := G) (σ := Int × Int) (fun x_1 => (rg x_1.1 ∧ rg x_1.2) ∧ I2 x_1.1 x_1.2) (fun x_1 => μ3 x_1.1 x_1.2) (fun x_1 => W4 G a0 a1 a2 a3 nu fi le to) (fun x_1 => [(2, .int (iI x_1.2)), (1, .int (iI x_1.1)), (0, .ref a0)]) ((0, 0)) ⟨⟨rg_0, rg_0⟩, h4⟩ hP hD hS (lv_sub hl [0, 1, 2] rfl) ?_
  clear hP hD hS hl
  intro x_1 H locs ls ih6 h7 hP hD hS hl
  obtain ⟨x1_1, x2_1⟩ := x_1
  obtain ⟨⟨rx1_1, rx2_1⟩, h7⟩ := h7
  have h8 := h5 x1_1 x2_1 rx1_1 rx2_1 h7
  have hP : va_P G.1 vwCl (W4 G a0 a1 a2 a3 nu fi le to) H := hP
  have hD : va_D A (W4 G a0 a1 a2 a3 nu fi le to) := hD
  have hl : lv_has ls 3 [(2, .int (iI x2_1)), (1, .int (iI x1_1)), (0, .ref a0)] := hl
  refine lv_iload_n hx hb dX4_rowsInAll_4 rfl (lv_at hl 0 rfl) ?_
  refine lv_aload_n hx hb dX4_rowsInAll_5 rfl (lv_at hl 2 rfl) ?_
  refine va_get (v := .int (iI to)) (ci := 4) (C := RX4) (T := TX4) (N := 4) hx hb hts imX4_rowsInAll_X4 hown hK hP 0 rfl rfl 3 (by decide) k1 (fun _ h9 => h9) rfl dX4_rowsInAll_6 ?_
  refine zr_icmp_ge (tgt := 26) (x := x2_1) (y := to) hx hb rx2_1 r_to dX4_rowsInAll_9 (by decide) (fun c9 => ?_) (fun c9 => ?_)
  · have h12 := h8.2 c9
    refine lv_iload_n hx hb dX4_rowsInAll_26 rfl (lv_at hl 1 rfl) ?_
    exact zr_iret (z := x1_1) hx hb hr hlocks hK () hP hD hS dX4_rowsInAll_27 ⟨rx1_1, h12⟩
  · have h13 := h8.1 c9
    refine lv_iload_n hx hb dX4_rowsInAll_12 rfl (lv_at hl 1 rfl) ?_
    refine lv_aload_n hx hb dX4_rowsInAll_13 rfl (lv_at hl 2 rfl) ?_
    refine lv_iload_n hx hb dX4_rowsInAll_14 rfl (lv_at hl 0 rfl) ?_
    refine zc_vi (As := [.int (iI x2_1)]) (rest := [.int (iI x1_1)]) (w2 := fun u_14 => W4 G a0 a1 a2 a3 nu fi le to) (c_X4_lengthAt l G a0 a1 a2 a3 nu fi le to x2_1 r_nu r_fi r_le r_to rx2_1) ⟨hx, hb, hml, hown, hts⟩ (cwV 1 hts gX4_rowsInAll_X4_lengthAt rfl rfl rfl hdX4_lengthAt ⟨Nat.le_of_ble_eq_true rfl, Nat.le_of_ble_eq_true rfl⟩) hK hP hD hS hA (q0 := 0) rfl rfl [0, 1, 2, 3] [] [0, 1, 2, 3] rfl rfl rfl rfl (by decide) (fun _ => rfl) rfl rfl hl.1 rfl (Nat.le_of_ble_eq_true rfl) dX4_rowsInAll_15 ⟨Nat.zero_le _, Nat.zero_le _⟩ (fun z15 u_14 H locs hw hP hD hS => ?_)
    obtain ⟨rfl, r16⟩ := hw
    have hP : va_P G.1 vwCl (W4 G a0 a1 a2 a3 nu fi le to) H := hP
    have hD : va_D A (W4 G a0 a1 a2 a3 nu fi le to) := hD
    refine zr_iadd (x := x1_1) (y := (if 0 ≤ x2_1 ∧ x2_1 < 120 then le x2_1 else 0)) hx hb dX4_rowsInAll_18 ?_
    obtain ⟨r17, h18⟩ := h13
    refine lv_istore_n (lv' := [(1, .int (iI (x1_1 + (if 0 ≤ x2_1 ∧ x2_1 < 120 then le x2_1 else 0)))), (2, .int (iI x2_1)), (0, .ref a0)]) hx hb dX4_rowsInAll_19 rfl hl (by decide) rfl (fun ls hl => ?_)
    obtain ⟨r19, h20⟩ := h18
    refine zr_iinc (x := x2_1) (lv' := [(2, .int (iI (x2_1 + 1))), (1, .int (iI (x1_1 + (if 0 ≤ x2_1 ∧ x2_1 < 120 then le x2_1 else 0)))), (0, .ref a0)]) hx hb dX4_rowsInAll_20 hl (k := 1) rfl (by decide) rfl (fun ls hl => ?_)
    refine lv_goto (tgt := 4) hx hb dX4_rowsInAll_23 (by decide) ?_
    obtain ⟨h21, h22⟩ := h20
    exact ih6 ((x1_1 + (if 0 ≤ x2_1 ∧ x2_1 < 120 then le x2_1 else 0), x2_1 + 1)) _ _ _ ⟨⟨r17, r19⟩, h21⟩ h22 hP hD hS (lv_sub hl [0, 1, 2] rfl)
theorem c_X4_rowsInAll (l : Launch) (G : ZG) (a0 : Nat) (a1 : Nat) (a2 : Nat) (a3 : Nat) (nu : Int → Int) (fi : Int → Int) (le : Int → Int) (to : Int)   (r_nu : rgA nu) (r_fi : rgA fi) (r_le : rgA le) (r_to : rg to)  (p0 : 0 ≤ to ∧ to ≤ 120) (p1 : ∀ j, 0 ≤ j → j < to → 0 ≤ le j ∧ le j ≤ 120) : ZI l G yX4_rowsInAll wsX4_rowsInAll 1 21 [.ref a0] (W4 G a0 a1 a2 a3 nu fi le to) (fun _ : Unit => W4 G a0 a1 a2 a3 nu fi le to) (fun (z : Int) (_ : Unit) => z = (sumI le to.toNat) ∧ rg z) := by
  refine ZI.fn (w1 := fun u : Unit => W4 G a0 a1 a2 a3 nu fi le to) (fun z u hq => ?_) (c0_X4_rowsInAll l G a0 a1 a2 a3 nu fi le to (fun z => z = (sumI le to.toNat)) r_nu r_fi r_le r_to  (sp_X4_rowsInAll nu fi le to r_nu r_fi r_le r_to  p0 p1))
  obtain ⟨rz, ez⟩ := hq
  exact ⟨rfl, ⟨ez, rz⟩⟩
theorem imX4_insert_X4 : ∀ w ∈ wsX40, w ∈ wsX4_insert := fun _ h => (List.mem_cons_of_mem _ (List.mem_append_right _ h))
theorem hdX4_insert : yX4_insert.cls = RX4 ∧ yX4_insert.cls ≠ "java/lang/invoke/MethodHandle" ∧ yX4_insert.cls ≠ "java/lang/invoke/VarHandle" ∧ (parseMethodDescriptor yX4_insert.desc).map (fun d => d.parameters.length) = some 3 := by decide +kernel
set_option maxRecDepth 100000 in
set_option maxHeartbeats 4000000 in
theorem c0_X4_insert (l : Launch) (G : ZG) (a0 : Nat) (a1 : Nat) (a2 : Nat) (a3 : Nat) (nu : Int → Int) (fi : Int → Int) (le : Int → Int) (to : Int) (number : Int) (first : Int) (length : Int) (P : (Int → Int) → (Int → Int) → (Int → Int) → Int → Prop) (r_nu : rgA nu) (r_fi : rgA fi) (r_le : rgA le) (r_to : rg to) (r_number : rg number) (r_first : rg first) (r_length : rg length) (hwp : wp_X4_insert nu fi le to number first length P) : ZV l G yX4_insert wsX4_insert 0 0 [.ref a0, .int (iI number), .int (iI first), .int (iI length)] (W4 G a0 a1 a2 a3 nu fi le to) (fun u : (Int → Int) × (Int → Int) × (Int → Int) × Int => W4 G a0 a1 a2 a3 u.1 u.2.1 u.2.2.1 u.2.2.2) (fun (u : (Int → Int) × (Int → Int) × (Int → Int) × Int) => rgA u.1 ∧ rgA u.2.1 ∧ rgA u.2.2.1 ∧ rg u.2.2.2 ∧ P u.1 u.2.1 u.2.2.1 u.2.2.2) := by
  unfold wp_X4_insert at hwp
  refine zm_v (cc := cX4_insert) (maxL := 5) (ret := none) (own := RX4) (lvs := [(0, .ref a0), (1, .int (iI number)), (2, .int (iI first)), (3, .int (iI length))]) (by decide) rfl rfl (Nat.le_of_ble_eq_true rfl) rfl ?_
  intro p e sT m args below meth c ls A hx hb hr hml hown hts hlocks hK hP hD hS hA hl
  have k1 := hts (.fieldLink RX4 27 "GrantedSort$RunList" "total" "I") (List.mem_of_getElem? (i := 1) rfl)
  have k2 := hts (.fieldLink RX4 9 "GrantedSort$RunList" "numbers" "[I") (List.mem_of_getElem? (i := 2) rfl)
  have k3 := hts (.fieldLink RX4 15 "GrantedSort$RunList" "firsts" "[I") (List.mem_of_getElem? (i := 3) rfl)
  have k4 := hts (.fieldLink RX4 18 "GrantedSort$RunList" "lengths" "[I") (List.mem_of_getElem? (i := 4) rfl)
  refine lv_aload_n hx hb dX4_insert_0 rfl (lv_at hl 0 rfl) ?_
  refine va_get (v := .int (iI to)) (ci := 4) (C := RX4) (T := TX4) (N := 4) hx hb hts imX4_insert_X4 hown hK hP 0 rfl rfl 3 (by decide) k1 (fun _ h9 => h9) rfl dX4_insert_1 ?_
  refine zr_if_lt (tgt := 16) (x := to) hx hb r_to dX4_insert_4 (by decide) (fun c1 => ?_) (fun c1 => ?_)
  · have h4 := hwp.1 c1
    exact zr_vret hx hb hr hlocks hK ((nu, fi, le, to)) hP hD hS dX4_insert_16 ⟨r_nu, r_fi, r_le, r_to, h4⟩
  · have h5 := hwp.2 c1
    refine lv_aload_n hx hb dX4_insert_7 rfl (lv_at hl 0 rfl) ?_
    refine va_get (v := .int (iI to)) (ci := 4) (C := RX4) (T := TX4) (N := 4) hx hb hts imX4_insert_X4 hown hK hP 0 rfl rfl 3 (by decide) k1 (fun _ h9 => h9) rfl dX4_insert_8 ?_
    refine lv_bipush (v := iI 120) hx hb dX4_insert_11 (by decide) ?_
    refine zr_icmp_lt (tgt := 17) (x := to) (y := 120) hx hb r_to rg_120 dX4_insert_13 (by decide) (fun c6 => ?_) (fun c6 => ?_)
    · have h9 := h5.1 c6
      refine lv_aload_n hx hb dX4_insert_17 rfl (lv_at hl 0 rfl) ?_
      refine va_get (v := .int (iI to)) (ci := 4) (C := RX4) (T := TX4) (N := 4) hx hb hts imX4_insert_X4 hown hK hP 0 rfl rfl 3 (by decide) k1 (fun _ h9 => h9) rfl dX4_insert_18 ?_
      refine lv_istore (lv' := [(4, .int (iI to)), (0, .ref a0), (1, .int (iI number)), (2, .int (iI first)), (3, .int (iI length))]) hx hb dX4_insert_21 hl (by decide) rfl (fun ls hl => ?_)
      obtain ⟨I11, μ12, h13, h14⟩ := h9
      refine zr_loop (G := G) (σ := Int × (Int → Int) × (Int → Int) × (Int → Int)) (fun x_10 => (rg x_10.1 ∧ rgA x_10.2.1 ∧ rgA x_10.2.2.1 ∧ rgA x_10.2.2.2) ∧ I11 x_10.1 x_10.2.1 x_10.2.2.1 x_10.2.2.2) (fun x_10 => μ12 x_10.1 x_10.2.1 x_10.2.2.1 x_10.2.2.2) (fun x_10 => W4 G a0 a1 a2 a3 x_10.2.1 x_10.2.2.1 x_10.2.2.2 to) (fun x_10 => [(4, .int (iI x_10.1)), (0, .ref a0), (1, .int (iI number)), (2, .int (iI first)), (3, .int (iI length))]) ((to, nu, fi, le)) ⟨⟨r_to, r_nu, r_fi, r_le⟩, h13⟩ hP hD hS (lv_sub hl [0, 1, 2, 3, 4] rfl) ?_
      clear hP hD hS hl
      intro x_10 H locs ls ih15 h16 hP hD hS hl
      obtain ⟨x4_10, nu0_10, fi0_10, le0_10⟩ := x_10
      obtain ⟨⟨rx4_10, rnu0_10, rfi0_10, rle0_10⟩, h16⟩ := h16
      have h17 := h14 x4_10 nu0_10 fi0_10 le0_10 rx4_10 rnu0_10 rfi0_10 rle0_10 h16
      have hP : va_P G.1 vwCl (W4 G a0 a1 a2 a3 nu0_10 fi0_10 le0_10 to) H := hP
      have hD : va_D A (W4 G a0 a1 a2 a3 nu0_10 fi0_10 le0_10 to) := hD
      have hl : lv_has ls 5 [(4, .int (iI x4_10)), (0, .ref a0), (1, .int (iI number)), (2, .int (iI first)), (3, .int (iI length))] := hl
      refine lv_iload hx hb dX4_insert_23 (lv_at hl 0 rfl) ?_
      refine zr_if_le (tgt := 95) (x := x4_10) hx hb rx4_10 dX4_insert_25 (by decide) (fun c18 => ?_) (fun c18 => ?_)
      · have h21 := h17.2 c18
        refine lv_aload_n hx hb dX4_insert_95 rfl (lv_at hl 1 rfl) ?_
        refine va_get (v := .ref a1) (ci := 4) (C := RX4) (T := TX4) (N := 4) hx hb hts imX4_insert_X4 hown hK hP 0 rfl rfl 0 (by decide) k2 (fun _ h9 => h9) rfl dX4_insert_96 ?_
        refine lv_iload hx hb dX4_insert_99 (lv_at hl 0 rfl) ?_
        refine lv_iload_n hx hb dX4_insert_101 rfl (lv_at hl 2 rfl) ?_
        obtain ⟨b22, h23⟩ := h21
        refine zr_iast (n := 120) (f := nu0_10) (i := x4_10) (x := number) hx hb hK hP hD hS 1 rfl rx4_10 b22 dX4_insert_102 (fun H locs hP hD hS => ?_)
        have hP : va_P G.1 vwCl (W4 G a0 a1 a2 a3 (uZ nu0_10 x4_10 number) fi0_10 le0_10 to) H := hP
        have hD : va_D A (W4 G a0 a1 a2 a3 (uZ nu0_10 x4_10 number) fi0_10 le0_10 to) := hD
        refine lv_aload_n hx hb dX4_insert_103 rfl (lv_at hl 1 rfl) ?_
        refine va_get (v := .ref a2) (ci := 4) (C := RX4) (T := TX4) (N := 4) hx hb hts imX4_insert_X4 hown hK hP 0 rfl rfl 1 (by decide) k3 (fun _ h9 => h9) rfl dX4_insert_104 ?_
        refine lv_iload hx hb dX4_insert_107 (lv_at hl 0 rfl) ?_
        refine lv_iload_n hx hb dX4_insert_109 rfl (lv_at hl 3 rfl) ?_
        refine zr_iast (n := 120) (f := fi0_10) (i := x4_10) (x := first) hx hb hK hP hD hS 2 rfl rx4_10 b22 dX4_insert_110 (fun H locs hP hD hS => ?_)
        have hP : va_P G.1 vwCl (W4 G a0 a1 a2 a3 (uZ nu0_10 x4_10 number) (uZ fi0_10 x4_10 first) le0_10 to) H := hP
        have hD : va_D A (W4 G a0 a1 a2 a3 (uZ nu0_10 x4_10 number) (uZ fi0_10 x4_10 first) le0_10 to) := hD
        refine lv_aload_n hx hb dX4_insert_111 rfl (lv_at hl 1 rfl) ?_
        refine va_get (v := .ref a3) (ci := 4) (C := RX4) (T := TX4) (N := 4) hx hb hts imX4_insert_X4 hown hK hP 0 rfl rfl 2 (by decide) k4 (fun _ h9 => h9) rfl dX4_insert_112 ?_
        refine lv_iload hx hb dX4_insert_115 (lv_at hl 0 rfl) ?_
        refine lv_iload_n hx hb dX4_insert_117 rfl (lv_at hl 4 rfl) ?_
        refine zr_iast (n := 120) (f := le0_10) (i := x4_10) (x := length) hx hb hK hP hD hS 3 rfl rx4_10 b22 dX4_insert_118 (fun H locs hP hD hS => ?_)
        have hP : va_P G.1 vwCl (W4 G a0 a1 a2 a3 (uZ nu0_10 x4_10 number) (uZ fi0_10 x4_10 first) (uZ le0_10 x4_10 length) to) H := hP
        have hD : va_D A (W4 G a0 a1 a2 a3 (uZ nu0_10 x4_10 number) (uZ fi0_10 x4_10 first) (uZ le0_10 x4_10 length) to) := hD
        refine lv_aload_n hx hb dX4_insert_119 rfl (lv_at hl 1 rfl) ?_
        refine lv_dup hx hb dX4_insert_120 rfl ?_
        refine va_get (v := .int (iI to)) (ci := 4) (C := RX4) (T := TX4) (N := 4) hx hb hts imX4_insert_X4 hown hK hP 0 rfl rfl 3 (by decide) k1 (fun _ h9 => h9) rfl dX4_insert_121 ?_
        refine lv_iconst (v := iI 1) hx hb dX4_insert_124 rfl ?_
        refine zr_iadd (x := to) (y := 1) hx hb dX4_insert_125 ?_
        obtain ⟨r24, h25⟩ := h23
        refine va_put (v := .int (iI (to + 1))) (ty := .int) (ci := 4) (C := RX4) (T := TX4) (N := 4) hx hb hts imX4_insert_X4 tyX4 tyX4_ok nmX4 hown hK hP hD hS 0 rfl rfl 3 (by decide) k1 (fun _ h9 => h9) rfl (tyX4_ok 3 (by decide)) rfl rfl (Nat.le_of_ble_eq_true rfl) dX4_insert_126 (fun H locs hP hD hS => ?_)
        have hP : va_P G.1 vwCl (W4 G a0 a1 a2 a3 (uZ nu0_10 x4_10 number) (uZ fi0_10 x4_10 first) (uZ le0_10 x4_10 length) (to + 1)) H := hP
        have hD : va_D A (W4 G a0 a1 a2 a3 (uZ nu0_10 x4_10 number) (uZ fi0_10 x4_10 first) (uZ le0_10 x4_10 length) (to + 1)) := hD
        exact zr_vret hx hb hr hlocks hK ((uZ nu0_10 x4_10 number, uZ fi0_10 x4_10 first, uZ le0_10 x4_10 length, to + 1)) hP hD hS dX4_insert_129 ⟨(rgA_u (i := x4_10) rnu0_10 r_number), (rgA_u (i := x4_10) rfi0_10 r_first), (rgA_u (i := x4_10) rle0_10 r_length), r24, h25⟩
      · have h26 := h17.1 c18
        refine lv_aload_n hx hb dX4_insert_28 rfl (lv_at hl 1 rfl) ?_
        refine va_get (v := .ref a1) (ci := 4) (C := RX4) (T := TX4) (N := 4) hx hb hts imX4_insert_X4 hown hK hP 0 rfl rfl 0 (by decide) k2 (fun _ h9 => h9) rfl dX4_insert_29 ?_
        refine lv_iload hx hb dX4_insert_32 (lv_at hl 0 rfl) ?_
        refine lv_iconst (v := iI 1) hx hb dX4_insert_34 rfl ?_
        refine zr_isub (x := x4_10) (y := 1) hx hb dX4_insert_35 ?_
        obtain ⟨r27, h28⟩ := h26
        obtain ⟨b29, h30⟩ := h28
        refine zr_iald (n := 120) (f := nu0_10) (i := x4_10 - 1) hx hb hK hP 1 rfl r27 b29 dX4_insert_36 ?_
        refine lv_iload_n hx hb dX4_insert_37 rfl (lv_at hl 2 rfl) ?_
        refine zr_icmp_le (tgt := 95) (x := nu0_10 (x4_10 - 1)) (y := number) hx hb (rnu0_10 (x4_10 - 1)) r_number dX4_insert_38 (by decide) (fun c31 => ?_) (fun c31 => ?_)
        · have h34 := h30.2 c31
          refine lv_aload_n hx hb dX4_insert_95 rfl (lv_at hl 1 rfl) ?_
          refine va_get (v := .ref a1) (ci := 4) (C := RX4) (T := TX4) (N := 4) hx hb hts imX4_insert_X4 hown hK hP 0 rfl rfl 0 (by decide) k2 (fun _ h9 => h9) rfl dX4_insert_96 ?_
          refine lv_iload hx hb dX4_insert_99 (lv_at hl 0 rfl) ?_
          refine lv_iload_n hx hb dX4_insert_101 rfl (lv_at hl 2 rfl) ?_
          obtain ⟨b35, h36⟩ := h34
          refine zr_iast (n := 120) (f := nu0_10) (i := x4_10) (x := number) hx hb hK hP hD hS 1 rfl rx4_10 b35 dX4_insert_102 (fun H locs hP hD hS => ?_)
          have hP : va_P G.1 vwCl (W4 G a0 a1 a2 a3 (uZ nu0_10 x4_10 number) fi0_10 le0_10 to) H := hP
          have hD : va_D A (W4 G a0 a1 a2 a3 (uZ nu0_10 x4_10 number) fi0_10 le0_10 to) := hD
          refine lv_aload_n hx hb dX4_insert_103 rfl (lv_at hl 1 rfl) ?_
          refine va_get (v := .ref a2) (ci := 4) (C := RX4) (T := TX4) (N := 4) hx hb hts imX4_insert_X4 hown hK hP 0 rfl rfl 1 (by decide) k3 (fun _ h9 => h9) rfl dX4_insert_104 ?_
          refine lv_iload hx hb dX4_insert_107 (lv_at hl 0 rfl) ?_
          refine lv_iload_n hx hb dX4_insert_109 rfl (lv_at hl 3 rfl) ?_
          refine zr_iast (n := 120) (f := fi0_10) (i := x4_10) (x := first) hx hb hK hP hD hS 2 rfl rx4_10 b35 dX4_insert_110 (fun H locs hP hD hS => ?_)
          have hP : va_P G.1 vwCl (W4 G a0 a1 a2 a3 (uZ nu0_10 x4_10 number) (uZ fi0_10 x4_10 first) le0_10 to) H := hP
          have hD : va_D A (W4 G a0 a1 a2 a3 (uZ nu0_10 x4_10 number) (uZ fi0_10 x4_10 first) le0_10 to) := hD
          refine lv_aload_n hx hb dX4_insert_111 rfl (lv_at hl 1 rfl) ?_
          refine va_get (v := .ref a3) (ci := 4) (C := RX4) (T := TX4) (N := 4) hx hb hts imX4_insert_X4 hown hK hP 0 rfl rfl 2 (by decide) k4 (fun _ h9 => h9) rfl dX4_insert_112 ?_
          refine lv_iload hx hb dX4_insert_115 (lv_at hl 0 rfl) ?_
          refine lv_iload_n hx hb dX4_insert_117 rfl (lv_at hl 4 rfl) ?_
          refine zr_iast (n := 120) (f := le0_10) (i := x4_10) (x := length) hx hb hK hP hD hS 3 rfl rx4_10 b35 dX4_insert_118 (fun H locs hP hD hS => ?_)
          have hP : va_P G.1 vwCl (W4 G a0 a1 a2 a3 (uZ nu0_10 x4_10 number) (uZ fi0_10 x4_10 first) (uZ le0_10 x4_10 length) to) H := hP
          have hD : va_D A (W4 G a0 a1 a2 a3 (uZ nu0_10 x4_10 number) (uZ fi0_10 x4_10 first) (uZ le0_10 x4_10 length) to) := hD
          refine lv_aload_n hx hb dX4_insert_119 rfl (lv_at hl 1 rfl) ?_
          refine lv_dup hx hb dX4_insert_120 rfl ?_
          refine va_get (v := .int (iI to)) (ci := 4) (C := RX4) (T := TX4) (N := 4) hx hb hts imX4_insert_X4 hown hK hP 0 rfl rfl 3 (by decide) k1 (fun _ h9 => h9) rfl dX4_insert_121 ?_
          refine lv_iconst (v := iI 1) hx hb dX4_insert_124 rfl ?_
          refine zr_iadd (x := to) (y := 1) hx hb dX4_insert_125 ?_
          obtain ⟨r37, h38⟩ := h36
          refine va_put (v := .int (iI (to + 1))) (ty := .int) (ci := 4) (C := RX4) (T := TX4) (N := 4) hx hb hts imX4_insert_X4 tyX4 tyX4_ok nmX4 hown hK hP hD hS 0 rfl rfl 3 (by decide) k1 (fun _ h9 => h9) rfl (tyX4_ok 3 (by decide)) rfl rfl (Nat.le_of_ble_eq_true rfl) dX4_insert_126 (fun H locs hP hD hS => ?_)
          have hP : va_P G.1 vwCl (W4 G a0 a1 a2 a3 (uZ nu0_10 x4_10 number) (uZ fi0_10 x4_10 first) (uZ le0_10 x4_10 length) (to + 1)) H := hP
          have hD : va_D A (W4 G a0 a1 a2 a3 (uZ nu0_10 x4_10 number) (uZ fi0_10 x4_10 first) (uZ le0_10 x4_10 length) (to + 1)) := hD
          exact zr_vret hx hb hr hlocks hK ((uZ nu0_10 x4_10 number, uZ fi0_10 x4_10 first, uZ le0_10 x4_10 length, to + 1)) hP hD hS dX4_insert_129 ⟨(rgA_u (i := x4_10) rnu0_10 r_number), (rgA_u (i := x4_10) rfi0_10 r_first), (rgA_u (i := x4_10) rle0_10 r_length), r37, h38⟩
        · have h39 := h30.1 c31
          refine lv_aload_n hx hb dX4_insert_41 rfl (lv_at hl 1 rfl) ?_
          refine va_get (v := .ref a1) (ci := 4) (C := RX4) (T := TX4) (N := 4) hx hb hts imX4_insert_X4 hown hK hP 0 rfl rfl 0 (by decide) k2 (fun _ h9 => h9) rfl dX4_insert_42 ?_
          refine lv_iload hx hb dX4_insert_45 (lv_at hl 0 rfl) ?_
          refine lv_aload_n hx hb dX4_insert_47 rfl (lv_at hl 1 rfl) ?_
          refine va_get (v := .ref a1) (ci := 4) (C := RX4) (T := TX4) (N := 4) hx hb hts imX4_insert_X4 hown hK hP 0 rfl rfl 0 (by decide) k2 (fun _ h9 => h9) rfl dX4_insert_48 ?_
          refine lv_iload hx hb dX4_insert_51 (lv_at hl 0 rfl) ?_
          refine lv_iconst (v := iI 1) hx hb dX4_insert_53 rfl ?_
          refine zr_isub (x := x4_10) (y := 1) hx hb dX4_insert_54 ?_
          refine zr_iald (n := 120) (f := nu0_10) (i := x4_10 - 1) hx hb hK hP 1 rfl r27 b29 dX4_insert_55 ?_
          obtain ⟨b40, h41⟩ := h39
          refine zr_iast (n := 120) (f := nu0_10) (i := x4_10) (x := nu0_10 (x4_10 - 1)) hx hb hK hP hD hS 1 rfl rx4_10 b40 dX4_insert_56 (fun H locs hP hD hS => ?_)
          have hP : va_P G.1 vwCl (W4 G a0 a1 a2 a3 (uZ nu0_10 x4_10 (nu0_10 (x4_10 - 1))) fi0_10 le0_10 to) H := hP
          have hD : va_D A (W4 G a0 a1 a2 a3 (uZ nu0_10 x4_10 (nu0_10 (x4_10 - 1))) fi0_10 le0_10 to) := hD
          refine lv_aload_n hx hb dX4_insert_57 rfl (lv_at hl 1 rfl) ?_
          refine va_get (v := .ref a2) (ci := 4) (C := RX4) (T := TX4) (N := 4) hx hb hts imX4_insert_X4 hown hK hP 0 rfl rfl 1 (by decide) k3 (fun _ h9 => h9) rfl dX4_insert_58 ?_
          refine lv_iload hx hb dX4_insert_61 (lv_at hl 0 rfl) ?_
          refine lv_aload_n hx hb dX4_insert_63 rfl (lv_at hl 1 rfl) ?_
          refine va_get (v := .ref a2) (ci := 4) (C := RX4) (T := TX4) (N := 4) hx hb hts imX4_insert_X4 hown hK hP 0 rfl rfl 1 (by decide) k3 (fun _ h9 => h9) rfl dX4_insert_64 ?_
          refine lv_iload hx hb dX4_insert_67 (lv_at hl 0 rfl) ?_
          refine lv_iconst (v := iI 1) hx hb dX4_insert_69 rfl ?_
          refine zr_isub (x := x4_10) (y := 1) hx hb dX4_insert_70 ?_
          refine zr_iald (n := 120) (f := fi0_10) (i := x4_10 - 1) hx hb hK hP 2 rfl r27 b29 dX4_insert_71 ?_
          refine zr_iast (n := 120) (f := fi0_10) (i := x4_10) (x := fi0_10 (x4_10 - 1)) hx hb hK hP hD hS 2 rfl rx4_10 b40 dX4_insert_72 (fun H locs hP hD hS => ?_)
          have hP : va_P G.1 vwCl (W4 G a0 a1 a2 a3 (uZ nu0_10 x4_10 (nu0_10 (x4_10 - 1))) (uZ fi0_10 x4_10 (fi0_10 (x4_10 - 1))) le0_10 to) H := hP
          have hD : va_D A (W4 G a0 a1 a2 a3 (uZ nu0_10 x4_10 (nu0_10 (x4_10 - 1))) (uZ fi0_10 x4_10 (fi0_10 (x4_10 - 1))) le0_10 to) := hD
          refine lv_aload_n hx hb dX4_insert_73 rfl (lv_at hl 1 rfl) ?_
          refine va_get (v := .ref a3) (ci := 4) (C := RX4) (T := TX4) (N := 4) hx hb hts imX4_insert_X4 hown hK hP 0 rfl rfl 2 (by decide) k4 (fun _ h9 => h9) rfl dX4_insert_74 ?_
          refine lv_iload hx hb dX4_insert_77 (lv_at hl 0 rfl) ?_
          refine lv_aload_n hx hb dX4_insert_79 rfl (lv_at hl 1 rfl) ?_
          refine va_get (v := .ref a3) (ci := 4) (C := RX4) (T := TX4) (N := 4) hx hb hts imX4_insert_X4 hown hK hP 0 rfl rfl 2 (by decide) k4 (fun _ h9 => h9) rfl dX4_insert_80 ?_
          refine lv_iload hx hb dX4_insert_83 (lv_at hl 0 rfl) ?_
          refine lv_iconst (v := iI 1) hx hb dX4_insert_85 rfl ?_
          refine zr_isub (x := x4_10) (y := 1) hx hb dX4_insert_86 ?_
          refine zr_iald (n := 120) (f := le0_10) (i := x4_10 - 1) hx hb hK hP 3 rfl r27 b29 dX4_insert_87 ?_
          refine zr_iast (n := 120) (f := le0_10) (i := x4_10) (x := le0_10 (x4_10 - 1)) hx hb hK hP hD hS 3 rfl rx4_10 b40 dX4_insert_88 (fun H locs hP hD hS => ?_)
          have hP : va_P G.1 vwCl (W4 G a0 a1 a2 a3 (uZ nu0_10 x4_10 (nu0_10 (x4_10 - 1))) (uZ fi0_10 x4_10 (fi0_10 (x4_10 - 1))) (uZ le0_10 x4_10 (le0_10 (x4_10 - 1))) to) H := hP
          have hD : va_D A (W4 G a0 a1 a2 a3 (uZ nu0_10 x4_10 (nu0_10 (x4_10 - 1))) (uZ fi0_10 x4_10 (fi0_10 (x4_10 - 1))) (uZ le0_10 x4_10 (le0_10 (x4_10 - 1))) to) := hD
          obtain ⟨r42, h43⟩ := h41
          refine zr_iinc (x := x4_10) (lv' := [(4, .int (iI (x4_10 + (-1)))), (0, .ref a0), (1, .int (iI number)), (2, .int (iI first)), (3, .int (iI length))]) hx hb dX4_insert_89 hl (k := 0) rfl (by decide) rfl (fun ls hl => ?_)
          refine lv_goto (tgt := 23) hx hb dX4_insert_92 (by decide) ?_
          obtain ⟨h44, h45⟩ := h43
          exact ih15 ((x4_10 + (-1), uZ nu0_10 x4_10 (nu0_10 (x4_10 - 1)), uZ fi0_10 x4_10 (fi0_10 (x4_10 - 1)), uZ le0_10 x4_10 (le0_10 (x4_10 - 1)))) _ _ _ ⟨⟨r42, (rgA_u (i := x4_10) rnu0_10 (rnu0_10 (x4_10 - 1))), (rgA_u (i := x4_10) rfi0_10 (rfi0_10 (x4_10 - 1))), (rgA_u (i := x4_10) rle0_10 (rle0_10 (x4_10 - 1)))⟩, h44⟩ h45 hP hD hS (lv_sub hl [0, 1, 2, 3, 4] rfl)
    · have h46 := h5.2 c6
      exact zr_vret hx hb hr hlocks hK ((nu, fi, le, to)) hP hD hS dX4_insert_16 ⟨r_nu, r_fi, r_le, r_to, h46⟩
theorem c_X4_insert (l : Launch) (G : ZG) (a0 : Nat) (a1 : Nat) (a2 : Nat) (a3 : Nat) (nu : Int → Int) (fi : Int → Int) (le : Int → Int) (to : Int) (number : Int) (first : Int) (length : Int)  (r_nu : rgA nu) (r_fi : rgA fi) (r_le : rgA le) (r_to : rg to) (r_number : rg number) (r_first : rg first) (r_length : rg length) (p0 : 0 ≤ to ∧ to < 120) : ZV l G yX4_insert wsX4_insert 0 0 [.ref a0, .int (iI number), .int (iI first), .int (iI length)] (W4 G a0 a1 a2 a3 nu fi le to) (fun u : (Int → Int) × (Int → Int) × (Int → Int) × Int => W4 G a0 a1 a2 a3 u.1 u.2.1 u.2.2.1 u.2.2.2) (fun (u : (Int → Int) × (Int → Int) × (Int → Int) × Int) => rgA u.1 ∧ rgA u.2.1 ∧ rgA u.2.2.1 ∧ rg u.2.2.2 ∧ ((u.2.2.2 = to + 1 ∧ ∃ q, 0 ≤ q ∧ q ≤ to ∧ (∀ j, q ≤ j → j < to → number < nu j) ∧ (q = 0 ∨ nu (q - 1) ≤ number) ∧ ∀ j, 0 ≤ j → j ≤ to → u.1 j = insI nu q number j ∧ u.2.1 j = insI fi q first j ∧ u.2.2.1 j = insI le q length j))) :=
  c0_X4_insert l G a0 a1 a2 a3 nu fi le to number first length (fun nu' fi' le' to' => (to' = to + 1 ∧ ∃ q, 0 ≤ q ∧ q ≤ to ∧ (∀ j, q ≤ j → j < to → number < nu j) ∧ (q = 0 ∨ nu (q - 1) ≤ number) ∧ ∀ j, 0 ≤ j → j ≤ to → nu' j = insI nu q number j ∧ fi' j = insI fi q first j ∧ le' j = insI le q length j)) r_nu r_fi r_le r_to r_number r_first r_length (sp_X4_insert nu fi le to number first length  r_nu r_fi r_le r_to r_number r_first r_length p0)
theorem imX4_remove_X4 : ∀ w ∈ wsX40, w ∈ wsX4_remove := fun _ h => (List.mem_cons_of_mem _ (List.mem_append_right _ h))
theorem hdX4_remove : yX4_remove.cls = RX4 ∧ yX4_remove.cls ≠ "java/lang/invoke/MethodHandle" ∧ yX4_remove.cls ≠ "java/lang/invoke/VarHandle" ∧ (parseMethodDescriptor yX4_remove.desc).map (fun d => d.parameters.length) = some 1 := by decide +kernel
set_option maxRecDepth 100000 in
set_option maxHeartbeats 4000000 in
theorem c0_X4_remove (l : Launch) (G : ZG) (a0 : Nat) (a1 : Nat) (a2 : Nat) (a3 : Nat) (nu : Int → Int) (fi : Int → Int) (le : Int → Int) (to : Int) (place : Int) (P : (Int → Int) → (Int → Int) → (Int → Int) → Int → Prop) (r_nu : rgA nu) (r_fi : rgA fi) (r_le : rgA le) (r_to : rg to) (r_place : rg place) (hwp : wp_X4_remove nu fi le to place P) : ZV l G yX4_remove wsX4_remove 1 40 [.ref a0, .int (iI place)] (W4 G a0 a1 a2 a3 nu fi le to) (fun u : (Int → Int) × (Int → Int) × (Int → Int) × Int => W4 G a0 a1 a2 a3 u.1 u.2.1 u.2.2.1 u.2.2.2) (fun (u : (Int → Int) × (Int → Int) × (Int → Int) × Int) => rgA u.1 ∧ rgA u.2.1 ∧ rgA u.2.2.1 ∧ rg u.2.2.2 ∧ P u.1 u.2.1 u.2.2.1 u.2.2.2) := by
  unfold wp_X4_remove at hwp
  refine zm_v (cc := cX4_remove) (maxL := 3) (ret := none) (own := RX4) (lvs := [(0, .ref a0), (1, .int (iI place))]) (by decide) rfl rfl (Nat.le_of_ble_eq_true rfl) rfl ?_
  intro p e sT m args below meth c ls A hx hb hr hml hown hts hlocks hK hP hD hS hA hl
  have k1 := hts (.fieldLink RX4 27 "GrantedSort$RunList" "total" "I") (List.mem_of_getElem? (i := 1) rfl)
  have k2 := hts (.fieldLink RX4 9 "GrantedSort$RunList" "numbers" "[I") (List.mem_of_getElem? (i := 2) rfl)
  have k3 := hts (.methodLink RX4 21 arraycopyName) (List.mem_of_getElem? (i := 3) rfl)
  have k4 := hts (.native arraycopyName) (List.mem_of_getElem? (i := 4) rfl)
  have k5 := hts (.static arraycopyName) (List.mem_of_getElem? (i := 5) rfl)
  have k6 := hts (.initialized "java/lang/System") (List.mem_of_getElem? (i := 6) rfl)
  have k7 := hts (.fieldLink RX4 15 "GrantedSort$RunList" "firsts" "[I") (List.mem_of_getElem? (i := 7) rfl)
  have k8 := hts (.fieldLink RX4 18 "GrantedSort$RunList" "lengths" "[I") (List.mem_of_getElem? (i := 8) rfl)
  refine lv_iload_n hx hb dX4_remove_0 rfl (lv_at hl 1 rfl) ?_
  refine zr_if_lt (tgt := 21) (x := place) hx hb r_place dX4_remove_1 (by decide) (fun c1 => ?_) (fun c1 => ?_)
  · have h4 := hwp.1 c1
    exact zr_vret hx hb hr hlocks hK ((nu, fi, le, to)) hP hD hS dX4_remove_21 ⟨r_nu, r_fi, r_le, r_to, h4⟩
  · have h5 := hwp.2 c1
    refine lv_iload_n hx hb dX4_remove_4 rfl (lv_at hl 1 rfl) ?_
    refine lv_aload_n hx hb dX4_remove_5 rfl (lv_at hl 0 rfl) ?_
    refine va_get (v := .int (iI to)) (ci := 4) (C := RX4) (T := TX4) (N := 4) hx hb hts imX4_remove_X4 hown hK hP 0 rfl rfl 3 (by decide) k1 (fun _ h9 => h9) rfl dX4_remove_6 ?_
    refine zr_icmp_ge (tgt := 21) (x := place) (y := to) hx hb r_place r_to dX4_remove_9 (by decide) (fun c6 => ?_) (fun c6 => ?_)
    · have h9 := h5.2 c6
      exact zr_vret hx hb hr hlocks hK ((nu, fi, le, to)) hP hD hS dX4_remove_21 ⟨r_nu, r_fi, r_le, r_to, h9⟩
    · have h10 := h5.1 c6
      refine lv_aload_n hx hb dX4_remove_12 rfl (lv_at hl 0 rfl) ?_
      refine va_get (v := .int (iI to)) (ci := 4) (C := RX4) (T := TX4) (N := 4) hx hb hts imX4_remove_X4 hown hK hP 0 rfl rfl 3 (by decide) k1 (fun _ h9 => h9) rfl dX4_remove_13 ?_
      refine lv_bipush (v := iI 120) hx hb dX4_remove_16 (by decide) ?_
      refine zr_icmp_le (tgt := 22) (x := to) (y := 120) hx hb r_to rg_120 dX4_remove_18 (by decide) (fun c11 => ?_) (fun c11 => ?_)
      · have h14 := h10.2 c11
        refine lv_aload_n hx hb dX4_remove_22 rfl (lv_at hl 0 rfl) ?_
        refine va_get (v := .int (iI to)) (ci := 4) (C := RX4) (T := TX4) (N := 4) hx hb hts imX4_remove_X4 hown hK hP 0 rfl rfl 3 (by decide) k1 (fun _ h9 => h9) rfl dX4_remove_23 ?_
        refine lv_iload_n hx hb dX4_remove_26 rfl (lv_at hl 1 rfl) ?_
        refine zr_isub (x := to) (y := place) hx hb dX4_remove_27 ?_
        obtain ⟨r15, h16⟩ := h14
        refine lv_iconst (v := iI 1) hx hb dX4_remove_28 rfl ?_
        refine zr_isub (x := to - place) (y := 1) hx hb dX4_remove_29 ?_
        obtain ⟨r17, h18⟩ := h16
        refine lv_istore_n (lv' := [(2, .int (iI ((to - place) - 1))), (0, .ref a0), (1, .int (iI place))]) hx hb dX4_remove_30 rfl hl (by decide) rfl (fun ls hl => ?_)
        refine lv_aload_n hx hb dX4_remove_31 rfl (lv_at hl 1 rfl) ?_
        refine va_get (v := .ref a1) (ci := 4) (C := RX4) (T := TX4) (N := 4) hx hb hts imX4_remove_X4 hown hK hP 0 rfl rfl 0 (by decide) k2 (fun _ h9 => h9) rfl dX4_remove_32 ?_
        refine lv_iload_n hx hb dX4_remove_35 rfl (lv_at hl 2 rfl) ?_
        refine lv_iconst (v := iI 1) hx hb dX4_remove_36 rfl ?_
        refine zr_iadd (x := place) (y := 1) hx hb dX4_remove_37 ?_
        obtain ⟨r19, h20⟩ := h18
        refine lv_aload_n hx hb dX4_remove_38 rfl (lv_at hl 1 rfl) ?_
        refine va_get (v := .ref a1) (ci := 4) (C := RX4) (T := TX4) (N := 4) hx hb hts imX4_remove_X4 hown hK hP 0 rfl rfl 0 (by decide) k2 (fun _ h9 => h9) rfl dX4_remove_39 ?_
        refine lv_iload_n hx hb dX4_remove_42 rfl (lv_at hl 2 rfl) ?_
        refine lv_iload_n hx hb dX4_remove_43 rfl (lv_at hl 0 rfl) ?_
        obtain ⟨b21, h22⟩ := h20
        refine zr_copy (n0 := 120) (n1 := 120) (f := nu) (g := nu) (sp := place + 1) (dp := place) (n := (to - place) - 1) hx hb (hml.trans hl.1.symm) hown k3 k4 k5 k6 hK hP hD hS 1 1 rfl rfl r19 r_place r17 b21 (Nat.le_of_ble_eq_true rfl) (Nat.le_of_ble_eq_true rfl) dX4_remove_44 (fun H locs hP hD hS => ?_)
        have hP : va_P G.1 vwCl (W4 G a0 a1 a2 a3 (cI nu nu (place + 1) place ((to - place) - 1)) fi le to) H := hP
        have hD : va_D A (W4 G a0 a1 a2 a3 (cI nu nu (place + 1) place ((to - place) - 1)) fi le to) := hD
        refine lv_aload_n hx hb dX4_remove_47 rfl (lv_at hl 1 rfl) ?_
        refine va_get (v := .ref a2) (ci := 4) (C := RX4) (T := TX4) (N := 4) hx hb hts imX4_remove_X4 hown hK hP 0 rfl rfl 1 (by decide) k7 (fun _ h9 => h9) rfl dX4_remove_48 ?_
        refine lv_iload_n hx hb dX4_remove_51 rfl (lv_at hl 2 rfl) ?_
        refine lv_iconst (v := iI 1) hx hb dX4_remove_52 rfl ?_
        refine zr_iadd (x := place) (y := 1) hx hb dX4_remove_53 ?_
        refine lv_aload_n hx hb dX4_remove_54 rfl (lv_at hl 1 rfl) ?_
        refine va_get (v := .ref a2) (ci := 4) (C := RX4) (T := TX4) (N := 4) hx hb hts imX4_remove_X4 hown hK hP 0 rfl rfl 1 (by decide) k7 (fun _ h9 => h9) rfl dX4_remove_55 ?_
        refine lv_iload_n hx hb dX4_remove_58 rfl (lv_at hl 2 rfl) ?_
        refine lv_iload_n hx hb dX4_remove_59 rfl (lv_at hl 0 rfl) ?_
        refine zr_copy (n0 := 120) (n1 := 120) (f := fi) (g := fi) (sp := place + 1) (dp := place) (n := (to - place) - 1) hx hb (hml.trans hl.1.symm) hown k3 k4 k5 k6 hK hP hD hS 2 2 rfl rfl r19 r_place r17 b21 (Nat.le_of_ble_eq_true rfl) (Nat.le_of_ble_eq_true rfl) dX4_remove_60 (fun H locs hP hD hS => ?_)
        have hP : va_P G.1 vwCl (W4 G a0 a1 a2 a3 (cI nu nu (place + 1) place ((to - place) - 1)) (cI fi fi (place + 1) place ((to - place) - 1)) le to) H := hP
        have hD : va_D A (W4 G a0 a1 a2 a3 (cI nu nu (place + 1) place ((to - place) - 1)) (cI fi fi (place + 1) place ((to - place) - 1)) le to) := hD
        refine lv_aload_n hx hb dX4_remove_63 rfl (lv_at hl 1 rfl) ?_
        refine va_get (v := .ref a3) (ci := 4) (C := RX4) (T := TX4) (N := 4) hx hb hts imX4_remove_X4 hown hK hP 0 rfl rfl 2 (by decide) k8 (fun _ h9 => h9) rfl dX4_remove_64 ?_
        refine lv_iload_n hx hb dX4_remove_67 rfl (lv_at hl 2 rfl) ?_
        refine lv_iconst (v := iI 1) hx hb dX4_remove_68 rfl ?_
        refine zr_iadd (x := place) (y := 1) hx hb dX4_remove_69 ?_
        refine lv_aload_n hx hb dX4_remove_70 rfl (lv_at hl 1 rfl) ?_
        refine va_get (v := .ref a3) (ci := 4) (C := RX4) (T := TX4) (N := 4) hx hb hts imX4_remove_X4 hown hK hP 0 rfl rfl 2 (by decide) k8 (fun _ h9 => h9) rfl dX4_remove_71 ?_
        refine lv_iload_n hx hb dX4_remove_74 rfl (lv_at hl 2 rfl) ?_
        refine lv_iload_n hx hb dX4_remove_75 rfl (lv_at hl 0 rfl) ?_
        refine zr_copy (n0 := 120) (n1 := 120) (f := le) (g := le) (sp := place + 1) (dp := place) (n := (to - place) - 1) hx hb (hml.trans hl.1.symm) hown k3 k4 k5 k6 hK hP hD hS 3 3 rfl rfl r19 r_place r17 b21 (Nat.le_of_ble_eq_true rfl) (Nat.le_of_ble_eq_true rfl) dX4_remove_76 (fun H locs hP hD hS => ?_)
        have hP : va_P G.1 vwCl (W4 G a0 a1 a2 a3 (cI nu nu (place + 1) place ((to - place) - 1)) (cI fi fi (place + 1) place ((to - place) - 1)) (cI le le (place + 1) place ((to - place) - 1)) to) H := hP
        have hD : va_D A (W4 G a0 a1 a2 a3 (cI nu nu (place + 1) place ((to - place) - 1)) (cI fi fi (place + 1) place ((to - place) - 1)) (cI le le (place + 1) place ((to - place) - 1)) to) := hD
        refine lv_aload_n hx hb dX4_remove_79 rfl (lv_at hl 1 rfl) ?_
        refine lv_dup hx hb dX4_remove_80 rfl ?_
        refine va_get (v := .int (iI to)) (ci := 4) (C := RX4) (T := TX4) (N := 4) hx hb hts imX4_remove_X4 hown hK hP 0 rfl rfl 3 (by decide) k1 (fun _ h9 => h9) rfl dX4_remove_81 ?_
        refine lv_iconst (v := iI 1) hx hb dX4_remove_84 rfl ?_
        refine zr_isub (x := to) (y := 1) hx hb dX4_remove_85 ?_
        obtain ⟨r23, h24⟩ := h22
        refine va_put (v := .int (iI (to - 1))) (ty := .int) (ci := 4) (C := RX4) (T := TX4) (N := 4) hx hb hts imX4_remove_X4 tyX4 tyX4_ok nmX4 hown hK hP hD hS 0 rfl rfl 3 (by decide) k1 (fun _ h9 => h9) rfl (tyX4_ok 3 (by decide)) rfl rfl (Nat.le_of_ble_eq_true rfl) dX4_remove_86 (fun H locs hP hD hS => ?_)
        have hP : va_P G.1 vwCl (W4 G a0 a1 a2 a3 (cI nu nu (place + 1) place ((to - place) - 1)) (cI fi fi (place + 1) place ((to - place) - 1)) (cI le le (place + 1) place ((to - place) - 1)) (to - 1)) H := hP
        have hD : va_D A (W4 G a0 a1 a2 a3 (cI nu nu (place + 1) place ((to - place) - 1)) (cI fi fi (place + 1) place ((to - place) - 1)) (cI le le (place + 1) place ((to - place) - 1)) (to - 1)) := hD
        exact zr_vret hx hb hr hlocks hK ((cI nu nu (place + 1) place ((to - place) - 1), cI fi fi (place + 1) place ((to - place) - 1), cI le le (place + 1) place ((to - place) - 1), to - 1)) hP hD hS dX4_remove_89 ⟨(rgA_c (sp := place + 1) (dp := place) (n := (to - place) - 1) r_nu r_nu), (rgA_c (sp := place + 1) (dp := place) (n := (to - place) - 1) r_fi r_fi), (rgA_c (sp := place + 1) (dp := place) (n := (to - place) - 1) r_le r_le), r23, h24⟩
      · have h25 := h10.1 c11
        exact zr_vret hx hb hr hlocks hK ((nu, fi, le, to)) hP hD hS dX4_remove_21 ⟨r_nu, r_fi, r_le, r_to, h25⟩
theorem c_X4_remove (l : Launch) (G : ZG) (a0 : Nat) (a1 : Nat) (a2 : Nat) (a3 : Nat) (nu : Int → Int) (fi : Int → Int) (le : Int → Int) (to : Int) (place : Int)  (r_nu : rgA nu) (r_fi : rgA fi) (r_le : rgA le) (r_to : rg to) (r_place : rg place) (p0 : 0 ≤ place ∧ place < to ∧ to ≤ 120) : ZV l G yX4_remove wsX4_remove 1 40 [.ref a0, .int (iI place)] (W4 G a0 a1 a2 a3 nu fi le to) (fun _ : Unit => W4 G a0 a1 a2 a3 (cI nu nu (place + 1) place (to - place - 1)) (cI fi fi (place + 1) place (to - place - 1)) (cI le le (place + 1) place (to - place - 1)) (to - 1)) (fun (_ : Unit) => rgA (cI nu nu (place + 1) place (to - place - 1)) ∧ rgA (cI fi fi (place + 1) place (to - place - 1)) ∧ rgA (cI le le (place + 1) place (to - place - 1)) ∧ rg (to - 1)) := by
  refine ZV.fn (w1 := fun u : (Int → Int) × (Int → Int) × (Int → Int) × Int => W4 G a0 a1 a2 a3 u.1 u.2.1 u.2.2.1 u.2.2.2) (fun  u hq => ?_) (c0_X4_remove l G a0 a1 a2 a3 nu fi le to place (fun o0 o1 o2 o3 => o0 = (cI nu nu (place + 1) place (to - place - 1)) ∧ o1 = (cI fi fi (place + 1) place (to - place - 1)) ∧ o2 = (cI le le (place + 1) place (to - place - 1)) ∧ o3 = (to - 1)) r_nu r_fi r_le r_to r_place (sp_X4_remove nu fi le to place r_nu r_fi r_le r_to r_place p0))
  obtain ⟨ro0, ro1, ro2, ro3, ⟨eo0, eo1, eo2, eo3⟩⟩ := hq
  exact ⟨by rw [eo0, eo1, eo2, eo3], ⟨(by rw [← eo0]; exact ro0), (by rw [← eo1]; exact ro1), (by rw [← eo2]; exact ro2), (by rw [← eo3]; exact ro3)⟩⟩
theorem imX4_removeAll_X4 : ∀ w ∈ wsX40, w ∈ wsX4_removeAll := fun _ h => (List.mem_cons_of_mem _ (List.mem_append_right _ h))
theorem hdX4_removeAll : yX4_removeAll.cls = RX4 ∧ yX4_removeAll.cls ≠ "java/lang/invoke/MethodHandle" ∧ yX4_removeAll.cls ≠ "java/lang/invoke/VarHandle" ∧ (parseMethodDescriptor yX4_removeAll.desc).map (fun d => d.parameters.length) = some 0 := by decide +kernel
set_option maxRecDepth 100000 in
set_option maxHeartbeats 4000000 in
theorem c0_X4_removeAll (l : Launch) (G : ZG) (a0 : Nat) (a1 : Nat) (a2 : Nat) (a3 : Nat) (nu : Int → Int) (fi : Int → Int) (le : Int → Int) (to : Int)  (P : Int → Prop) (r_nu : rgA nu) (r_fi : rgA fi) (r_le : rgA le) (r_to : rg to)  (hwp : wp_X4_removeAll nu fi le to P) : ZV l G yX4_removeAll wsX4_removeAll 0 0 [.ref a0] (W4 G a0 a1 a2 a3 nu fi le to) (fun u : Int => W4 G a0 a1 a2 a3 nu fi le u) (fun (u : Int) => rg u ∧ P u) := by
  unfold wp_X4_removeAll at hwp
  refine zm_v (cc := cX4_removeAll) (maxL := 1) (ret := none) (own := RX4) (lvs := [(0, .ref a0)]) (by decide) rfl rfl (Nat.le_of_ble_eq_true rfl) rfl ?_
  intro p e sT m args below meth c ls A hx hb hr hml hown hts hlocks hK hP hD hS hA hl
  have k1 := hts (.fieldLink RX4 27 "GrantedSort$RunList" "total" "I") (List.mem_of_getElem? (i := 1) rfl)
  refine lv_aload_n hx hb dX4_removeAll_0 rfl (lv_at hl 0 rfl) ?_
  refine lv_iconst (v := iI 0) hx hb dX4_removeAll_1 rfl ?_
  refine va_put (v := .int (iI 0)) (ty := .int) (ci := 4) (C := RX4) (T := TX4) (N := 4) hx hb hts imX4_removeAll_X4 tyX4 tyX4_ok nmX4 hown hK hP hD hS 0 rfl rfl 3 (by decide) k1 (fun _ h9 => h9) rfl (tyX4_ok 3 (by decide)) rfl rfl (Nat.le_of_ble_eq_true rfl) dX4_removeAll_2 (fun H locs hP hD hS => ?_)
  have hP : va_P G.1 vwCl (W4 G a0 a1 a2 a3 nu fi le 0) H := hP
  have hD : va_D A (W4 G a0 a1 a2 a3 nu fi le 0) := hD
  exact zr_vret hx hb hr hlocks hK (0) hP hD hS dX4_removeAll_5 ⟨rg_0, hwp⟩
theorem c_X4_removeAll (l : Launch) (G : ZG) (a0 : Nat) (a1 : Nat) (a2 : Nat) (a3 : Nat) (nu : Int → Int) (fi : Int → Int) (le : Int → Int) (to : Int)   (r_nu : rgA nu) (r_fi : rgA fi) (r_le : rgA le) (r_to : rg to)   : ZV l G yX4_removeAll wsX4_removeAll 0 0 [.ref a0] (W4 G a0 a1 a2 a3 nu fi le to) (fun _ : Unit => W4 G a0 a1 a2 a3 nu fi le 0) (fun (_ : Unit) => rg 0) := by
  refine ZV.fn (w1 := fun u : Int => W4 G a0 a1 a2 a3 nu fi le u) (fun  u hq => ?_) (c0_X4_removeAll l G a0 a1 a2 a3 nu fi le to (fun o0 => o0 = 0) r_nu r_fi r_le r_to  (sp_X4_removeAll nu fi le to r_nu r_fi r_le r_to  ))
  obtain ⟨ro0, eo0⟩ := hq
  exact ⟨by rw [eo0], (by rw [← eo0]; exact ro0)⟩
theorem imX4_passFirst_X4 : ∀ w ∈ wsX40, w ∈ wsX4_passFirst := fun _ h => (List.mem_cons_of_mem _ (List.mem_append_right _ h))
theorem hdX4_passFirst : yX4_passFirst.cls = RX4 ∧ yX4_passFirst.cls ≠ "java/lang/invoke/MethodHandle" ∧ yX4_passFirst.cls ≠ "java/lang/invoke/VarHandle" ∧ (parseMethodDescriptor yX4_passFirst.desc).map (fun d => d.parameters.length) = some 2 := by decide +kernel
set_option maxRecDepth 100000 in
set_option maxHeartbeats 4000000 in
theorem c0_X4_passFirst (l : Launch) (G : ZG) (a0 : Nat) (a1 : Nat) (a2 : Nat) (a3 : Nat) (nu : Int → Int) (fi : Int → Int) (le : Int → Int) (to : Int) (place : Int) (next : Int) (P : (Int → Int) → (Int → Int) → Prop) (r_nu : rgA nu) (r_fi : rgA fi) (r_le : rgA le) (r_to : rg to) (r_place : rg place) (r_next : rg next) (hwp : wp_X4_passFirst nu fi le to place next P) : ZV l G yX4_passFirst wsX4_passFirst 0 0 [.ref a0, .int (iI place), .int (iI next)] (W4 G a0 a1 a2 a3 nu fi le to) (fun u : (Int → Int) × (Int → Int) => W4 G a0 a1 a2 a3 nu u.1 u.2 to) (fun (u : (Int → Int) × (Int → Int)) => rgA u.1 ∧ rgA u.2 ∧ P u.1 u.2) := by
  unfold wp_X4_passFirst at hwp
  refine zm_v (cc := cX4_passFirst) (maxL := 3) (ret := none) (own := RX4) (lvs := [(0, .ref a0), (1, .int (iI place)), (2, .int (iI next))]) (by decide) rfl rfl (Nat.le_of_ble_eq_true rfl) rfl ?_
  intro p e sT m args below meth c ls A hx hb hr hml hown hts hlocks hK hP hD hS hA hl
  have k1 := hts (.fieldLink RX4 15 "GrantedSort$RunList" "firsts" "[I") (List.mem_of_getElem? (i := 1) rfl)
  have k2 := hts (.fieldLink RX4 18 "GrantedSort$RunList" "lengths" "[I") (List.mem_of_getElem? (i := 2) rfl)
  refine lv_iload_n hx hb dX4_passFirst_0 rfl (lv_at hl 1 rfl) ?_
  refine zr_if_lt (tgt := 27) (x := place) hx hb r_place dX4_passFirst_1 (by decide) (fun c1 => ?_) (fun c1 => ?_)
  · have h4 := hwp.1 c1
    exact zr_vret hx hb hr hlocks hK ((fi, le)) hP hD hS dX4_passFirst_27 ⟨r_fi, r_le, h4⟩
  · have h5 := hwp.2 c1
    refine lv_iload_n hx hb dX4_passFirst_4 rfl (lv_at hl 1 rfl) ?_
    refine lv_bipush (v := iI 120) hx hb dX4_passFirst_5 (by decide) ?_
    refine zr_icmp_ge (tgt := 27) (x := place) (y := 120) hx hb r_place rg_120 dX4_passFirst_7 (by decide) (fun c6 => ?_) (fun c6 => ?_)
    · have h9 := h5.2 c6
      exact zr_vret hx hb hr hlocks hK ((fi, le)) hP hD hS dX4_passFirst_27 ⟨r_fi, r_le, h9⟩
    · have h10 := h5.1 c6
      refine lv_aload_n hx hb dX4_passFirst_10 rfl (lv_at hl 0 rfl) ?_
      refine va_get (v := .ref a2) (ci := 4) (C := RX4) (T := TX4) (N := 4) hx hb hts imX4_passFirst_X4 hown hK hP 0 rfl rfl 1 (by decide) k1 (fun _ h9 => h9) rfl dX4_passFirst_11 ?_
      refine lv_iload_n hx hb dX4_passFirst_14 rfl (lv_at hl 1 rfl) ?_
      refine lv_iload_n hx hb dX4_passFirst_15 rfl (lv_at hl 2 rfl) ?_
      obtain ⟨b11, h12⟩ := h10
      refine zr_iast (n := 120) (f := fi) (i := place) (x := next) hx hb hK hP hD hS 2 rfl r_place b11 dX4_passFirst_16 (fun H locs hP hD hS => ?_)
      have hP : va_P G.1 vwCl (W4 G a0 a1 a2 a3 nu (uZ fi place next) le to) H := hP
      have hD : va_D A (W4 G a0 a1 a2 a3 nu (uZ fi place next) le to) := hD
      refine lv_aload_n hx hb dX4_passFirst_17 rfl (lv_at hl 0 rfl) ?_
      refine va_get (v := .ref a3) (ci := 4) (C := RX4) (T := TX4) (N := 4) hx hb hts imX4_passFirst_X4 hown hK hP 0 rfl rfl 2 (by decide) k2 (fun _ h9 => h9) rfl dX4_passFirst_18 ?_
      refine lv_iload_n hx hb dX4_passFirst_21 rfl (lv_at hl 1 rfl) ?_
      refine lv_dup2_11 hx hb dX4_passFirst_22 rfl rfl ?_
      refine zr_iald (n := 120) (f := le) (i := place) hx hb hK hP 3 rfl r_place b11 dX4_passFirst_23 ?_
      refine lv_iconst (v := iI 1) hx hb dX4_passFirst_24 rfl ?_
      refine zr_isub (x := le place) (y := 1) hx hb dX4_passFirst_25 ?_
      obtain ⟨r13, h14⟩ := h12
      refine zr_iast (n := 120) (f := le) (i := place) (x := (le place) - 1) hx hb hK hP hD hS 3 rfl r_place b11 dX4_passFirst_26 (fun H locs hP hD hS => ?_)
      have hP : va_P G.1 vwCl (W4 G a0 a1 a2 a3 nu (uZ fi place next) (uZ le place ((le place) - 1)) to) H := hP
      have hD : va_D A (W4 G a0 a1 a2 a3 nu (uZ fi place next) (uZ le place ((le place) - 1)) to) := hD
      exact zr_vret hx hb hr hlocks hK ((uZ fi place next, uZ le place ((le place) - 1))) hP hD hS dX4_passFirst_27 ⟨(rgA_u (i := place) r_fi r_next), (rgA_u (i := place) r_le r13), h14⟩
theorem c_X4_passFirst (l : Launch) (G : ZG) (a0 : Nat) (a1 : Nat) (a2 : Nat) (a3 : Nat) (nu : Int → Int) (fi : Int → Int) (le : Int → Int) (to : Int) (place : Int) (next : Int)  (r_nu : rgA nu) (r_fi : rgA fi) (r_le : rgA le) (r_to : rg to) (r_place : rg place) (r_next : rg next) (p0 : 0 ≤ place ∧ place < 120) (p1 : rg (le place - 1)) : ZV l G yX4_passFirst wsX4_passFirst 0 0 [.ref a0, .int (iI place), .int (iI next)] (W4 G a0 a1 a2 a3 nu fi le to) (fun _ : Unit => W4 G a0 a1 a2 a3 nu (uZ fi place next) (uZ le place (le place - 1)) to) (fun (_ : Unit) => rgA (uZ fi place next) ∧ rgA (uZ le place (le place - 1))) := by
  refine ZV.fn (w1 := fun u : (Int → Int) × (Int → Int) => W4 G a0 a1 a2 a3 nu u.1 u.2 to) (fun  u hq => ?_) (c0_X4_passFirst l G a0 a1 a2 a3 nu fi le to place next (fun o0 o1 => o0 = (uZ fi place next) ∧ o1 = (uZ le place (le place - 1))) r_nu r_fi r_le r_to r_place r_next (sp_X4_passFirst nu fi le to place next r_nu r_fi r_le r_to r_place r_next p0 p1))
  obtain ⟨ro0, ro1, ⟨eo0, eo1⟩⟩ := hq
  exact ⟨by rw [eo0, eo1], ⟨(by rw [← eo0]; exact ro0), (by rw [← eo1]; exact ro1)⟩⟩
theorem imX4_copyFrom_X4 : ∀ w ∈ wsX40, w ∈ wsX4_copyFrom := fun _ h => (List.mem_cons_of_mem _ (List.mem_append_right _ h))
theorem hdX4_copyFrom : yX4_copyFrom.cls = RX4 ∧ yX4_copyFrom.cls ≠ "java/lang/invoke/MethodHandle" ∧ yX4_copyFrom.cls ≠ "java/lang/invoke/VarHandle" ∧ (parseMethodDescriptor yX4_copyFrom.desc).map (fun d => d.parameters.length) = some 1 := by decide +kernel
set_option maxRecDepth 100000 in
set_option maxHeartbeats 4000000 in
theorem c0_X4_copyFrom (l : Launch) (G : ZG) (a0 : Nat) (a1 : Nat) (a2 : Nat) (a3 : Nat) (o_a0 : Nat) (o_a1 : Nat) (o_a2 : Nat) (o_a3 : Nat) (nu : Int → Int) (fi : Int → Int) (le : Int → Int) (to : Int) (o_nu : Int → Int) (o_fi : Int → Int) (o_le : Int → Int) (o_to : Int)  (P : (Int → Int) → (Int → Int) → (Int → Int) → Int → Prop) (r_nu : rgA nu) (r_fi : rgA fi) (r_le : rgA le) (r_to : rg to) (r_o_nu : rgA o_nu) (r_o_fi : rgA o_fi) (r_o_le : rgA o_le) (r_o_to : rg o_to)  (hwp : wp_X4_copyFrom nu fi le to o_nu o_fi o_le o_to P) : ZV l G yX4_copyFrom wsX4_copyFrom 1 40 [.ref a0, .ref o_a0] (W4 G a0 a1 a2 a3 nu fi le to ++ (W4 G o_a0 o_a1 o_a2 o_a3 o_nu o_fi o_le o_to)) (fun u : (Int → Int) × (Int → Int) × (Int → Int) × Int => W4 G a0 a1 a2 a3 u.1 u.2.1 u.2.2.1 u.2.2.2 ++ (W4 G o_a0 o_a1 o_a2 o_a3 o_nu o_fi o_le o_to)) (fun (u : (Int → Int) × (Int → Int) × (Int → Int) × Int) => rgA u.1 ∧ rgA u.2.1 ∧ rgA u.2.2.1 ∧ rg u.2.2.2 ∧ P u.1 u.2.1 u.2.2.1 u.2.2.2) := by
  unfold wp_X4_copyFrom at hwp
  refine zm_v (cc := cX4_copyFrom) (maxL := 2) (ret := none) (own := RX4) (lvs := [(0, .ref a0), (1, .ref o_a0)]) (by decide) rfl rfl (Nat.le_of_ble_eq_true rfl) rfl ?_
  intro p e sT m args below meth c ls A hx hb hr hml hown hts hlocks hK hP hD hS hA hl
  have k1 := hts (.fieldLink RX4 9 "GrantedSort$RunList" "numbers" "[I") (List.mem_of_getElem? (i := 1) rfl)
  have k2 := hts (.methodLink RX4 21 arraycopyName) (List.mem_of_getElem? (i := 2) rfl)
  have k3 := hts (.native arraycopyName) (List.mem_of_getElem? (i := 3) rfl)
  have k4 := hts (.static arraycopyName) (List.mem_of_getElem? (i := 4) rfl)
  have k5 := hts (.initialized "java/lang/System") (List.mem_of_getElem? (i := 5) rfl)
  have k6 := hts (.fieldLink RX4 15 "GrantedSort$RunList" "firsts" "[I") (List.mem_of_getElem? (i := 6) rfl)
  have k7 := hts (.fieldLink RX4 18 "GrantedSort$RunList" "lengths" "[I") (List.mem_of_getElem? (i := 7) rfl)
  have k8 := hts (.fieldLink RX4 27 "GrantedSort$RunList" "total" "I") (List.mem_of_getElem? (i := 8) rfl)
  refine lv_aload_n hx hb dX4_copyFrom_0 rfl (lv_at hl 1 rfl) ?_
  refine va_get (v := .ref o_a1) (ci := 4) (C := RX4) (T := TX4) (N := 4) hx hb hts imX4_copyFrom_X4 hown hK hP 4 rfl rfl 0 (by decide) k1 (fun _ h9 => h9) rfl dX4_copyFrom_1 ?_
  refine lv_iconst (v := iI 0) hx hb dX4_copyFrom_4 rfl ?_
  refine lv_aload_n hx hb dX4_copyFrom_5 rfl (lv_at hl 0 rfl) ?_
  refine va_get (v := .ref a1) (ci := 4) (C := RX4) (T := TX4) (N := 4) hx hb hts imX4_copyFrom_X4 hown hK hP 0 rfl rfl 0 (by decide) k1 (fun _ h9 => h9) rfl dX4_copyFrom_6 ?_
  refine lv_iconst (v := iI 0) hx hb dX4_copyFrom_9 rfl ?_
  refine lv_bipush (v := iI 120) hx hb dX4_copyFrom_10 (by decide) ?_
  refine zr_copyAll (n0 := 120) (f := o_nu) (g := nu) hx hb (hml.trans hl.1.symm) hown k2 k3 k4 k5 hK hP hD hS 5 1 rfl rfl rg_120 (by decide) rfl (Nat.le_of_ble_eq_true rfl) (Nat.le_of_ble_eq_true rfl) dX4_copyFrom_12 (fun H locs hP hD hS => ?_)
  have hP : va_P G.1 vwCl (W4 G a0 a1 a2 a3 o_nu fi le to ++ (W4 G o_a0 o_a1 o_a2 o_a3 o_nu o_fi o_le o_to)) H := hP
  have hD : va_D A (W4 G a0 a1 a2 a3 o_nu fi le to ++ (W4 G o_a0 o_a1 o_a2 o_a3 o_nu o_fi o_le o_to)) := hD
  refine lv_aload_n hx hb dX4_copyFrom_15 rfl (lv_at hl 1 rfl) ?_
  refine va_get (v := .ref o_a2) (ci := 4) (C := RX4) (T := TX4) (N := 4) hx hb hts imX4_copyFrom_X4 hown hK hP 4 rfl rfl 1 (by decide) k6 (fun _ h9 => h9) rfl dX4_copyFrom_16 ?_
  refine lv_iconst (v := iI 0) hx hb dX4_copyFrom_19 rfl ?_
  refine lv_aload_n hx hb dX4_copyFrom_20 rfl (lv_at hl 0 rfl) ?_
  refine va_get (v := .ref a2) (ci := 4) (C := RX4) (T := TX4) (N := 4) hx hb hts imX4_copyFrom_X4 hown hK hP 0 rfl rfl 1 (by decide) k6 (fun _ h9 => h9) rfl dX4_copyFrom_21 ?_
  refine lv_iconst (v := iI 0) hx hb dX4_copyFrom_24 rfl ?_
  refine lv_bipush (v := iI 120) hx hb dX4_copyFrom_25 (by decide) ?_
  refine zr_copyAll (n0 := 120) (f := o_fi) (g := fi) hx hb (hml.trans hl.1.symm) hown k2 k3 k4 k5 hK hP hD hS 6 2 rfl rfl rg_120 (by decide) rfl (Nat.le_of_ble_eq_true rfl) (Nat.le_of_ble_eq_true rfl) dX4_copyFrom_27 (fun H locs hP hD hS => ?_)
  have hP : va_P G.1 vwCl (W4 G a0 a1 a2 a3 o_nu o_fi le to ++ (W4 G o_a0 o_a1 o_a2 o_a3 o_nu o_fi o_le o_to)) H := hP
  have hD : va_D A (W4 G a0 a1 a2 a3 o_nu o_fi le to ++ (W4 G o_a0 o_a1 o_a2 o_a3 o_nu o_fi o_le o_to)) := hD
  refine lv_aload_n hx hb dX4_copyFrom_30 rfl (lv_at hl 1 rfl) ?_
  refine va_get (v := .ref o_a3) (ci := 4) (C := RX4) (T := TX4) (N := 4) hx hb hts imX4_copyFrom_X4 hown hK hP 4 rfl rfl 2 (by decide) k7 (fun _ h9 => h9) rfl dX4_copyFrom_31 ?_
  refine lv_iconst (v := iI 0) hx hb dX4_copyFrom_34 rfl ?_
  refine lv_aload_n hx hb dX4_copyFrom_35 rfl (lv_at hl 0 rfl) ?_
  refine va_get (v := .ref a3) (ci := 4) (C := RX4) (T := TX4) (N := 4) hx hb hts imX4_copyFrom_X4 hown hK hP 0 rfl rfl 2 (by decide) k7 (fun _ h9 => h9) rfl dX4_copyFrom_36 ?_
  refine lv_iconst (v := iI 0) hx hb dX4_copyFrom_39 rfl ?_
  refine lv_bipush (v := iI 120) hx hb dX4_copyFrom_40 (by decide) ?_
  refine zr_copyAll (n0 := 120) (f := o_le) (g := le) hx hb (hml.trans hl.1.symm) hown k2 k3 k4 k5 hK hP hD hS 7 3 rfl rfl rg_120 (by decide) rfl (Nat.le_of_ble_eq_true rfl) (Nat.le_of_ble_eq_true rfl) dX4_copyFrom_42 (fun H locs hP hD hS => ?_)
  have hP : va_P G.1 vwCl (W4 G a0 a1 a2 a3 o_nu o_fi o_le to ++ (W4 G o_a0 o_a1 o_a2 o_a3 o_nu o_fi o_le o_to)) H := hP
  have hD : va_D A (W4 G a0 a1 a2 a3 o_nu o_fi o_le to ++ (W4 G o_a0 o_a1 o_a2 o_a3 o_nu o_fi o_le o_to)) := hD
  refine lv_aload_n hx hb dX4_copyFrom_45 rfl (lv_at hl 0 rfl) ?_
  refine lv_aload_n hx hb dX4_copyFrom_46 rfl (lv_at hl 1 rfl) ?_
  refine va_get (v := .int (iI o_to)) (ci := 4) (C := RX4) (T := TX4) (N := 4) hx hb hts imX4_copyFrom_X4 hown hK hP 4 rfl rfl 3 (by decide) k8 (fun _ h9 => h9) rfl dX4_copyFrom_47 ?_
  refine va_put (v := .int (iI o_to)) (ty := .int) (ci := 4) (C := RX4) (T := TX4) (N := 4) hx hb hts imX4_copyFrom_X4 tyX4 tyX4_ok nmX4 hown hK hP hD hS 0 rfl rfl 3 (by decide) k8 (fun _ h9 => h9) rfl (tyX4_ok 3 (by decide)) rfl rfl (Nat.le_of_ble_eq_true rfl) dX4_copyFrom_50 (fun H locs hP hD hS => ?_)
  have hP : va_P G.1 vwCl (W4 G a0 a1 a2 a3 o_nu o_fi o_le o_to ++ (W4 G o_a0 o_a1 o_a2 o_a3 o_nu o_fi o_le o_to)) H := hP
  have hD : va_D A (W4 G a0 a1 a2 a3 o_nu o_fi o_le o_to ++ (W4 G o_a0 o_a1 o_a2 o_a3 o_nu o_fi o_le o_to)) := hD
  exact zr_vret hx hb hr hlocks hK ((o_nu, o_fi, o_le, o_to)) hP hD hS dX4_copyFrom_53 ⟨r_o_nu, r_o_fi, r_o_le, r_o_to, hwp⟩
theorem c_X4_copyFrom (l : Launch) (G : ZG) (a0 : Nat) (a1 : Nat) (a2 : Nat) (a3 : Nat) (o_a0 : Nat) (o_a1 : Nat) (o_a2 : Nat) (o_a3 : Nat) (nu : Int → Int) (fi : Int → Int) (le : Int → Int) (to : Int) (o_nu : Int → Int) (o_fi : Int → Int) (o_le : Int → Int) (o_to : Int)   (r_nu : rgA nu) (r_fi : rgA fi) (r_le : rgA le) (r_to : rg to) (r_o_nu : rgA o_nu) (r_o_fi : rgA o_fi) (r_o_le : rgA o_le) (r_o_to : rg o_to)   : ZV l G yX4_copyFrom wsX4_copyFrom 1 40 [.ref a0, .ref o_a0] (W4 G a0 a1 a2 a3 nu fi le to ++ (W4 G o_a0 o_a1 o_a2 o_a3 o_nu o_fi o_le o_to)) (fun _ : Unit => W4 G a0 a1 a2 a3 o_nu o_fi o_le o_to ++ (W4 G o_a0 o_a1 o_a2 o_a3 o_nu o_fi o_le o_to)) (fun (_ : Unit) => rgA o_nu ∧ rgA o_fi ∧ rgA o_le ∧ rg o_to) := by
  refine ZV.fn (w1 := fun u : (Int → Int) × (Int → Int) × (Int → Int) × Int => W4 G a0 a1 a2 a3 u.1 u.2.1 u.2.2.1 u.2.2.2 ++ (W4 G o_a0 o_a1 o_a2 o_a3 o_nu o_fi o_le o_to)) (fun  u hq => ?_) (c0_X4_copyFrom l G a0 a1 a2 a3 o_a0 o_a1 o_a2 o_a3 nu fi le to o_nu o_fi o_le o_to (fun o0 o1 o2 o3 => o0 = o_nu ∧ o1 = o_fi ∧ o2 = o_le ∧ o3 = o_to) r_nu r_fi r_le r_to r_o_nu r_o_fi r_o_le r_o_to  (sp_X4_copyFrom nu fi le to o_nu o_fi o_le o_to r_nu r_fi r_le r_to r_o_nu r_o_fi r_o_le r_o_to  ))
  obtain ⟨ro0, ro1, ro2, ro3, ⟨eo0, eo1, eo2, eo3⟩⟩ := hq
  exact ⟨by rw [eo0, eo1, eo2, eo3], ⟨(by rw [← eo0]; exact ro0), (by rw [← eo1]; exact ro1), (by rw [← eo2]; exact ro2), (by rw [← eo3]; exact ro3)⟩⟩
