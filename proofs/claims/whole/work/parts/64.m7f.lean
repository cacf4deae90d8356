theorem imX7_letter_X7 : ∀ w ∈ wsX70, w ∈ wsX7_letter := fun _ h => (List.mem_cons_of_mem _ (List.mem_append_right _ h))
theorem hdX7_letter : yX7_letter.cls = RX7 ∧ yX7_letter.cls ≠ "java/lang/invoke/MethodHandle" ∧ yX7_letter.cls ≠ "java/lang/invoke/VarHandle" ∧ (parseMethodDescriptor yX7_letter.desc).map (fun d => d.parameters.length) = some 0 := by decide +kernel
set_option maxRecDepth 100000 in
set_option maxHeartbeats 4000000 in
theorem c0_X7_letter (l : Launch) (G : ZG) (a : Nat → Nat) (s : SS)  (P : Int → Prop) (r_s : RG s)  (hwp : wp_X7_letter s P) : ZI l G yX7_letter wsX7_letter 0 0 [.ref (a 0)] (W7 G a s) (fun u : Unit => W7 G a s) (fun (z : Int) (u : Unit) => rg z ∧ P z) := by
  unfold wp_X7_letter at hwp
  refine zm_i (cc := cX7_letter) (maxL := 1) (ret := some .int) (own := RX7) (lvs := [(0, .ref (a 0))]) (by decide) rfl rfl (Nat.le_of_ble_eq_true rfl) rfl ?_
  intro p e sT m args below meth c ls A hx hb hr hml hown hts hlocks hK hP hD hS hA hl
  have k1 := hts (.fieldLink RX7 142 "GrantedSortModel" "spot" "I") (List.mem_of_getElem? (i := 1) rfl)
  have k2 := hts (.fieldLink RX7 139 "GrantedSortModel" "typed" "I") (List.mem_of_getElem? (i := 2) rfl)
  have k3 := hts (.fieldLink RX7 22 "GrantedSortModel" "buffer" "[C") (List.mem_of_getElem? (i := 3) rfl)
  refine lv_aload_n hx hb dX7_letter_0 rfl (lv_at hl 0 rfl) ?_
  refine va_get (v := .int (iI (s.1 10))) (ci := 7) (C := RX7) (T := TX7) (N := 12) hx hb hts imX7_letter_X7 hown hK hP 0 rfl rfl 10 (by decide) k1 (fun _ h9 => h9) rfl dX7_letter_1 ?_
  refine lv_aload_n hx hb dX7_letter_4 rfl (lv_at hl 0 rfl) ?_
  refine va_get (v := .int (iI (s.1 7))) (ci := 7) (C := RX7) (T := TX7) (N := 12) hx hb hts imX7_letter_X7 hown hK hP 0 rfl rfl 7 (by decide) k2 (fun _ h9 => h9) rfl dX7_letter_5 ?_
  refine zr_icmp_ge (tgt := 23) (x := (s.1 10)) (y := (s.1 7)) hx hb (r_s.1 10) (r_s.1 7) dX7_letter_8 (by decide) (fun c1 => ?_) (fun c1 => ?_)
  · have h4 := hwp.2 c1
    refine lv_bipush (v := iI (-6)) hx hb dX7_letter_23 (by decide) ?_
    exact zr_iret (z := (-6)) hx hb hr hlocks hK () hP hD hS dX7_letter_25 ⟨rg_m6, h4⟩
  · have h5 := hwp.1 c1
    refine lv_aload_n hx hb dX7_letter_11 rfl (lv_at hl 0 rfl) ?_
    refine va_get (v := .ref (a 5)) (ci := 7) (C := RX7) (T := TX7) (N := 12) hx hb hts imX7_letter_X7 hown hK hP 0 rfl rfl 6 (by decide) k3 (fun _ h9 => h9) rfl dX7_letter_12 ?_
    refine lv_aload_n hx hb dX7_letter_15 rfl (lv_at hl 0 rfl) ?_
    refine va_get (v := .int (iI (s.1 10))) (ci := 7) (C := RX7) (T := TX7) (N := 12) hx hb hts imX7_letter_X7 hown hK hP 0 rfl rfl 10 (by decide) k1 (fun _ h9 => h9) rfl dX7_letter_16 ?_
    obtain ⟨b6, h7⟩ := h5
    refine zr_cald (n := 80) (f := (s.2 6)) (i := (s.1 10)) hx hb hK hP 5 rfl (r_s.1 10) b6 dX7_letter_19 ?_
    refine lv_goto (tgt := 25) hx hb dX7_letter_20 (by decide) ?_
    exact zr_iret (z := (s.2 6) (s.1 10)) hx hb hr hlocks hK () hP hD hS dX7_letter_25 ⟨((r_s.2 6) (s.1 10)), h7⟩
theorem c_X7_letter (l : Launch) (G : ZG) (a : Nat → Nat) (s : SS)   (r_s : RG s)  (p0 : 0 ≤ (s.1 7) ∧ (s.1 7) ≤ 80) (p1 : 0 ≤ (s.1 10)) : ZI l G yX7_letter wsX7_letter 0 0 [.ref (a 0)] (W7 G a s) (fun _ : Unit => W7 G a s) (fun (z : Int) (_ : Unit) => z = (letZ s) ∧ rg z) := by
  refine ZI.fn (w1 := fun u : Unit => W7 G a s) (fun z u hq => ?_) (c0_X7_letter l G a s (fun z => z = (letZ s)) r_s  (sp_X7_letter s r_s  p0 p1))
  obtain ⟨rz, ez⟩ := hq
  exact ⟨rfl, ⟨ez, rz⟩⟩
theorem hdX7_figure : yX7_figure.cls = RX7 ∧ yX7_figure.cls ≠ "java/lang/invoke/MethodHandle" ∧ yX7_figure.cls ≠ "java/lang/invoke/VarHandle" ∧ (parseMethodDescriptor yX7_figure.desc).map (fun d => d.parameters.length) = some 0 := by decide +kernel
set_option maxRecDepth 100000 in
set_option maxHeartbeats 4000000 in
theorem c0_X7_figure (l : Launch) (G : ZG) (a : Nat → Nat) (s : SS)  (P : Int → Prop) (r_s : RG s)  (hwp : wp_X7_figure s P) : ZI l G yX7_figure wsX7_figure 1 22 [.ref (a 0)] (W7 G a s) (fun u : Unit => W7 G a s) (fun (z : Int) (u : Unit) => rg z ∧ P z) := by
  unfold wp_X7_figure at hwp
  refine zm_i (cc := cX7_figure) (maxL := 2) (ret := some .int) (own := RX7) (lvs := [(0, .ref (a 0))]) (by decide) rfl rfl (Nat.le_of_ble_eq_true rfl) rfl ?_
  intro p e sT m args below meth c ls A hx hb hr hml hown hts hlocks hK hP hD hS hA hl
  refine lv_aload_n hx hb dX7_figure_0 rfl (lv_at hl 0 rfl) ?_
  obtain ⟨b1, h2⟩ := hwp
  obtain ⟨b3, h4⟩ := h2
  refine zc_vi (As := []) (rest := []) (w2 := fun u_5 => W7 G a s) (c_X7_letter l G a s r_s b1 b3) ⟨hx, hb, hml, hown, hts⟩ (cwV 0 hts gX7_figure_X7_letter rfl rfl rfl hdX7_letter ⟨Nat.le_of_ble_eq_true rfl, Nat.le_of_ble_eq_true rfl⟩) hK hP hD hS hA (q0 := 0) rfl rfl [0, 1, 2, 3, 4, 5, 6] [] [0, 1, 2, 3, 4, 5, 6] rfl rfl rfl rfl (by decide) (fun _ => rfl) rfl rfl hl.1 rfl (Nat.le_of_ble_eq_true rfl) dX7_figure_1 ⟨Nat.zero_le _, Nat.zero_le _⟩ (fun z6 u_5 H locs hw hP hD hS => ?_)
  obtain ⟨rfl, r7⟩ := hw
  have hP : va_P G.1 vwCl (W7 G a s) H := hP
  have hD : va_D A (W7 G a s) := hD
  refine lv_bipush (v := iI 48) hx hb dX7_figure_4 (by decide) ?_
  refine zr_isub (x := letZ s) (y := 48) hx hb dX7_figure_6 ?_
  obtain ⟨r8, h9⟩ := h4
  refine lv_istore_n (lv' := [(1, .int (iI ((letZ s) - 48))), (0, .ref (a 0))]) hx hb dX7_figure_7 rfl hl (by decide) rfl (fun ls hl => ?_)
  refine lv_iload_n hx hb dX7_figure_8 rfl (lv_at hl 0 rfl) ?_
  refine lv_iconst (v := iI 0) hx hb dX7_figure_9 rfl ?_
  refine lv_bipush (v := iI 9) hx hb dX7_figure_10 (by decide) ?_
  refine zc_si (As := [.int (iI ((letZ s) - 48)), .int (iI 0), .int (iI 9)]) (rest := []) (c_X7_in l G ((letZ s) - 48) 0 9 r8 rg_0 rg_9) ⟨hx, hb, hml, hown, hts⟩ (va_cwS 3 hts gX7_figure_X7_in rfl rfl rfl hdX7_in ⟨Nat.le_of_ble_eq_true rfl, Nat.le_of_ble_eq_true rfl⟩) hK hP hD hS hA rfl hl.1 rfl (Nat.le_of_ble_eq_true rfl) dX7_figure_12 ⟨Nat.zero_le _, Nat.zero_le _⟩ (fun z11 H locs hw hP hD hS => ?_)
  obtain ⟨rfl, r12⟩ := hw
  have hP : va_P G.1 vwCl (W7 G a s) H := hP
  have hD : va_D A (W7 G a s) := hD
  refine zr_ifB_eq (tgt := 22)  hx hb dX7_figure_15 (by decide) (fun c13 => ?_) (fun c13 => ?_)
  · have h16 := h9.2 c13
    refine lv_bipush (v := iI (-6)) hx hb dX7_figure_22 (by decide) ?_
    exact zr_iret (z := (-6)) hx hb hr hlocks hK () hP hD hS dX7_figure_24 ⟨rg_m6, h16⟩
  · have h17 := h9.1 c13
    refine lv_iload_n hx hb dX7_figure_18 rfl (lv_at hl 0 rfl) ?_
    refine lv_goto (tgt := 24) hx hb dX7_figure_19 (by decide) ?_
    exact zr_iret (z := (letZ s) - 48) hx hb hr hlocks hK () hP hD hS dX7_figure_24 ⟨r8, h17⟩
theorem c_X7_figure (l : Launch) (G : ZG) (a : Nat → Nat) (s : SS)   (r_s : RG s)  (p0 : 0 ≤ (s.1 7) ∧ (s.1 7) ≤ 80) (p1 : 0 ≤ (s.1 10)) (p2 : Bf s) : ZI l G yX7_figure wsX7_figure 1 22 [.ref (a 0)] (W7 G a s) (fun _ : Unit => W7 G a s) (fun (z : Int) (_ : Unit) => z = (figZ s) ∧ rg z) := by
  refine ZI.fn (w1 := fun u : Unit => W7 G a s) (fun z u hq => ?_) (c0_X7_figure l G a s (fun z => z = (figZ s)) r_s  (sp_X7_figure s r_s  p0 p1 p2))
  obtain ⟨rz, ez⟩ := hq
  exact ⟨rfl, ⟨ez, rz⟩⟩
theorem imX7_wants_X7 : ∀ w ∈ wsX70, w ∈ wsX7_wants := fun _ h => (List.mem_cons_of_mem _ (List.mem_append_right _ h))
theorem hdX7_wants : yX7_wants.cls = RX7 ∧ yX7_wants.cls ≠ "java/lang/invoke/MethodHandle" ∧ yX7_wants.cls ≠ "java/lang/invoke/VarHandle" ∧ (parseMethodDescriptor yX7_wants.desc).map (fun d => d.parameters.length) = some 1 := by decide +kernel
set_option maxRecDepth 100000 in
set_option maxHeartbeats 4000000 in
theorem c0_X7_wants (l : Launch) (G : ZG) (a : Nat → Nat) (s : SS) (b : Int) (P : SS → Prop) (r_s : RG s) (r_b : rg b) (hwp : wp_X7_wants s b P) : ZV l G yX7_wants wsX7_wants 0 0 [.ref (a 0), .int (iI b)] (W7 G a s) (fun u : SS => W7 G a u) (fun (u : SS) => RG u ∧ P u) := by
  unfold wp_X7_wants at hwp
  refine zm_v (cc := cX7_wants) (maxL := 2) (ret := none) (own := RX7) (lvs := [(0, .ref (a 0)), (1, .int (iI b))]) (by decide) rfl rfl (Nat.le_of_ble_eq_true rfl) rfl ?_
  intro p e sT m args below meth c ls A hx hb hr hml hown hts hlocks hK hP hD hS hA hl
  have k1 := hts (.fieldLink RX7 148 "GrantedSortModel" "wrong" "I") (List.mem_of_getElem? (i := 1) rfl)
  have k2 := hts (.fieldLink RX7 142 "GrantedSortModel" "spot" "I") (List.mem_of_getElem? (i := 2) rfl)
  refine lv_aload_n hx hb dX7_wants_0 rfl (lv_at hl 0 rfl) ?_
  refine va_get (v := .int (iI (s.1 11))) (ci := 7) (C := RX7) (T := TX7) (N := 12) hx hb hts imX7_wants_X7 hown hK hP 0 rfl rfl 11 (by decide) k1 (fun _ h9 => h9) rfl dX7_wants_1 ?_
  refine lv_bipush (v := iI (-6)) hx hb dX7_wants_4 (by decide) ?_
  refine zr_icmp_ne (tgt := 36) (x := (s.1 11)) (y := (-6)) hx hb (r_s.1 11) rg_m6 dX7_wants_6 (by decide) (fun c1 => ?_) (fun c1 => ?_)
  · have h4 := hwp.2 c1
    exact zr_vret hx hb hr hlocks hK (s) hP hD hS dX7_wants_36 ⟨r_s, h4⟩
  · have h5 := hwp.1 c1
    refine lv_aload_n hx hb dX7_wants_9 rfl (lv_at hl 0 rfl) ?_
    refine lv_iload_n hx hb dX7_wants_10 rfl (lv_at hl 1 rfl) ?_
    refine zr_if_eq (tgt := 19) (x := b) hx hb r_b dX7_wants_11 (by decide) (fun c6 => ?_) (fun c6 => ?_)
    · have h9 := h5.1 c6
      refine lv_aload_n hx hb dX7_wants_19 rfl (lv_at hl 0 rfl) ?_
      refine va_get (v := .int (iI (s.1 10))) (ci := 7) (C := RX7) (T := TX7) (N := 12) hx hb hts imX7_wants_X7 hown hK hP 0 rfl rfl 10 (by decide) k2 (fun _ h9 => h9) rfl dX7_wants_20 ?_
      refine va_put (v := .int (iI (s.1 10))) (ty := .int) (ci := 7) (C := RX7) (T := TX7) (N := 12) hx hb hts imX7_wants_X7 tyX7 tyX7_ok nmX7 hown hK hP hD hS 0 rfl rfl 11 (by decide) k1 (fun _ h9 => h9) rfl (tyX7_ok 11 (by decide)) rfl rfl (Nat.le_of_ble_eq_true rfl) dX7_wants_23 (fun H locs hP hD hS => ?_)
      have hP : va_P G.1 vwCl (W7 G a (sS s 11 (s.1 10))) H := hP
      have hD : va_D A (W7 G a (sS s 11 (s.1 10))) := hD
      refine lv_aload_n hx hb dX7_wants_26 rfl (lv_at hl 0 rfl) ?_
      refine lv_dup hx hb dX7_wants_27 rfl ?_
      refine va_get (v := .int (iI (s.1 10))) (ci := 7) (C := RX7) (T := TX7) (N := 12) hx hb hts imX7_wants_X7 hown hK hP 0 rfl rfl 10 (by decide) k2 (fun _ h9 => h9) rfl dX7_wants_28 ?_
      refine lv_iconst (v := iI 1) hx hb dX7_wants_31 rfl ?_
      refine zr_iadd (x := (s.1 10)) (y := 1) hx hb dX7_wants_32 ?_
      obtain ⟨r10, h11⟩ := h9
      refine va_put (v := .int (iI ((s.1 10) + 1))) (ty := .int) (ci := 7) (C := RX7) (T := TX7) (N := 12) hx hb hts imX7_wants_X7 tyX7 tyX7_ok nmX7 hown hK hP hD hS 0 rfl rfl 10 (by decide) k2 (fun _ h9 => h9) rfl (tyX7_ok 10 (by decide)) rfl rfl (Nat.le_of_ble_eq_true rfl) dX7_wants_33 (fun H locs hP hD hS => ?_)
      have hP : va_P G.1 vwCl (W7 G a (sS (sS s 10 ((s.1 10) + 1)) 11 (s.1 10))) H := hP
      have hD : va_D A (W7 G a (sS (sS s 10 ((s.1 10) + 1)) 11 (s.1 10))) := hD
      exact zr_vret hx hb hr hlocks hK (sS (sS s 10 ((s.1 10) + 1)) 11 (s.1 10)) hP hD hS dX7_wants_36 ⟨(RG_S (RG_S r_s r10) (r_s.1 10)), h11⟩
    · have h12 := h5.2 c6
      refine lv_bipush (v := iI (-6)) hx hb dX7_wants_14 (by decide) ?_
      refine lv_goto (tgt := 23) hx hb dX7_wants_16 (by decide) ?_
      refine va_put (v := .int (iI (-6))) (ty := .int) (ci := 7) (C := RX7) (T := TX7) (N := 12) hx hb hts imX7_wants_X7 tyX7 tyX7_ok nmX7 hown hK hP hD hS 0 rfl rfl 11 (by decide) k1 (fun _ h9 => h9) rfl (tyX7_ok 11 (by decide)) rfl rfl (Nat.le_of_ble_eq_true rfl) dX7_wants_23 (fun H locs hP hD hS => ?_)
      have hP : va_P G.1 vwCl (W7 G a (sS s 11 (-6))) H := hP
      have hD : va_D A (W7 G a (sS s 11 (-6))) := hD
      refine lv_aload_n hx hb dX7_wants_26 rfl (lv_at hl 0 rfl) ?_
      refine lv_dup hx hb dX7_wants_27 rfl ?_
      refine va_get (v := .int (iI (s.1 10))) (ci := 7) (C := RX7) (T := TX7) (N := 12) hx hb hts imX7_wants_X7 hown hK hP 0 rfl rfl 10 (by decide) k2 (fun _ h9 => h9) rfl dX7_wants_28 ?_
      refine lv_iconst (v := iI 1) hx hb dX7_wants_31 rfl ?_
      refine zr_iadd (x := (s.1 10)) (y := 1) hx hb dX7_wants_32 ?_
      obtain ⟨r13, h14⟩ := h12
      refine va_put (v := .int (iI ((s.1 10) + 1))) (ty := .int) (ci := 7) (C := RX7) (T := TX7) (N := 12) hx hb hts imX7_wants_X7 tyX7 tyX7_ok nmX7 hown hK hP hD hS 0 rfl rfl 10 (by decide) k2 (fun _ h9 => h9) rfl (tyX7_ok 10 (by decide)) rfl rfl (Nat.le_of_ble_eq_true rfl) dX7_wants_33 (fun H locs hP hD hS => ?_)
      have hP : va_P G.1 vwCl (W7 G a (sS (sS s 10 ((s.1 10) + 1)) 11 (-6))) H := hP
      have hD : va_D A (W7 G a (sS (sS s 10 ((s.1 10) + 1)) 11 (-6))) := hD
      exact zr_vret hx hb hr hlocks hK (sS (sS s 10 ((s.1 10) + 1)) 11 (-6)) hP hD hS dX7_wants_36 ⟨(RG_S (RG_S r_s r13) rg_m6), h14⟩
theorem c_X7_wants (l : Launch) (G : ZG) (a : Nat → Nat) (s : SS) (b : Int)  (r_s : RG s) (r_b : rg b) (p0 : 0 ≤ (s.1 10) ∧ (s.1 10) ≤ 80) (p1 : (s.1 11) = -6) : ZV l G yX7_wants wsX7_wants 0 0 [.ref (a 0), .int (iI b)] (W7 G a s) (fun _ : Unit => W7 G a (sS (sS s 10 ((s.1 10) + 1)) 11 (if b = 0 then (s.1 10) else -6))) (fun (_ : Unit) => RG (sS (sS s 10 ((s.1 10) + 1)) 11 (if b = 0 then (s.1 10) else -6))) := by
  refine ZV.fn (w1 := fun u : SS => W7 G a u) (fun  u hq => ?_) (c0_X7_wants l G a s b (fun o0 => o0 = (sS (sS s 10 ((s.1 10) + 1)) 11 (if b = 0 then (s.1 10) else -6))) r_s r_b (sp_X7_wants s b r_s r_b p0 p1))
  obtain ⟨ro0, eo0⟩ := hq
  exact ⟨by rw [eo0], (by rw [← eo0]; exact ro0)⟩
theorem c_X7_wants1 (l : Launch) (G : ZG) (a : Nat → Nat) (s : SS) (r_s : RG s) (p0 : 0 ≤ (s.1 10) ∧ (s.1 10) ≤ 80) (p1 : (s.1 11) = -6) : ZV l G yX7_wants wsX7_wants 0 0 [.ref (a 0), .int (iI 1)] (W7 G a s) (fun _ : Unit => W7 G a (sS (sS s 10 ((s.1 10) + 1)) 11 (-6))) (fun (_ : Unit) => RG (sS (sS s 10 ((s.1 10) + 1)) 11 (-6))) := by
  have h := c_X7_wants l G a s 1 r_s rg_1 p0 p1
  rw [if_neg (by decide)] at h
  exact h
theorem c_X7_wants0 (l : Launch) (G : ZG) (a : Nat → Nat) (s : SS) (r_s : RG s) (p0 : 0 ≤ (s.1 10) ∧ (s.1 10) ≤ 80) (p1 : (s.1 11) = -6) : ZV l G yX7_wants wsX7_wants 0 0 [.ref (a 0), .int (iI 0)] (W7 G a s) (fun _ : Unit => W7 G a (sS (sS s 10 ((s.1 10) + 1)) 11 (s.1 10))) (fun (_ : Unit) => RG (sS (sS s 10 ((s.1 10) + 1)) 11 (s.1 10))) := by
  have h := c_X7_wants l G a s 0 r_s rg_0 p0 p1
  rw [if_pos rfl] at h
  exact h
theorem imX7_key_X7 : ∀ w ∈ wsX70, w ∈ wsX7_key := fun _ h => (List.mem_cons_of_mem _ (List.mem_append_right _ h))
theorem hdX7_key : yX7_key.cls = RX7 ∧ yX7_key.cls ≠ "java/lang/invoke/MethodHandle" ∧ yX7_key.cls ≠ "java/lang/invoke/VarHandle" ∧ (parseMethodDescriptor yX7_key.desc).map (fun d => d.parameters.length) = some 0 := by decide +kernel
set_option maxRecDepth 100000 in
set_option maxHeartbeats 4000000 in
theorem c0_X7_key (l : Launch) (G : ZG) (a : Nat → Nat) (s : SS)  (P : Int → SS → Prop) (r_s : RG s)  (hwp : wp_X7_key s P) : ZI l G yX7_key wsX7_key 2 43 [.ref (a 0)] (W7 G a s) (fun u : SS => W7 G a u) (fun (z : Int) (u : SS) => rg z ∧ RG u ∧ P z u) := by
  unfold wp_X7_key at hwp
  refine zm_i (cc := cX7_key) (maxL := 2) (ret := some .int) (own := RX7) (lvs := [(0, .ref (a 0))]) (by decide) rfl rfl (Nat.le_of_ble_eq_true rfl) rfl ?_
  intro p e sT m args below meth c ls A hx hb hr hml hown hts hlocks hK hP hD hS hA hl
  have k1 := hts (.fieldLink RX7 148 "GrantedSortModel" "wrong" "I") (List.mem_of_getElem? (i := 1) rfl)
  have k2 := hts (.fieldLink RX7 142 "GrantedSortModel" "spot" "I") (List.mem_of_getElem? (i := 2) rfl)
  refine lv_aload_n hx hb dX7_key_0 rfl (lv_at hl 0 rfl) ?_
  obtain ⟨b1, h2⟩ := hwp
  obtain ⟨b3, h4⟩ := h2
  obtain ⟨b5, h6⟩ := h4
  refine zc_vi (As := []) (rest := []) (w2 := fun u_7 => W7 G a s) (c_X7_figure l G a s r_s b1 b3 b5) ⟨hx, hb, hml, hown, hts⟩ (cwV 0 hts gX7_key_X7_figure rfl rfl rfl hdX7_figure ⟨Nat.le_of_ble_eq_true rfl, Nat.le_of_ble_eq_true rfl⟩) hK hP hD hS hA (q0 := 0) rfl rfl [0, 1, 2, 3, 4, 5, 6] [] [0, 1, 2, 3, 4, 5, 6] rfl rfl rfl rfl (by decide) (fun _ => rfl) rfl rfl hl.1 rfl (Nat.le_of_ble_eq_true rfl) dX7_key_1 ⟨Nat.zero_le _, Nat.zero_le _⟩ (fun z8 u_7 H locs hw hP hD hS => ?_)
  obtain ⟨rfl, r9⟩ := hw
  have hP : va_P G.1 vwCl (W7 G a s) H := hP
  have hD : va_D A (W7 G a s) := hD
  refine lv_istore_n (lv' := [(1, .int (iI (figZ s))), (0, .ref (a 0))]) hx hb dX7_key_4 rfl hl (by decide) rfl (fun ls hl => ?_)
  refine lv_aload_n hx hb dX7_key_5 rfl (lv_at hl 1 rfl) ?_
  refine lv_iload_n hx hb dX7_key_6 rfl (lv_at hl 0 rfl) ?_
  refine lv_bipush (v := iI (-6)) hx hb dX7_key_7 (by decide) ?_
  refine zr_icmp_eq (tgt := 16) (x := figZ s) (y := (-6)) hx hb r9 rg_m6 dX7_key_9 (by decide) (fun c10 => ?_) (fun c10 => ?_)
  · have h13 := h6.1 c10
    refine lv_iconst (v := iI 0) hx hb dX7_key_16 rfl ?_
    obtain ⟨b14, h15⟩ := h13
    obtain ⟨b16, h17⟩ := h15
    refine zc_vv (As := [.int (iI 0)]) (rest := []) (w2 := fun u_19 => W7 G a (sS (sS s 10 ((s.1 10) + 1)) 11 (s.1 10))) (c_X7_wants0 l G a s r_s b14 b16) ⟨hx, hb, hml, hown, hts⟩ (cwV 1 hts gX7_key_X7_wants rfl rfl rfl hdX7_wants ⟨Nat.le_of_ble_eq_true rfl, Nat.le_of_ble_eq_true rfl⟩) hK hP hD hS hA (q0 := 0) rfl rfl [0, 1, 2, 3, 4, 5, 6] [] [0, 1, 2, 3, 4, 5, 6] rfl rfl rfl rfl (by decide) (fun _ => rfl) rfl rfl hl.1 rfl (Nat.le_of_ble_eq_true rfl) dX7_key_17 ⟨Nat.zero_le _, Nat.zero_le _⟩ (fun u_19 H locs hw hP hD hS => ?_)
    have r18 := hw
    have hP : va_P G.1 vwCl (W7 G a (sS (sS s 10 ((s.1 10) + 1)) 11 (s.1 10))) H := hP
    have hD : va_D A (W7 G a (sS (sS s 10 ((s.1 10) + 1)) 11 (s.1 10))) := hD
    obtain ⟨I22, μ23, h24, h25⟩ := h17
    refine zr_loop (G := G) (σ := Int × SS) (fun x_21 => (rg x_21.1 ∧ RG x_21.2) ∧ I22 x_21.1 x_21.2) (fun x_21 => μ23 x_21.1 x_21.2) (fun x_21 => W7 G a x_21.2) (fun x_21 => [(1, .int (iI x_21.1)), (0, .ref (a 0))]) ((figZ s, sS (sS s 10 ((s.1 10) + 1)) 11 (s.1 10))) ⟨⟨r9, (RG_S (RG_S r_s (r18.1 10)) (r18.1 11))⟩, h24⟩ hP hD hS (lv_sub hl [0, 1] rfl) ?_
    clear hP hD hS hl
    intro x_21 H locs ls ih26 h27 hP hD hS hl
    obtain ⟨x1_21, s0_21⟩ := x_21
    obtain ⟨⟨rx1_21, rs0_21⟩, h27⟩ := h27
    have h28 := h25 x1_21 s0_21 rx1_21 rs0_21 h27
    have hP : va_P G.1 vwCl (W7 G a s0_21) H := hP
    have hD : va_D A (W7 G a s0_21) := hD
    have hl : lv_has ls 2 [(1, .int (iI x1_21)), (0, .ref (a 0))] := hl
    refine lv_aload_n hx hb dX7_key_20 rfl (lv_at hl 1 rfl) ?_
    refine va_get (v := .int (iI (s0_21.1 11))) (ci := 7) (C := RX7) (T := TX7) (N := 12) hx hb hts imX7_key_X7 hown hK hP 0 rfl rfl 11 (by decide) k1 (fun _ h9 => h9) rfl dX7_key_21 ?_
    refine lv_bipush (v := iI (-6)) hx hb dX7_key_24 (by decide) ?_
    refine zr_icmp_ne (tgt := 80) (x := (s0_21.1 11)) (y := (-6)) hx hb (rs0_21.1 11) rg_m6 dX7_key_26 (by decide) (fun c29 => ?_) (fun c29 => ?_)
    · have h32 := h28.2 c29
      refine lv_iload_n hx hb dX7_key_80 rfl (lv_at hl 0 rfl) ?_
      exact zr_iret (z := x1_21) hx hb hr hlocks hK (s0_21) hP hD hS dX7_key_81 ⟨rx1_21, rs0_21, h32⟩
    · have h33 := h28.1 c29
      refine lv_iload_n hx hb dX7_key_29 rfl (lv_at hl 0 rfl) ?_
      refine zr_if_le (tgt := 80) (x := x1_21) hx hb rx1_21 dX7_key_30 (by decide) (fun c34 => ?_) (fun c34 => ?_)
      · have h37 := h33.2 c34
        refine lv_iload_n hx hb dX7_key_80 rfl (lv_at hl 0 rfl) ?_
        exact zr_iret (z := x1_21) hx hb hr hlocks hK (s0_21) hP hD hS dX7_key_81 ⟨rx1_21, rs0_21, h37⟩
      · have h38 := h33.1 c34
        refine lv_aload_n hx hb dX7_key_33 rfl (lv_at hl 1 rfl) ?_
        obtain ⟨b39, h40⟩ := h38
        obtain ⟨b41, h42⟩ := h40
        obtain ⟨b43, h44⟩ := h42
        refine zc_vi (As := []) (rest := []) (w2 := fun u_45 => W7 G a s0_21) (c_X7_figure l G a s0_21 rs0_21 b39 b41 b43) ⟨hx, hb, hml, hown, hts⟩ (cwV 0 hts gX7_key_X7_figure rfl rfl rfl hdX7_figure ⟨Nat.le_of_ble_eq_true rfl, Nat.le_of_ble_eq_true rfl⟩) hK hP hD hS hA (q0 := 0) rfl rfl [0, 1, 2, 3, 4, 5, 6] [] [0, 1, 2, 3, 4, 5, 6] rfl rfl rfl rfl (by decide) (fun _ => rfl) rfl rfl hl.1 rfl (Nat.le_of_ble_eq_true rfl) dX7_key_34 ⟨Nat.zero_le _, Nat.zero_le _⟩ (fun z46 u_45 H locs hw hP hD hS => ?_)
        obtain ⟨rfl, r47⟩ := hw
        have hP : va_P G.1 vwCl (W7 G a s0_21) H := hP
        have hD : va_D A (W7 G a s0_21) := hD
        refine lv_bipush (v := iI (-6)) hx hb dX7_key_37 (by decide) ?_
        refine zr_icmp_eq (tgt := 80) (x := figZ s0_21) (y := (-6)) hx hb r47 rg_m6 dX7_key_39 (by decide) (fun c48 => ?_) (fun c48 => ?_)
        · have h51 := h44.1 c48
          refine lv_iload_n hx hb dX7_key_80 rfl (lv_at hl 0 rfl) ?_
          exact zr_iret (z := x1_21) hx hb hr hlocks hK (s0_21) hP hD hS dX7_key_81 ⟨rx1_21, rs0_21, h51⟩
        · have h52 := h44.2 c48
          refine lv_bipush (v := iI 10) hx hb dX7_key_42 (by decide) ?_
          refine lv_iload_n hx hb dX7_key_44 rfl (lv_at hl 0 rfl) ?_
          refine zr_imul (x := 10) (y := x1_21) hx hb dX7_key_45 ?_
          obtain ⟨r53, h54⟩ := h52
          refine lv_aload_n hx hb dX7_key_46 rfl (lv_at hl 1 rfl) ?_
          refine zc_vi (As := []) (rest := [.int (iI (10 * x1_21))]) (w2 := fun u_55 => W7 G a s0_21) (c_X7_figure l G a s0_21 rs0_21 b39 b41 b43) ⟨hx, hb, hml, hown, hts⟩ (cwV 0 hts gX7_key_X7_figure rfl rfl rfl hdX7_figure ⟨Nat.le_of_ble_eq_true rfl, Nat.le_of_ble_eq_true rfl⟩) hK hP hD hS hA (q0 := 0) rfl rfl [0, 1, 2, 3, 4, 5, 6] [] [0, 1, 2, 3, 4, 5, 6] rfl rfl rfl rfl (by decide) (fun _ => rfl) rfl rfl hl.1 rfl (Nat.le_of_ble_eq_true rfl) dX7_key_47 ⟨Nat.zero_le _, Nat.zero_le _⟩ (fun z56 u_55 H locs hw hP hD hS => ?_)
          obtain ⟨rfl, r57⟩ := hw
          have hP : va_P G.1 vwCl (W7 G a s0_21) H := hP
          have hD : va_D A (W7 G a s0_21) := hD
          refine zr_iadd (x := 10 * x1_21) (y := figZ s0_21) hx hb dX7_key_50 ?_
          obtain ⟨r58, h59⟩ := h54
          refine lv_sipush (v := iI 1000) hx hb dX7_key_51 (by decide) ?_
          refine zr_icmp_ge (tgt := 80) (x := (10 * x1_21) + (figZ s0_21)) (y := 1000) hx hb r58 rg_1000 dX7_key_54 (by decide) (fun c60 => ?_) (fun c60 => ?_)
          · have h63 := h59.2 c60
            refine lv_iload_n hx hb dX7_key_80 rfl (lv_at hl 0 rfl) ?_
            exact zr_iret (z := x1_21) hx hb hr hlocks hK (s0_21) hP hD hS dX7_key_81 ⟨rx1_21, rs0_21, h63⟩
          · have h64 := h59.1 c60
            refine lv_bipush (v := iI 10) hx hb dX7_key_57 (by decide) ?_
            refine lv_iload_n hx hb dX7_key_59 rfl (lv_at hl 0 rfl) ?_
            refine zr_imul (x := 10) (y := x1_21) hx hb dX7_key_60 ?_
            refine lv_aload_n hx hb dX7_key_61 rfl (lv_at hl 1 rfl) ?_
            refine zc_vi (As := []) (rest := [.int (iI (10 * x1_21))]) (w2 := fun u_65 => W7 G a s0_21) (c_X7_figure l G a s0_21 rs0_21 b39 b41 b43) ⟨hx, hb, hml, hown, hts⟩ (cwV 0 hts gX7_key_X7_figure rfl rfl rfl hdX7_figure ⟨Nat.le_of_ble_eq_true rfl, Nat.le_of_ble_eq_true rfl⟩) hK hP hD hS hA (q0 := 0) rfl rfl [0, 1, 2, 3, 4, 5, 6] [] [0, 1, 2, 3, 4, 5, 6] rfl rfl rfl rfl (by decide) (fun _ => rfl) rfl rfl hl.1 rfl (Nat.le_of_ble_eq_true rfl) dX7_key_62 ⟨Nat.zero_le _, Nat.zero_le _⟩ (fun z66 u_65 H locs hw hP hD hS => ?_)
            obtain ⟨rfl, r67⟩ := hw
            have hP : va_P G.1 vwCl (W7 G a s0_21) H := hP
            have hD : va_D A (W7 G a s0_21) := hD
            refine zr_iadd (x := 10 * x1_21) (y := figZ s0_21) hx hb dX7_key_65 ?_
            refine lv_istore_n (lv' := [(1, .int (iI ((10 * x1_21) + (figZ s0_21)))), (0, .ref (a 0))]) hx hb dX7_key_66 rfl hl (by decide) rfl (fun ls hl => ?_)
            refine lv_aload_n hx hb dX7_key_67 rfl (lv_at hl 1 rfl) ?_
            refine lv_dup hx hb dX7_key_68 rfl ?_
            refine va_get (v := .int (iI (s0_21.1 10))) (ci := 7) (C := RX7) (T := TX7) (N := 12) hx hb hts imX7_key_X7 hown hK hP 0 rfl rfl 10 (by decide) k2 (fun _ h9 => h9) rfl dX7_key_69 ?_
            refine lv_iconst (v := iI 1) hx hb dX7_key_72 rfl ?_
            refine zr_iadd (x := (s0_21.1 10)) (y := 1) hx hb dX7_key_73 ?_
            obtain ⟨r68, h69⟩ := h64
            refine va_put (v := .int (iI ((s0_21.1 10) + 1))) (ty := .int) (ci := 7) (C := RX7) (T := TX7) (N := 12) hx hb hts imX7_key_X7 tyX7 tyX7_ok nmX7 hown hK hP hD hS 0 rfl rfl 10 (by decide) k2 (fun _ h9 => h9) rfl (tyX7_ok 10 (by decide)) rfl rfl (Nat.le_of_ble_eq_true rfl) dX7_key_74 (fun H locs hP hD hS => ?_)
            have hP : va_P G.1 vwCl (W7 G a (sS s0_21 10 ((s0_21.1 10) + 1))) H := hP
            have hD : va_D A (W7 G a (sS s0_21 10 ((s0_21.1 10) + 1))) := hD
            refine lv_goto (tgt := 20) hx hb dX7_key_77 (by decide) ?_
            obtain ⟨h70, h71⟩ := h69
            exact ih26 (((10 * x1_21) + (figZ s0_21), sS s0_21 10 ((s0_21.1 10) + 1))) _ _ _ ⟨⟨r58, (RG_S rs0_21 r68)⟩, h70⟩ h71 hP hD hS (lv_sub hl [0, 1] rfl)
  · have h72 := h6.2 c10
    refine lv_iconst (v := iI 1) hx hb dX7_key_12 rfl ?_
    refine lv_goto (tgt := 17) hx hb dX7_key_13 (by decide) ?_
    obtain ⟨b73, h74⟩ := h72
    obtain ⟨b75, h76⟩ := h74
    refine zc_vv (As := [.int (iI 1)]) (rest := []) (w2 := fun u_78 => W7 G a (sS (sS s 10 ((s.1 10) + 1)) 11 (-6))) (c_X7_wants1 l G a s r_s b73 b75) ⟨hx, hb, hml, hown, hts⟩ (cwV 1 hts gX7_key_X7_wants rfl rfl rfl hdX7_wants ⟨Nat.le_of_ble_eq_true rfl, Nat.le_of_ble_eq_true rfl⟩) hK hP hD hS hA (q0 := 0) rfl rfl [0, 1, 2, 3, 4, 5, 6] [] [0, 1, 2, 3, 4, 5, 6] rfl rfl rfl rfl (by decide) (fun _ => rfl) rfl rfl hl.1 rfl (Nat.le_of_ble_eq_true rfl) dX7_key_17 ⟨Nat.zero_le _, Nat.zero_le _⟩ (fun u_78 H locs hw hP hD hS => ?_)
    have r77 := hw
    have hP : va_P G.1 vwCl (W7 G a (sS (sS s 10 ((s.1 10) + 1)) 11 (-6))) H := hP
    have hD : va_D A (W7 G a (sS (sS s 10 ((s.1 10) + 1)) 11 (-6))) := hD
    obtain ⟨I81, μ82, h83, h84⟩ := h76
    refine zr_loop (G := G) (σ := Int × SS) (fun x_80 => (rg x_80.1 ∧ RG x_80.2) ∧ I81 x_80.1 x_80.2) (fun x_80 => μ82 x_80.1 x_80.2) (fun x_80 => W7 G a x_80.2) (fun x_80 => [(1, .int (iI x_80.1)), (0, .ref (a 0))]) ((figZ s, sS (sS s 10 ((s.1 10) + 1)) 11 (-6))) ⟨⟨r9, (RG_S (RG_S r_s (r77.1 10)) (r77.1 11))⟩, h83⟩ hP hD hS (lv_sub hl [0, 1] rfl) ?_
    clear hP hD hS hl
    intro x_80 H locs ls ih85 h86 hP hD hS hl
    obtain ⟨x1_80, s0_80⟩ := x_80
    obtain ⟨⟨rx1_80, rs0_80⟩, h86⟩ := h86
    have h87 := h84 x1_80 s0_80 rx1_80 rs0_80 h86
    have hP : va_P G.1 vwCl (W7 G a s0_80) H := hP
    have hD : va_D A (W7 G a s0_80) := hD
    have hl : lv_has ls 2 [(1, .int (iI x1_80)), (0, .ref (a 0))] := hl
    refine lv_aload_n hx hb dX7_key_20 rfl (lv_at hl 1 rfl) ?_
    refine va_get (v := .int (iI (s0_80.1 11))) (ci := 7) (C := RX7) (T := TX7) (N := 12) hx hb hts imX7_key_X7 hown hK hP 0 rfl rfl 11 (by decide) k1 (fun _ h9 => h9) rfl dX7_key_21 ?_
    refine lv_bipush (v := iI (-6)) hx hb dX7_key_24 (by decide) ?_
    refine zr_icmp_ne (tgt := 80) (x := (s0_80.1 11)) (y := (-6)) hx hb (rs0_80.1 11) rg_m6 dX7_key_26 (by decide) (fun c88 => ?_) (fun c88 => ?_)
    · have h91 := h87.2 c88
      refine lv_iload_n hx hb dX7_key_80 rfl (lv_at hl 0 rfl) ?_
      exact zr_iret (z := x1_80) hx hb hr hlocks hK (s0_80) hP hD hS dX7_key_81 ⟨rx1_80, rs0_80, h91⟩
    · have h92 := h87.1 c88
      refine lv_iload_n hx hb dX7_key_29 rfl (lv_at hl 0 rfl) ?_
      refine zr_if_le (tgt := 80) (x := x1_80) hx hb rx1_80 dX7_key_30 (by decide) (fun c93 => ?_) (fun c93 => ?_)
      · have h96 := h92.2 c93
        refine lv_iload_n hx hb dX7_key_80 rfl (lv_at hl 0 rfl) ?_
        exact zr_iret (z := x1_80) hx hb hr hlocks hK (s0_80) hP hD hS dX7_key_81 ⟨rx1_80, rs0_80, h96⟩
      · have h97 := h92.1 c93
        refine lv_aload_n hx hb dX7_key_33 rfl (lv_at hl 1 rfl) ?_
        obtain ⟨b98, h99⟩ := h97
        obtain ⟨b100, h101⟩ := h99
        obtain ⟨b102, h103⟩ := h101
        refine zc_vi (As := []) (rest := []) (w2 := fun u_104 => W7 G a s0_80) (c_X7_figure l G a s0_80 rs0_80 b98 b100 b102) ⟨hx, hb, hml, hown, hts⟩ (cwV 0 hts gX7_key_X7_figure rfl rfl rfl hdX7_figure ⟨Nat.le_of_ble_eq_true rfl, Nat.le_of_ble_eq_true rfl⟩) hK hP hD hS hA (q0 := 0) rfl rfl [0, 1, 2, 3, 4, 5, 6] [] [0, 1, 2, 3, 4, 5, 6] rfl rfl rfl rfl (by decide) (fun _ => rfl) rfl rfl hl.1 rfl (Nat.le_of_ble_eq_true rfl) dX7_key_34 ⟨Nat.zero_le _, Nat.zero_le _⟩ (fun z105 u_104 H locs hw hP hD hS => ?_)
        obtain ⟨rfl, r106⟩ := hw
        have hP : va_P G.1 vwCl (W7 G a s0_80) H := hP
        have hD : va_D A (W7 G a s0_80) := hD
        refine lv_bipush (v := iI (-6)) hx hb dX7_key_37 (by decide) ?_
        refine zr_icmp_eq (tgt := 80) (x := figZ s0_80) (y := (-6)) hx hb r106 rg_m6 dX7_key_39 (by decide) (fun c107 => ?_) (fun c107 => ?_)
        · have h110 := h103.1 c107
          refine lv_iload_n hx hb dX7_key_80 rfl (lv_at hl 0 rfl) ?_
          exact zr_iret (z := x1_80) hx hb hr hlocks hK (s0_80) hP hD hS dX7_key_81 ⟨rx1_80, rs0_80, h110⟩
        · have h111 := h103.2 c107
          refine lv_bipush (v := iI 10) hx hb dX7_key_42 (by decide) ?_
          refine lv_iload_n hx hb dX7_key_44 rfl (lv_at hl 0 rfl) ?_
          refine zr_imul (x := 10) (y := x1_80) hx hb dX7_key_45 ?_
          obtain ⟨r112, h113⟩ := h111
          refine lv_aload_n hx hb dX7_key_46 rfl (lv_at hl 1 rfl) ?_
          refine zc_vi (As := []) (rest := [.int (iI (10 * x1_80))]) (w2 := fun u_114 => W7 G a s0_80) (c_X7_figure l G a s0_80 rs0_80 b98 b100 b102) ⟨hx, hb, hml, hown, hts⟩ (cwV 0 hts gX7_key_X7_figure rfl rfl rfl hdX7_figure ⟨Nat.le_of_ble_eq_true rfl, Nat.le_of_ble_eq_true rfl⟩) hK hP hD hS hA (q0 := 0) rfl rfl [0, 1, 2, 3, 4, 5, 6] [] [0, 1, 2, 3, 4, 5, 6] rfl rfl rfl rfl (by decide) (fun _ => rfl) rfl rfl hl.1 rfl (Nat.le_of_ble_eq_true rfl) dX7_key_47 ⟨Nat.zero_le _, Nat.zero_le _⟩ (fun z115 u_114 H locs hw hP hD hS => ?_)
          obtain ⟨rfl, r116⟩ := hw
          have hP : va_P G.1 vwCl (W7 G a s0_80) H := hP
          have hD : va_D A (W7 G a s0_80) := hD
          refine zr_iadd (x := 10 * x1_80) (y := figZ s0_80) hx hb dX7_key_50 ?_
          obtain ⟨r117, h118⟩ := h113
          refine lv_sipush (v := iI 1000) hx hb dX7_key_51 (by decide) ?_
          refine zr_icmp_ge (tgt := 80) (x := (10 * x1_80) + (figZ s0_80)) (y := 1000) hx hb r117 rg_1000 dX7_key_54 (by decide) (fun c119 => ?_) (fun c119 => ?_)
          · have h122 := h118.2 c119
            refine lv_iload_n hx hb dX7_key_80 rfl (lv_at hl 0 rfl) ?_
            exact zr_iret (z := x1_80) hx hb hr hlocks hK (s0_80) hP hD hS dX7_key_81 ⟨rx1_80, rs0_80, h122⟩
          · have h123 := h118.1 c119
            refine lv_bipush (v := iI 10) hx hb dX7_key_57 (by decide) ?_
            refine lv_iload_n hx hb dX7_key_59 rfl (lv_at hl 0 rfl) ?_
            refine zr_imul (x := 10) (y := x1_80) hx hb dX7_key_60 ?_
            refine lv_aload_n hx hb dX7_key_61 rfl (lv_at hl 1 rfl) ?_
            refine zc_vi (As := []) (rest := [.int (iI (10 * x1_80))]) (w2 := fun u_124 => W7 G a s0_80) (c_X7_figure l G a s0_80 rs0_80 b98 b100 b102) ⟨hx, hb, hml, hown, hts⟩ (cwV 0 hts gX7_key_X7_figure rfl rfl rfl hdX7_figure ⟨Nat.le_of_ble_eq_true rfl, Nat.le_of_ble_eq_true rfl⟩) hK hP hD hS hA (q0 := 0) rfl rfl [0, 1, 2, 3, 4, 5, 6] [] [0, 1, 2, 3, 4, 5, 6] rfl rfl rfl rfl (by decide) (fun _ => rfl) rfl rfl hl.1 rfl (Nat.le_of_ble_eq_true rfl) dX7_key_62 ⟨Nat.zero_le _, Nat.zero_le _⟩ (fun z125 u_124 H locs hw hP hD hS => ?_)
            obtain ⟨rfl, r126⟩ := hw
            have hP : va_P G.1 vwCl (W7 G a s0_80) H := hP
            have hD : va_D A (W7 G a s0_80) := hD
            refine zr_iadd (x := 10 * x1_80) (y := figZ s0_80) hx hb dX7_key_65 ?_
            refine lv_istore_n (lv' := [(1, .int (iI ((10 * x1_80) + (figZ s0_80)))), (0, .ref (a 0))]) hx hb dX7_key_66 rfl hl (by decide) rfl (fun ls hl => ?_)
            refine lv_aload_n hx hb dX7_key_67 rfl (lv_at hl 1 rfl) ?_
            refine lv_dup hx hb dX7_key_68 rfl ?_
            refine va_get (v := .int (iI (s0_80.1 10))) (ci := 7) (C := RX7) (T := TX7) (N := 12) hx hb hts imX7_key_X7 hown hK hP 0 rfl rfl 10 (by decide) k2 (fun _ h9 => h9) rfl dX7_key_69 ?_
            refine lv_iconst (v := iI 1) hx hb dX7_key_72 rfl ?_
            refine zr_iadd (x := (s0_80.1 10)) (y := 1) hx hb dX7_key_73 ?_
            obtain ⟨r127, h128⟩ := h123
            refine va_put (v := .int (iI ((s0_80.1 10) + 1))) (ty := .int) (ci := 7) (C := RX7) (T := TX7) (N := 12) hx hb hts imX7_key_X7 tyX7 tyX7_ok nmX7 hown hK hP hD hS 0 rfl rfl 10 (by decide) k2 (fun _ h9 => h9) rfl (tyX7_ok 10 (by decide)) rfl rfl (Nat.le_of_ble_eq_true rfl) dX7_key_74 (fun H locs hP hD hS => ?_)
            have hP : va_P G.1 vwCl (W7 G a (sS s0_80 10 ((s0_80.1 10) + 1))) H := hP
            have hD : va_D A (W7 G a (sS s0_80 10 ((s0_80.1 10) + 1))) := hD
            refine lv_goto (tgt := 20) hx hb dX7_key_77 (by decide) ?_
            obtain ⟨h129, h130⟩ := h128
            exact ih85 (((10 * x1_80) + (figZ s0_80), sS s0_80 10 ((s0_80.1 10) + 1))) _ _ _ ⟨⟨r117, (RG_S rs0_80 r127)⟩, h129⟩ h130 hP hD hS (lv_sub hl [0, 1] rfl)
theorem c_X7_key (l : Launch) (G : ZG) (a : Nat → Nat) (s : SS)   (r_s : RG s)  (p0 : 0 ≤ (s.1 7) ∧ (s.1 7) ≤ 80) (p1 : Bf s) (p2 : (s.1 11) = -6) (p3 : 0 ≤ (s.1 10) ∧ (s.1 10) ≤ (s.1 7)) (p4 : StA (s.2 6) (s.1 10) (0, 0, 0, 0)) : ZI l G yX7_key wsX7_key 2 43 [.ref (a 0)] (W7 G a s) (fun u : SS => W7 G a u) (fun (zq : Int) (u : SS) => rg zq ∧ RG u ∧ (psA s u 0 0 zq 0 999)) :=
  c0_X7_key l G a s (fun r s' => psA s s' 0 0 r 0 999) r_s  (sp_X7_key s  r_s  p0 p1 p2 p3 p4)
theorem imX7_greater_X7 : ∀ w ∈ wsX70, w ∈ wsX7_greater := fun _ h => (List.mem_cons_of_mem _ (List.mem_append_right _ h))
theorem hdX7_greater : yX7_greater.cls = RX7 ∧ yX7_greater.cls ≠ "java/lang/invoke/MethodHandle" ∧ yX7_greater.cls ≠ "java/lang/invoke/VarHandle" ∧ (parseMethodDescriptor yX7_greater.desc).map (fun d => d.parameters.length) = some 1 := by decide +kernel
set_option maxRecDepth 100000 in
set_option maxHeartbeats 4000000 in
theorem c0_X7_greater (l : Launch) (G : ZG) (a : Nat → Nat) (s : SS) (than : Int) (P : Int → SS → Prop) (r_s : RG s) (r_than : rg than) (hwp : wp_X7_greater s than P) : ZI l G yX7_greater wsX7_greater 2 43 [.ref (a 0), .int (iI than)] (W7 G a s) (fun u : SS => W7 G a u) (fun (z : Int) (u : SS) => rg z ∧ RG u ∧ P z u) := by
  unfold wp_X7_greater at hwp
  refine zm_i (cc := cX7_greater) (maxL := 4) (ret := some .int) (own := RX7) (lvs := [(0, .ref (a 0)), (1, .int (iI than))]) (by decide) rfl rfl (Nat.le_of_ble_eq_true rfl) rfl ?_
  intro p e sT m args below meth c ls A hx hb hr hml hown hts hlocks hK hP hD hS hA hl
  have k1 := hts (.fieldLink RX7 148 "GrantedSortModel" "wrong" "I") (List.mem_of_getElem? (i := 1) rfl)
  have k2 := hts (.fieldLink RX7 142 "GrantedSortModel" "spot" "I") (List.mem_of_getElem? (i := 2) rfl)
  refine lv_aload_n hx hb dX7_greater_0 rfl (lv_at hl 0 rfl) ?_
  obtain ⟨b1, h2⟩ := hwp
  obtain ⟨b3, h4⟩ := h2
  obtain ⟨b5, h6⟩ := h4
  refine zc_vi (As := []) (rest := []) (w2 := fun u_7 => W7 G a s) (c_X7_figure l G a s r_s b1 b3 b5) ⟨hx, hb, hml, hown, hts⟩ (cwV 0 hts gX7_greater_X7_figure rfl rfl rfl hdX7_figure ⟨Nat.le_of_ble_eq_true rfl, Nat.le_of_ble_eq_true rfl⟩) hK hP hD hS hA (q0 := 0) rfl rfl [0, 1, 2, 3, 4, 5, 6] [] [0, 1, 2, 3, 4, 5, 6] rfl rfl rfl rfl (by decide) (fun _ => rfl) rfl rfl hl.1 rfl (Nat.le_of_ble_eq_true rfl) dX7_greater_1 ⟨Nat.zero_le _, Nat.zero_le _⟩ (fun z8 u_7 H locs hw hP hD hS => ?_)
  obtain ⟨rfl, r9⟩ := hw
  have hP : va_P G.1 vwCl (W7 G a s) H := hP
  have hD : va_D A (W7 G a s) := hD
  refine lv_istore_n (lv' := [(2, .int (iI (figZ s))), (0, .ref (a 0)), (1, .int (iI than))]) hx hb dX7_greater_4 rfl hl (by decide) rfl (fun ls hl => ?_)
  refine lv_aload_n hx hb dX7_greater_5 rfl (lv_at hl 1 rfl) ?_
  refine lv_iload_n hx hb dX7_greater_6 rfl (lv_at hl 0 rfl) ?_
  refine zr_if_le (tgt := 25) (x := figZ s) hx hb r9 dX7_greater_7 (by decide) (fun c10 => ?_) (fun c10 => ?_)
  · have h13 := h6.2 c10
    refine lv_iconst (v := iI 0) hx hb dX7_greater_25 rfl ?_
    obtain ⟨b14, h15⟩ := h13
    obtain ⟨b16, h17⟩ := h15
    refine zc_vv (As := [.int (iI 0)]) (rest := []) (w2 := fun u_19 => W7 G a (sS (sS s 10 ((s.1 10) + 1)) 11 (s.1 10))) (c_X7_wants0 l G a s r_s b14 b16) ⟨hx, hb, hml, hown, hts⟩ (cwV 1 hts gX7_greater_X7_wants rfl rfl rfl hdX7_wants ⟨Nat.le_of_ble_eq_true rfl, Nat.le_of_ble_eq_true rfl⟩) hK hP hD hS hA (q0 := 0) rfl rfl [0, 1, 2, 3, 4, 5, 6] [] [0, 1, 2, 3, 4, 5, 6] rfl rfl rfl rfl (by decide) (fun _ => rfl) rfl rfl hl.1 rfl (Nat.le_of_ble_eq_true rfl) dX7_greater_26 ⟨Nat.zero_le _, Nat.zero_le _⟩ (fun u_19 H locs hw hP hD hS => ?_)
    have r18 := hw
    have hP : va_P G.1 vwCl (W7 G a (sS (sS s 10 ((s.1 10) + 1)) 11 (s.1 10))) H := hP
    have hD : va_D A (W7 G a (sS (sS s 10 ((s.1 10) + 1)) 11 (s.1 10))) := hD
    refine lv_bipush (v := iI 10) hx hb dX7_greater_29 (by decide) ?_
    refine lv_istore_n (lv' := [(3, .int (iI 10)), (2, .int (iI (figZ s))), (0, .ref (a 0)), (1, .int (iI than))]) hx hb dX7_greater_31 rfl hl (by decide) rfl (fun ls hl => ?_)
    obtain ⟨I22, μ23, h24, h25⟩ := h17
    refine zr_loop (G := G) (σ := Int × Int × SS) (fun x_21 => (rg x_21.1 ∧ rg x_21.2.1 ∧ RG x_21.2.2) ∧ I22 x_21.1 x_21.2.1 x_21.2.2) (fun x_21 => μ23 x_21.1 x_21.2.1 x_21.2.2) (fun x_21 => W7 G a x_21.2.2) (fun x_21 => [(3, .int (iI x_21.2.1)), (2, .int (iI x_21.1)), (0, .ref (a 0)), (1, .int (iI than))]) ((figZ s, 10, sS (sS s 10 ((s.1 10) + 1)) 11 (s.1 10))) ⟨⟨r9, rg_10, (RG_S (RG_S r_s (r18.1 10)) (r18.1 11))⟩, h24⟩ hP hD hS (lv_sub hl [0, 1, 2, 3] rfl) ?_
    clear hP hD hS hl
    intro x_21 H locs ls ih26 h27 hP hD hS hl
    obtain ⟨x2_21, x3_21, s0_21⟩ := x_21
    obtain ⟨⟨rx2_21, rx3_21, rs0_21⟩, h27⟩ := h27
    have h28 := h25 x2_21 x3_21 s0_21 rx2_21 rx3_21 rs0_21 h27
    have hP : va_P G.1 vwCl (W7 G a s0_21) H := hP
    have hD : va_D A (W7 G a s0_21) := hD
    have hl : lv_has ls 4 [(3, .int (iI x3_21)), (2, .int (iI x2_21)), (0, .ref (a 0)), (1, .int (iI than))] := hl
    refine lv_aload_n hx hb dX7_greater_32 rfl (lv_at hl 2 rfl) ?_
    refine va_get (v := .int (iI (s0_21.1 11))) (ci := 7) (C := RX7) (T := TX7) (N := 12) hx hb hts imX7_greater_X7 hown hK hP 0 rfl rfl 11 (by decide) k1 (fun _ h9 => h9) rfl dX7_greater_33 ?_
    refine lv_bipush (v := iI (-6)) hx hb dX7_greater_36 (by decide) ?_
    refine zr_icmp_ne (tgt := 101) (x := (s0_21.1 11)) (y := (-6)) hx hb (rs0_21.1 11) rg_m6 dX7_greater_38 (by decide) (fun c29 => ?_) (fun c29 => ?_)
    · have h32 := h28.2 c29
      refine lv_aload_n hx hb dX7_greater_101 rfl (lv_at hl 2 rfl) ?_
      refine va_get (v := .int (iI (s0_21.1 11))) (ci := 7) (C := RX7) (T := TX7) (N := 12) hx hb hts imX7_greater_X7 hown hK hP 0 rfl rfl 11 (by decide) k1 (fun _ h9 => h9) rfl dX7_greater_102 ?_
      refine lv_bipush (v := iI (-6)) hx hb dX7_greater_105 (by decide) ?_
      refine zr_icmp_ne (tgt := 123) (x := (s0_21.1 11)) (y := (-6)) hx hb (rs0_21.1 11) rg_m6 dX7_greater_107 (by decide) (fun _ => ?_) (fun c => absurd c c29)
      refine lv_iload_n hx hb dX7_greater_123 rfl (lv_at hl 1 rfl) ?_
      exact zr_iret (z := x2_21) hx hb hr hlocks hK (s0_21) hP hD hS dX7_greater_124 ⟨rx2_21, rs0_21, h32⟩
    · have h33 := h28.1 c29
      refine lv_aload_n hx hb dX7_greater_41 rfl (lv_at hl 2 rfl) ?_
      obtain ⟨b34, h35⟩ := h33
      obtain ⟨b36, h37⟩ := h35
      obtain ⟨b38, h39⟩ := h37
      refine zc_vi (As := []) (rest := []) (w2 := fun u_40 => W7 G a s0_21) (c_X7_figure l G a s0_21 rs0_21 b34 b36 b38) ⟨hx, hb, hml, hown, hts⟩ (cwV 0 hts gX7_greater_X7_figure rfl rfl rfl hdX7_figure ⟨Nat.le_of_ble_eq_true rfl, Nat.le_of_ble_eq_true rfl⟩) hK hP hD hS hA (q0 := 0) rfl rfl [0, 1, 2, 3, 4, 5, 6] [] [0, 1, 2, 3, 4, 5, 6] rfl rfl rfl rfl (by decide) (fun _ => rfl) rfl rfl hl.1 rfl (Nat.le_of_ble_eq_true rfl) dX7_greater_42 ⟨Nat.zero_le _, Nat.zero_le _⟩ (fun z41 u_40 H locs hw hP hD hS => ?_)
      obtain ⟨rfl, r42⟩ := hw
      have hP : va_P G.1 vwCl (W7 G a s0_21) H := hP
      have hD : va_D A (W7 G a s0_21) := hD
      refine lv_bipush (v := iI (-6)) hx hb dX7_greater_45 (by decide) ?_
      refine zr_icmp_eq (tgt := 101) (x := figZ s0_21) (y := (-6)) hx hb r42 rg_m6 dX7_greater_47 (by decide) (fun c43 => ?_) (fun c43 => ?_)
      · have h46 := h39.1 c43
        refine lv_aload_n hx hb dX7_greater_101 rfl (lv_at hl 2 rfl) ?_
        refine va_get (v := .int (iI (s0_21.1 11))) (ci := 7) (C := RX7) (T := TX7) (N := 12) hx hb hts imX7_greater_X7 hown hK hP 0 rfl rfl 11 (by decide) k1 (fun _ h9 => h9) rfl dX7_greater_102 ?_
        refine lv_bipush (v := iI (-6)) hx hb dX7_greater_105 (by decide) ?_
        refine zr_icmp_ne (tgt := 123) (x := (s0_21.1 11)) (y := (-6)) hx hb (rs0_21.1 11) rg_m6 dX7_greater_107 (by decide) (fun c => absurd c29 c) (fun _ => ?_)
        refine lv_iload_n hx hb dX7_greater_110 rfl (lv_at hl 1 rfl) ?_
        refine lv_iload_n hx hb dX7_greater_111 rfl (lv_at hl 3 rfl) ?_
        refine zr_icmp_gt (tgt := 123) (x := x2_21) (y := than) hx hb rx2_21 r_than dX7_greater_112 (by decide) (fun c47 => ?_) (fun c47 => ?_)
        · have h50 := h46.1 c47
          refine lv_iload_n hx hb dX7_greater_123 rfl (lv_at hl 1 rfl) ?_
          exact zr_iret (z := x2_21) hx hb hr hlocks hK (s0_21) hP hD hS dX7_greater_124 ⟨rx2_21, rs0_21, h50⟩
        · have h51 := h46.2 c47
          refine lv_aload_n hx hb dX7_greater_115 rfl (lv_at hl 2 rfl) ?_
          refine lv_aload_n hx hb dX7_greater_116 rfl (lv_at hl 2 rfl) ?_
          refine va_get (v := .int (iI (s0_21.1 10))) (ci := 7) (C := RX7) (T := TX7) (N := 12) hx hb hts imX7_greater_X7 hown hK hP 0 rfl rfl 10 (by decide) k2 (fun _ h9 => h9) rfl dX7_greater_117 ?_
          refine va_put (v := .int (iI (s0_21.1 10))) (ty := .int) (ci := 7) (C := RX7) (T := TX7) (N := 12) hx hb hts imX7_greater_X7 tyX7 tyX7_ok nmX7 hown hK hP hD hS 0 rfl rfl 11 (by decide) k1 (fun _ h9 => h9) rfl (tyX7_ok 11 (by decide)) rfl rfl (Nat.le_of_ble_eq_true rfl) dX7_greater_120 (fun H locs hP hD hS => ?_)
          have hP : va_P G.1 vwCl (W7 G a (sS s0_21 11 (s0_21.1 10))) H := hP
          have hD : va_D A (W7 G a (sS s0_21 11 (s0_21.1 10))) := hD
          refine lv_iload_n hx hb dX7_greater_123 rfl (lv_at hl 1 rfl) ?_
          exact zr_iret (z := x2_21) hx hb hr hlocks hK (sS s0_21 11 (s0_21.1 10)) hP hD hS dX7_greater_124 ⟨rx2_21, (RG_S rs0_21 (rs0_21.1 10)), h51⟩
      · have h52 := h39.2 c43
        refine lv_iload_n hx hb dX7_greater_50 rfl (lv_at hl 0 rfl) ?_
        refine zr_if_le (tgt := 101) (x := x3_21) hx hb rx3_21 dX7_greater_51 (by decide) (fun c53 => ?_) (fun c53 => ?_)
        · have h56 := h52.2 c53
          refine lv_aload_n hx hb dX7_greater_101 rfl (lv_at hl 2 rfl) ?_
          refine va_get (v := .int (iI (s0_21.1 11))) (ci := 7) (C := RX7) (T := TX7) (N := 12) hx hb hts imX7_greater_X7 hown hK hP 0 rfl rfl 11 (by decide) k1 (fun _ h9 => h9) rfl dX7_greater_102 ?_
          refine lv_bipush (v := iI (-6)) hx hb dX7_greater_105 (by decide) ?_
          refine zr_icmp_ne (tgt := 123) (x := (s0_21.1 11)) (y := (-6)) hx hb (rs0_21.1 11) rg_m6 dX7_greater_107 (by decide) (fun c => absurd c29 c) (fun _ => ?_)
          refine lv_iload_n hx hb dX7_greater_110 rfl (lv_at hl 1 rfl) ?_
          refine lv_iload_n hx hb dX7_greater_111 rfl (lv_at hl 3 rfl) ?_
          refine zr_icmp_gt (tgt := 123) (x := x2_21) (y := than) hx hb rx2_21 r_than dX7_greater_112 (by decide) (fun c57 => ?_) (fun c57 => ?_)
          · have h60 := h56.1 c57
            refine lv_iload_n hx hb dX7_greater_123 rfl (lv_at hl 1 rfl) ?_
            exact zr_iret (z := x2_21) hx hb hr hlocks hK (s0_21) hP hD hS dX7_greater_124 ⟨rx2_21, rs0_21, h60⟩
          · have h61 := h56.2 c57
            refine lv_aload_n hx hb dX7_greater_115 rfl (lv_at hl 2 rfl) ?_
            refine lv_aload_n hx hb dX7_greater_116 rfl (lv_at hl 2 rfl) ?_
            refine va_get (v := .int (iI (s0_21.1 10))) (ci := 7) (C := RX7) (T := TX7) (N := 12) hx hb hts imX7_greater_X7 hown hK hP 0 rfl rfl 10 (by decide) k2 (fun _ h9 => h9) rfl dX7_greater_117 ?_
            refine va_put (v := .int (iI (s0_21.1 10))) (ty := .int) (ci := 7) (C := RX7) (T := TX7) (N := 12) hx hb hts imX7_greater_X7 tyX7 tyX7_ok nmX7 hown hK hP hD hS 0 rfl rfl 11 (by decide) k1 (fun _ h9 => h9) rfl (tyX7_ok 11 (by decide)) rfl rfl (Nat.le_of_ble_eq_true rfl) dX7_greater_120 (fun H locs hP hD hS => ?_)
            have hP : va_P G.1 vwCl (W7 G a (sS s0_21 11 (s0_21.1 10))) H := hP
            have hD : va_D A (W7 G a (sS s0_21 11 (s0_21.1 10))) := hD
            refine lv_iload_n hx hb dX7_greater_123 rfl (lv_at hl 1 rfl) ?_
            exact zr_iret (z := x2_21) hx hb hr hlocks hK (sS s0_21 11 (s0_21.1 10)) hP hD hS dX7_greater_124 ⟨rx2_21, (RG_S rs0_21 (rs0_21.1 10)), h61⟩
        · have h62 := h52.1 c53
          refine lv_bipush (v := iI 10) hx hb dX7_greater_54 (by decide) ?_
          refine lv_iload_n hx hb dX7_greater_56 rfl (lv_at hl 1 rfl) ?_
          refine zr_imul (x := 10) (y := x2_21) hx hb dX7_greater_57 ?_
          obtain ⟨r63, h64⟩ := h62
          refine lv_aload_n hx hb dX7_greater_58 rfl (lv_at hl 2 rfl) ?_
          refine zc_vi (As := []) (rest := [.int (iI (10 * x2_21))]) (w2 := fun u_65 => W7 G a s0_21) (c_X7_figure l G a s0_21 rs0_21 b34 b36 b38) ⟨hx, hb, hml, hown, hts⟩ (cwV 0 hts gX7_greater_X7_figure rfl rfl rfl hdX7_figure ⟨Nat.le_of_ble_eq_true rfl, Nat.le_of_ble_eq_true rfl⟩) hK hP hD hS hA (q0 := 0) rfl rfl [0, 1, 2, 3, 4, 5, 6] [] [0, 1, 2, 3, 4, 5, 6] rfl rfl rfl rfl (by decide) (fun _ => rfl) rfl rfl hl.1 rfl (Nat.le_of_ble_eq_true rfl) dX7_greater_59 ⟨Nat.zero_le _, Nat.zero_le _⟩ (fun z66 u_65 H locs hw hP hD hS => ?_)
          obtain ⟨rfl, r67⟩ := hw
          have hP : va_P G.1 vwCl (W7 G a s0_21) H := hP
          have hD : va_D A (W7 G a s0_21) := hD
          refine zr_iadd (x := 10 * x2_21) (y := figZ s0_21) hx hb dX7_greater_62 ?_
          obtain ⟨r68, h69⟩ := h64
          refine lv_iload_n hx hb dX7_greater_63 rfl (lv_at hl 0 rfl) ?_
          refine zr_imul (x := (10 * x2_21) + (figZ s0_21)) (y := x3_21) hx hb dX7_greater_64 ?_
          obtain ⟨r70, h71⟩ := h69
          refine lv_iload_n hx hb dX7_greater_65 rfl (lv_at hl 0 rfl) ?_
          refine zr_iadd (x := ((10 * x2_21) + (figZ s0_21)) * x3_21) (y := x3_21) hx hb dX7_greater_66 ?_
          obtain ⟨r72, h73⟩ := h71
          refine lv_iconst (v := iI 1) hx hb dX7_greater_67 rfl ?_
          refine zr_isub (x := (((10 * x2_21) + (figZ s0_21)) * x3_21) + x3_21) (y := 1) hx hb dX7_greater_68 ?_
          obtain ⟨r74, h75⟩ := h73
          refine lv_iload_n hx hb dX7_greater_69 rfl (lv_at hl 3 rfl) ?_
          refine zr_icmp_le (tgt := 101) (x := ((((10 * x2_21) + (figZ s0_21)) * x3_21) + x3_21) - 1) (y := than) hx hb r74 r_than dX7_greater_70 (by decide) (fun c76 => ?_) (fun c76 => ?_)
          · have h79 := h75.2 c76
            refine lv_aload_n hx hb dX7_greater_101 rfl (lv_at hl 2 rfl) ?_
            refine va_get (v := .int (iI (s0_21.1 11))) (ci := 7) (C := RX7) (T := TX7) (N := 12) hx hb hts imX7_greater_X7 hown hK hP 0 rfl rfl 11 (by decide) k1 (fun _ h9 => h9) rfl dX7_greater_102 ?_
            refine lv_bipush (v := iI (-6)) hx hb dX7_greater_105 (by decide) ?_
            refine zr_icmp_ne (tgt := 123) (x := (s0_21.1 11)) (y := (-6)) hx hb (rs0_21.1 11) rg_m6 dX7_greater_107 (by decide) (fun c => absurd c29 c) (fun _ => ?_)
            refine lv_iload_n hx hb dX7_greater_110 rfl (lv_at hl 1 rfl) ?_
            refine lv_iload_n hx hb dX7_greater_111 rfl (lv_at hl 3 rfl) ?_
            refine zr_icmp_gt (tgt := 123) (x := x2_21) (y := than) hx hb rx2_21 r_than dX7_greater_112 (by decide) (fun c80 => ?_) (fun c80 => ?_)
            · have h83 := h79.1 c80
              refine lv_iload_n hx hb dX7_greater_123 rfl (lv_at hl 1 rfl) ?_
              exact zr_iret (z := x2_21) hx hb hr hlocks hK (s0_21) hP hD hS dX7_greater_124 ⟨rx2_21, rs0_21, h83⟩
            · have h84 := h79.2 c80
              refine lv_aload_n hx hb dX7_greater_115 rfl (lv_at hl 2 rfl) ?_
              refine lv_aload_n hx hb dX7_greater_116 rfl (lv_at hl 2 rfl) ?_
              refine va_get (v := .int (iI (s0_21.1 10))) (ci := 7) (C := RX7) (T := TX7) (N := 12) hx hb hts imX7_greater_X7 hown hK hP 0 rfl rfl 10 (by decide) k2 (fun _ h9 => h9) rfl dX7_greater_117 ?_
              refine va_put (v := .int (iI (s0_21.1 10))) (ty := .int) (ci := 7) (C := RX7) (T := TX7) (N := 12) hx hb hts imX7_greater_X7 tyX7 tyX7_ok nmX7 hown hK hP hD hS 0 rfl rfl 11 (by decide) k1 (fun _ h9 => h9) rfl (tyX7_ok 11 (by decide)) rfl rfl (Nat.le_of_ble_eq_true rfl) dX7_greater_120 (fun H locs hP hD hS => ?_)
              have hP : va_P G.1 vwCl (W7 G a (sS s0_21 11 (s0_21.1 10))) H := hP
              have hD : va_D A (W7 G a (sS s0_21 11 (s0_21.1 10))) := hD
              refine lv_iload_n hx hb dX7_greater_123 rfl (lv_at hl 1 rfl) ?_
              exact zr_iret (z := x2_21) hx hb hr hlocks hK (sS s0_21 11 (s0_21.1 10)) hP hD hS dX7_greater_124 ⟨rx2_21, (RG_S rs0_21 (rs0_21.1 10)), h84⟩
          · have h85 := h75.1 c76
            refine lv_bipush (v := iI 10) hx hb dX7_greater_73 (by decide) ?_
            refine lv_iload_n hx hb dX7_greater_75 rfl (lv_at hl 1 rfl) ?_
            refine zr_imul (x := 10) (y := x2_21) hx hb dX7_greater_76 ?_
            refine lv_aload_n hx hb dX7_greater_77 rfl (lv_at hl 2 rfl) ?_
            refine zc_vi (As := []) (rest := [.int (iI (10 * x2_21))]) (w2 := fun u_86 => W7 G a s0_21) (c_X7_figure l G a s0_21 rs0_21 b34 b36 b38) ⟨hx, hb, hml, hown, hts⟩ (cwV 0 hts gX7_greater_X7_figure rfl rfl rfl hdX7_figure ⟨Nat.le_of_ble_eq_true rfl, Nat.le_of_ble_eq_true rfl⟩) hK hP hD hS hA (q0 := 0) rfl rfl [0, 1, 2, 3, 4, 5, 6] [] [0, 1, 2, 3, 4, 5, 6] rfl rfl rfl rfl (by decide) (fun _ => rfl) rfl rfl hl.1 rfl (Nat.le_of_ble_eq_true rfl) dX7_greater_78 ⟨Nat.zero_le _, Nat.zero_le _⟩ (fun z87 u_86 H locs hw hP hD hS => ?_)
            obtain ⟨rfl, r88⟩ := hw
            have hP : va_P G.1 vwCl (W7 G a s0_21) H := hP
            have hD : va_D A (W7 G a s0_21) := hD
            refine zr_iadd (x := 10 * x2_21) (y := figZ s0_21) hx hb dX7_greater_81 ?_
            refine lv_istore_n (lv' := [(2, .int (iI ((10 * x2_21) + (figZ s0_21)))), (3, .int (iI x3_21)), (0, .ref (a 0)), (1, .int (iI than))]) hx hb dX7_greater_82 rfl hl (by decide) rfl (fun ls hl => ?_)
            refine lv_aload_n hx hb dX7_greater_83 rfl (lv_at hl 2 rfl) ?_
            refine lv_dup hx hb dX7_greater_84 rfl ?_
            refine va_get (v := .int (iI (s0_21.1 10))) (ci := 7) (C := RX7) (T := TX7) (N := 12) hx hb hts imX7_greater_X7 hown hK hP 0 rfl rfl 10 (by decide) k2 (fun _ h9 => h9) rfl dX7_greater_85 ?_
            refine lv_iconst (v := iI 1) hx hb dX7_greater_88 rfl ?_
            refine zr_iadd (x := (s0_21.1 10)) (y := 1) hx hb dX7_greater_89 ?_
            obtain ⟨r89, h90⟩ := h85
            refine va_put (v := .int (iI ((s0_21.1 10) + 1))) (ty := .int) (ci := 7) (C := RX7) (T := TX7) (N := 12) hx hb hts imX7_greater_X7 tyX7 tyX7_ok nmX7 hown hK hP hD hS 0 rfl rfl 10 (by decide) k2 (fun _ h9 => h9) rfl (tyX7_ok 10 (by decide)) rfl rfl (Nat.le_of_ble_eq_true rfl) dX7_greater_90 (fun H locs hP hD hS => ?_)
            have hP : va_P G.1 vwCl (W7 G a (sS s0_21 10 ((s0_21.1 10) + 1))) H := hP
            have hD : va_D A (W7 G a (sS s0_21 10 ((s0_21.1 10) + 1))) := hD
            refine lv_iload_n hx hb dX7_greater_93 rfl (lv_at hl 1 rfl) ?_
            refine lv_bipush (v := iI 10) hx hb dX7_greater_94 (by decide) ?_
            obtain ⟨r91, h92⟩ := h90
            refine zr_idiv (x := x3_21) (y := 10) hx hb rx3_21 (by decide) (by decide) r91 dX7_greater_96 ?_
            refine lv_istore_n (lv' := [(3, .int (iI (x3_21 / 10))), (2, .int (iI ((10 * x2_21) + (figZ s0_21)))), (0, .ref (a 0)), (1, .int (iI than))]) hx hb dX7_greater_97 rfl hl (by decide) rfl (fun ls hl => ?_)
            refine lv_goto (tgt := 32) hx hb dX7_greater_98 (by decide) ?_
            obtain ⟨h93, h94⟩ := h92
            exact ih26 (((10 * x2_21) + (figZ s0_21), x3_21 / 10, sS s0_21 10 ((s0_21.1 10) + 1))) _ _ _ ⟨⟨r68, (rg_div rx3_21 r91 (by decide)), (RG_S rs0_21 r89)⟩, h93⟩ h94 hP hD hS (lv_sub hl [0, 1, 2, 3] rfl)
  · have h95 := h6.1 c10
    refine lv_bipush (v := iI 100) hx hb dX7_greater_10 (by decide) ?_
    refine lv_iload_n hx hb dX7_greater_12 rfl (lv_at hl 0 rfl) ?_
    refine zr_imul (x := 100) (y := figZ s) hx hb dX7_greater_13 ?_
    obtain ⟨r96, h97⟩ := h95
    refine lv_bipush (v := iI 99) hx hb dX7_greater_14 (by decide) ?_
    refine zr_iadd (x := 100 * (figZ s)) (y := 99) hx hb dX7_greater_16 ?_
    obtain ⟨r98, h99⟩ := h97
    refine lv_iload_n hx hb dX7_greater_17 rfl (lv_at hl 2 rfl) ?_
    refine zr_icmp_le (tgt := 25) (x := (100 * (figZ s)) + 99) (y := than) hx hb r98 r_than dX7_greater_18 (by decide) (fun c100 => ?_) (fun c100 => ?_)
    · have h103 := h99.2 c100
      refine lv_iconst (v := iI 0) hx hb dX7_greater_25 rfl ?_
      obtain ⟨b104, h105⟩ := h103
      obtain ⟨b106, h107⟩ := h105
      refine zc_vv (As := [.int (iI 0)]) (rest := []) (w2 := fun u_109 => W7 G a (sS (sS s 10 ((s.1 10) + 1)) 11 (s.1 10))) (c_X7_wants0 l G a s r_s b104 b106) ⟨hx, hb, hml, hown, hts⟩ (cwV 1 hts gX7_greater_X7_wants rfl rfl rfl hdX7_wants ⟨Nat.le_of_ble_eq_true rfl, Nat.le_of_ble_eq_true rfl⟩) hK hP hD hS hA (q0 := 0) rfl rfl [0, 1, 2, 3, 4, 5, 6] [] [0, 1, 2, 3, 4, 5, 6] rfl rfl rfl rfl (by decide) (fun _ => rfl) rfl rfl hl.1 rfl (Nat.le_of_ble_eq_true rfl) dX7_greater_26 ⟨Nat.zero_le _, Nat.zero_le _⟩ (fun u_109 H locs hw hP hD hS => ?_)
      have r108 := hw
      have hP : va_P G.1 vwCl (W7 G a (sS (sS s 10 ((s.1 10) + 1)) 11 (s.1 10))) H := hP
      have hD : va_D A (W7 G a (sS (sS s 10 ((s.1 10) + 1)) 11 (s.1 10))) := hD
      refine lv_bipush (v := iI 10) hx hb dX7_greater_29 (by decide) ?_
      refine lv_istore_n (lv' := [(3, .int (iI 10)), (2, .int (iI (figZ s))), (0, .ref (a 0)), (1, .int (iI than))]) hx hb dX7_greater_31 rfl hl (by decide) rfl (fun ls hl => ?_)
      obtain ⟨I112, μ113, h114, h115⟩ := h107
      refine zr_loop (G := G) (σ := Int × Int × SS) (fun x_111 => (rg x_111.1 ∧ rg x_111.2.1 ∧ RG x_111.2.2) ∧ I112 x_111.1 x_111.2.1 x_111.2.2) (fun x_111 => μ113 x_111.1 x_111.2.1 x_111.2.2) (fun x_111 => W7 G a x_111.2.2) (fun x_111 => [(3, .int (iI x_111.2.1)), (2, .int (iI x_111.1)), (0, .ref (a 0)), (1, .int (iI than))]) ((figZ s, 10, sS (sS s 10 ((s.1 10) + 1)) 11 (s.1 10))) ⟨⟨r9, rg_10, (RG_S (RG_S r_s (r108.1 10)) (r108.1 11))⟩, h114⟩ hP hD hS (lv_sub hl [0, 1, 2, 3] rfl) ?_
      clear hP hD hS hl
      intro x_111 H locs ls ih116 h117 hP hD hS hl
      obtain ⟨x2_111, x3_111, s0_111⟩ := x_111
      obtain ⟨⟨rx2_111, rx3_111, rs0_111⟩, h117⟩ := h117
      have h118 := h115 x2_111 x3_111 s0_111 rx2_111 rx3_111 rs0_111 h117
      have hP : va_P G.1 vwCl (W7 G a s0_111) H := hP
      have hD : va_D A (W7 G a s0_111) := hD
      have hl : lv_has ls 4 [(3, .int (iI x3_111)), (2, .int (iI x2_111)), (0, .ref (a 0)), (1, .int (iI than))] := hl
      refine lv_aload_n hx hb dX7_greater_32 rfl (lv_at hl 2 rfl) ?_
      refine va_get (v := .int (iI (s0_111.1 11))) (ci := 7) (C := RX7) (T := TX7) (N := 12) hx hb hts imX7_greater_X7 hown hK hP 0 rfl rfl 11 (by decide) k1 (fun _ h9 => h9) rfl dX7_greater_33 ?_
      refine lv_bipush (v := iI (-6)) hx hb dX7_greater_36 (by decide) ?_
      refine zr_icmp_ne (tgt := 101) (x := (s0_111.1 11)) (y := (-6)) hx hb (rs0_111.1 11) rg_m6 dX7_greater_38 (by decide) (fun c119 => ?_) (fun c119 => ?_)
      · have h122 := h118.2 c119
        refine lv_aload_n hx hb dX7_greater_101 rfl (lv_at hl 2 rfl) ?_
        refine va_get (v := .int (iI (s0_111.1 11))) (ci := 7) (C := RX7) (T := TX7) (N := 12) hx hb hts imX7_greater_X7 hown hK hP 0 rfl rfl 11 (by decide) k1 (fun _ h9 => h9) rfl dX7_greater_102 ?_
        refine lv_bipush (v := iI (-6)) hx hb dX7_greater_105 (by decide) ?_
        refine zr_icmp_ne (tgt := 123) (x := (s0_111.1 11)) (y := (-6)) hx hb (rs0_111.1 11) rg_m6 dX7_greater_107 (by decide) (fun _ => ?_) (fun c => absurd c c119)
        refine lv_iload_n hx hb dX7_greater_123 rfl (lv_at hl 1 rfl) ?_
        exact zr_iret (z := x2_111) hx hb hr hlocks hK (s0_111) hP hD hS dX7_greater_124 ⟨rx2_111, rs0_111, h122⟩
      · have h123 := h118.1 c119
        refine lv_aload_n hx hb dX7_greater_41 rfl (lv_at hl 2 rfl) ?_
        obtain ⟨b124, h125⟩ := h123
        obtain ⟨b126, h127⟩ := h125
        obtain ⟨b128, h129⟩ := h127
        refine zc_vi (As := []) (rest := []) (w2 := fun u_130 => W7 G a s0_111) (c_X7_figure l G a s0_111 rs0_111 b124 b126 b128) ⟨hx, hb, hml, hown, hts⟩ (cwV 0 hts gX7_greater_X7_figure rfl rfl rfl hdX7_figure ⟨Nat.le_of_ble_eq_true rfl, Nat.le_of_ble_eq_true rfl⟩) hK hP hD hS hA (q0 := 0) rfl rfl [0, 1, 2, 3, 4, 5, 6] [] [0, 1, 2, 3, 4, 5, 6] rfl rfl rfl rfl (by decide) (fun _ => rfl) rfl rfl hl.1 rfl (Nat.le_of_ble_eq_true rfl) dX7_greater_42 ⟨Nat.zero_le _, Nat.zero_le _⟩ (fun z131 u_130 H locs hw hP hD hS => ?_)
        obtain ⟨rfl, r132⟩ := hw
        have hP : va_P G.1 vwCl (W7 G a s0_111) H := hP
        have hD : va_D A (W7 G a s0_111) := hD
        refine lv_bipush (v := iI (-6)) hx hb dX7_greater_45 (by decide) ?_
        refine zr_icmp_eq (tgt := 101) (x := figZ s0_111) (y := (-6)) hx hb r132 rg_m6 dX7_greater_47 (by decide) (fun c133 => ?_) (fun c133 => ?_)
        · have h136 := h129.1 c133
          refine lv_aload_n hx hb dX7_greater_101 rfl (lv_at hl 2 rfl) ?_
          refine va_get (v := .int (iI (s0_111.1 11))) (ci := 7) (C := RX7) (T := TX7) (N := 12) hx hb hts imX7_greater_X7 hown hK hP 0 rfl rfl 11 (by decide) k1 (fun _ h9 => h9) rfl dX7_greater_102 ?_
          refine lv_bipush (v := iI (-6)) hx hb dX7_greater_105 (by decide) ?_
          refine zr_icmp_ne (tgt := 123) (x := (s0_111.1 11)) (y := (-6)) hx hb (rs0_111.1 11) rg_m6 dX7_greater_107 (by decide) (fun c => absurd c119 c) (fun _ => ?_)
          refine lv_iload_n hx hb dX7_greater_110 rfl (lv_at hl 1 rfl) ?_
          refine lv_iload_n hx hb dX7_greater_111 rfl (lv_at hl 3 rfl) ?_
          refine zr_icmp_gt (tgt := 123) (x := x2_111) (y := than) hx hb rx2_111 r_than dX7_greater_112 (by decide) (fun c137 => ?_) (fun c137 => ?_)
          · have h140 := h136.1 c137
            refine lv_iload_n hx hb dX7_greater_123 rfl (lv_at hl 1 rfl) ?_
            exact zr_iret (z := x2_111) hx hb hr hlocks hK (s0_111) hP hD hS dX7_greater_124 ⟨rx2_111, rs0_111, h140⟩
          · have h141 := h136.2 c137
            refine lv_aload_n hx hb dX7_greater_115 rfl (lv_at hl 2 rfl) ?_
            refine lv_aload_n hx hb dX7_greater_116 rfl (lv_at hl 2 rfl) ?_
            refine va_get (v := .int (iI (s0_111.1 10))) (ci := 7) (C := RX7) (T := TX7) (N := 12) hx hb hts imX7_greater_X7 hown hK hP 0 rfl rfl 10 (by decide) k2 (fun _ h9 => h9) rfl dX7_greater_117 ?_
            refine va_put (v := .int (iI (s0_111.1 10))) (ty := .int) (ci := 7) (C := RX7) (T := TX7) (N := 12) hx hb hts imX7_greater_X7 tyX7 tyX7_ok nmX7 hown hK hP hD hS 0 rfl rfl 11 (by decide) k1 (fun _ h9 => h9) rfl (tyX7_ok 11 (by decide)) rfl rfl (Nat.le_of_ble_eq_true rfl) dX7_greater_120 (fun H locs hP hD hS => ?_)
            have hP : va_P G.1 vwCl (W7 G a (sS s0_111 11 (s0_111.1 10))) H := hP
            have hD : va_D A (W7 G a (sS s0_111 11 (s0_111.1 10))) := hD
            refine lv_iload_n hx hb dX7_greater_123 rfl (lv_at hl 1 rfl) ?_
            exact zr_iret (z := x2_111) hx hb hr hlocks hK (sS s0_111 11 (s0_111.1 10)) hP hD hS dX7_greater_124 ⟨rx2_111, (RG_S rs0_111 (rs0_111.1 10)), h141⟩
        · have h142 := h129.2 c133
          refine lv_iload_n hx hb dX7_greater_50 rfl (lv_at hl 0 rfl) ?_
          refine zr_if_le (tgt := 101) (x := x3_111) hx hb rx3_111 dX7_greater_51 (by decide) (fun c143 => ?_) (fun c143 => ?_)
          · have h146 := h142.2 c143
            refine lv_aload_n hx hb dX7_greater_101 rfl (lv_at hl 2 rfl) ?_
            refine va_get (v := .int (iI (s0_111.1 11))) (ci := 7) (C := RX7) (T := TX7) (N := 12) hx hb hts imX7_greater_X7 hown hK hP 0 rfl rfl 11 (by decide) k1 (fun _ h9 => h9) rfl dX7_greater_102 ?_
            refine lv_bipush (v := iI (-6)) hx hb dX7_greater_105 (by decide) ?_
            refine zr_icmp_ne (tgt := 123) (x := (s0_111.1 11)) (y := (-6)) hx hb (rs0_111.1 11) rg_m6 dX7_greater_107 (by decide) (fun c => absurd c119 c) (fun _ => ?_)
            refine lv_iload_n hx hb dX7_greater_110 rfl (lv_at hl 1 rfl) ?_
            refine lv_iload_n hx hb dX7_greater_111 rfl (lv_at hl 3 rfl) ?_
            refine zr_icmp_gt (tgt := 123) (x := x2_111) (y := than) hx hb rx2_111 r_than dX7_greater_112 (by decide) (fun c147 => ?_) (fun c147 => ?_)
            · have h150 := h146.1 c147
              refine lv_iload_n hx hb dX7_greater_123 rfl (lv_at hl 1 rfl) ?_
              exact zr_iret (z := x2_111) hx hb hr hlocks hK (s0_111) hP hD hS dX7_greater_124 ⟨rx2_111, rs0_111, h150⟩
            · have h151 := h146.2 c147
              refine lv_aload_n hx hb dX7_greater_115 rfl (lv_at hl 2 rfl) ?_
              refine lv_aload_n hx hb dX7_greater_116 rfl (lv_at hl 2 rfl) ?_
              refine va_get (v := .int (iI (s0_111.1 10))) (ci := 7) (C := RX7) (T := TX7) (N := 12) hx hb hts imX7_greater_X7 hown hK hP 0 rfl rfl 10 (by decide) k2 (fun _ h9 => h9) rfl dX7_greater_117 ?_
              refine va_put (v := .int (iI (s0_111.1 10))) (ty := .int) (ci := 7) (C := RX7) (T := TX7) (N := 12) hx hb hts imX7_greater_X7 tyX7 tyX7_ok nmX7 hown hK hP hD hS 0 rfl rfl 11 (by decide) k1 (fun _ h9 => h9) rfl (tyX7_ok 11 (by decide)) rfl rfl (Nat.le_of_ble_eq_true rfl) dX7_greater_120 (fun H locs hP hD hS => ?_)
              have hP : va_P G.1 vwCl (W7 G a (sS s0_111 11 (s0_111.1 10))) H := hP
              have hD : va_D A (W7 G a (sS s0_111 11 (s0_111.1 10))) := hD
              refine lv_iload_n hx hb dX7_greater_123 rfl (lv_at hl 1 rfl) ?_
              exact zr_iret (z := x2_111) hx hb hr hlocks hK (sS s0_111 11 (s0_111.1 10)) hP hD hS dX7_greater_124 ⟨rx2_111, (RG_S rs0_111 (rs0_111.1 10)), h151⟩
          · have h152 := h142.1 c143
            refine lv_bipush (v := iI 10) hx hb dX7_greater_54 (by decide) ?_
            refine lv_iload_n hx hb dX7_greater_56 rfl (lv_at hl 1 rfl) ?_
            refine zr_imul (x := 10) (y := x2_111) hx hb dX7_greater_57 ?_
            obtain ⟨r153, h154⟩ := h152
            refine lv_aload_n hx hb dX7_greater_58 rfl (lv_at hl 2 rfl) ?_
            refine zc_vi (As := []) (rest := [.int (iI (10 * x2_111))]) (w2 := fun u_155 => W7 G a s0_111) (c_X7_figure l G a s0_111 rs0_111 b124 b126 b128) ⟨hx, hb, hml, hown, hts⟩ (cwV 0 hts gX7_greater_X7_figure rfl rfl rfl hdX7_figure ⟨Nat.le_of_ble_eq_true rfl, Nat.le_of_ble_eq_true rfl⟩) hK hP hD hS hA (q0 := 0) rfl rfl [0, 1, 2, 3, 4, 5, 6] [] [0, 1, 2, 3, 4, 5, 6] rfl rfl rfl rfl (by decide) (fun _ => rfl) rfl rfl hl.1 rfl (Nat.le_of_ble_eq_true rfl) dX7_greater_59 ⟨Nat.zero_le _, Nat.zero_le _⟩ (fun z156 u_155 H locs hw hP hD hS => ?_)
            obtain ⟨rfl, r157⟩ := hw
            have hP : va_P G.1 vwCl (W7 G a s0_111) H := hP
            have hD : va_D A (W7 G a s0_111) := hD
            refine zr_iadd (x := 10 * x2_111) (y := figZ s0_111) hx hb dX7_greater_62 ?_
            obtain ⟨r158, h159⟩ := h154
            refine lv_iload_n hx hb dX7_greater_63 rfl (lv_at hl 0 rfl) ?_
            refine zr_imul (x := (10 * x2_111) + (figZ s0_111)) (y := x3_111) hx hb dX7_greater_64 ?_
            obtain ⟨r160, h161⟩ := h159
            refine lv_iload_n hx hb dX7_greater_65 rfl (lv_at hl 0 rfl) ?_
            refine zr_iadd (x := ((10 * x2_111) + (figZ s0_111)) * x3_111) (y := x3_111) hx hb dX7_greater_66 ?_
            obtain ⟨r162, h163⟩ := h161
            refine lv_iconst (v := iI 1) hx hb dX7_greater_67 rfl ?_
            refine zr_isub (x := (((10 * x2_111) + (figZ s0_111)) * x3_111) + x3_111) (y := 1) hx hb dX7_greater_68 ?_
            obtain ⟨r164, h165⟩ := h163
            refine lv_iload_n hx hb dX7_greater_69 rfl (lv_at hl 3 rfl) ?_
            refine zr_icmp_le (tgt := 101) (x := ((((10 * x2_111) + (figZ s0_111)) * x3_111) + x3_111) - 1) (y := than) hx hb r164 r_than dX7_greater_70 (by decide) (fun c166 => ?_) (fun c166 => ?_)
            · have h169 := h165.2 c166
              refine lv_aload_n hx hb dX7_greater_101 rfl (lv_at hl 2 rfl) ?_
              refine va_get (v := .int (iI (s0_111.1 11))) (ci := 7) (C := RX7) (T := TX7) (N := 12) hx hb hts imX7_greater_X7 hown hK hP 0 rfl rfl 11 (by decide) k1 (fun _ h9 => h9) rfl dX7_greater_102 ?_
              refine lv_bipush (v := iI (-6)) hx hb dX7_greater_105 (by decide) ?_
              refine zr_icmp_ne (tgt := 123) (x := (s0_111.1 11)) (y := (-6)) hx hb (rs0_111.1 11) rg_m6 dX7_greater_107 (by decide) (fun c => absurd c119 c) (fun _ => ?_)
              refine lv_iload_n hx hb dX7_greater_110 rfl (lv_at hl 1 rfl) ?_
              refine lv_iload_n hx hb dX7_greater_111 rfl (lv_at hl 3 rfl) ?_
              refine zr_icmp_gt (tgt := 123) (x := x2_111) (y := than) hx hb rx2_111 r_than dX7_greater_112 (by decide) (fun c170 => ?_) (fun c170 => ?_)
              · have h173 := h169.1 c170
                refine lv_iload_n hx hb dX7_greater_123 rfl (lv_at hl 1 rfl) ?_
                exact zr_iret (z := x2_111) hx hb hr hlocks hK (s0_111) hP hD hS dX7_greater_124 ⟨rx2_111, rs0_111, h173⟩
              · have h174 := h169.2 c170
                refine lv_aload_n hx hb dX7_greater_115 rfl (lv_at hl 2 rfl) ?_
                refine lv_aload_n hx hb dX7_greater_116 rfl (lv_at hl 2 rfl) ?_
                refine va_get (v := .int (iI (s0_111.1 10))) (ci := 7) (C := RX7) (T := TX7) (N := 12) hx hb hts imX7_greater_X7 hown hK hP 0 rfl rfl 10 (by decide) k2 (fun _ h9 => h9) rfl dX7_greater_117 ?_
                refine va_put (v := .int (iI (s0_111.1 10))) (ty := .int) (ci := 7) (C := RX7) (T := TX7) (N := 12) hx hb hts imX7_greater_X7 tyX7 tyX7_ok nmX7 hown hK hP hD hS 0 rfl rfl 11 (by decide) k1 (fun _ h9 => h9) rfl (tyX7_ok 11 (by decide)) rfl rfl (Nat.le_of_ble_eq_true rfl) dX7_greater_120 (fun H locs hP hD hS => ?_)
                have hP : va_P G.1 vwCl (W7 G a (sS s0_111 11 (s0_111.1 10))) H := hP
                have hD : va_D A (W7 G a (sS s0_111 11 (s0_111.1 10))) := hD
                refine lv_iload_n hx hb dX7_greater_123 rfl (lv_at hl 1 rfl) ?_
                exact zr_iret (z := x2_111) hx hb hr hlocks hK (sS s0_111 11 (s0_111.1 10)) hP hD hS dX7_greater_124 ⟨rx2_111, (RG_S rs0_111 (rs0_111.1 10)), h174⟩
            · have h175 := h165.1 c166
              refine lv_bipush (v := iI 10) hx hb dX7_greater_73 (by decide) ?_
              refine lv_iload_n hx hb dX7_greater_75 rfl (lv_at hl 1 rfl) ?_
              refine zr_imul (x := 10) (y := x2_111) hx hb dX7_greater_76 ?_
              refine lv_aload_n hx hb dX7_greater_77 rfl (lv_at hl 2 rfl) ?_
              refine zc_vi (As := []) (rest := [.int (iI (10 * x2_111))]) (w2 := fun u_176 => W7 G a s0_111) (c_X7_figure l G a s0_111 rs0_111 b124 b126 b128) ⟨hx, hb, hml, hown, hts⟩ (cwV 0 hts gX7_greater_X7_figure rfl rfl rfl hdX7_figure ⟨Nat.le_of_ble_eq_true rfl, Nat.le_of_ble_eq_true rfl⟩) hK hP hD hS hA (q0 := 0) rfl rfl [0, 1, 2, 3, 4, 5, 6] [] [0, 1, 2, 3, 4, 5, 6] rfl rfl rfl rfl (by decide) (fun _ => rfl) rfl rfl hl.1 rfl (Nat.le_of_ble_eq_true rfl) dX7_greater_78 ⟨Nat.zero_le _, Nat.zero_le _⟩ (fun z177 u_176 H locs hw hP hD hS => ?_)
              obtain ⟨rfl, r178⟩ := hw
              have hP : va_P G.1 vwCl (W7 G a s0_111) H := hP
              have hD : va_D A (W7 G a s0_111) := hD
              refine zr_iadd (x := 10 * x2_111) (y := figZ s0_111) hx hb dX7_greater_81 ?_
              refine lv_istore_n (lv' := [(2, .int (iI ((10 * x2_111) + (figZ s0_111)))), (3, .int (iI x3_111)), (0, .ref (a 0)), (1, .int (iI than))]) hx hb dX7_greater_82 rfl hl (by decide) rfl (fun ls hl => ?_)
              refine lv_aload_n hx hb dX7_greater_83 rfl (lv_at hl 2 rfl) ?_
              refine lv_dup hx hb dX7_greater_84 rfl ?_
              refine va_get (v := .int (iI (s0_111.1 10))) (ci := 7) (C := RX7) (T := TX7) (N := 12) hx hb hts imX7_greater_X7 hown hK hP 0 rfl rfl 10 (by decide) k2 (fun _ h9 => h9) rfl dX7_greater_85 ?_
              refine lv_iconst (v := iI 1) hx hb dX7_greater_88 rfl ?_
              refine zr_iadd (x := (s0_111.1 10)) (y := 1) hx hb dX7_greater_89 ?_
              obtain ⟨r179, h180⟩ := h175
              refine va_put (v := .int (iI ((s0_111.1 10) + 1))) (ty := .int) (ci := 7) (C := RX7) (T := TX7) (N := 12) hx hb hts imX7_greater_X7 tyX7 tyX7_ok nmX7 hown hK hP hD hS 0 rfl rfl 10 (by decide) k2 (fun _ h9 => h9) rfl (tyX7_ok 10 (by decide)) rfl rfl (Nat.le_of_ble_eq_true rfl) dX7_greater_90 (fun H locs hP hD hS => ?_)
              have hP : va_P G.1 vwCl (W7 G a (sS s0_111 10 ((s0_111.1 10) + 1))) H := hP
              have hD : va_D A (W7 G a (sS s0_111 10 ((s0_111.1 10) + 1))) := hD
              refine lv_iload_n hx hb dX7_greater_93 rfl (lv_at hl 1 rfl) ?_
              refine lv_bipush (v := iI 10) hx hb dX7_greater_94 (by decide) ?_
              obtain ⟨r181, h182⟩ := h180
              refine zr_idiv (x := x3_111) (y := 10) hx hb rx3_111 (by decide) (by decide) r181 dX7_greater_96 ?_
              refine lv_istore_n (lv' := [(3, .int (iI (x3_111 / 10))), (2, .int (iI ((10 * x2_111) + (figZ s0_111)))), (0, .ref (a 0)), (1, .int (iI than))]) hx hb dX7_greater_97 rfl hl (by decide) rfl (fun ls hl => ?_)
              refine lv_goto (tgt := 32) hx hb dX7_greater_98 (by decide) ?_
              obtain ⟨h183, h184⟩ := h182
              exact ih116 (((10 * x2_111) + (figZ s0_111), x3_111 / 10, sS s0_111 10 ((s0_111.1 10) + 1))) _ _ _ ⟨⟨r158, (rg_div rx3_111 r181 (by decide)), (RG_S rs0_111 r179)⟩, h183⟩ h184 hP hD hS (lv_sub hl [0, 1, 2, 3] rfl)
    · have h185 := h99.1 c100
      refine lv_iconst (v := iI 1) hx hb dX7_greater_21 rfl ?_
      refine lv_goto (tgt := 26) hx hb dX7_greater_22 (by decide) ?_
      obtain ⟨b186, h187⟩ := h185
      obtain ⟨b188, h189⟩ := h187
      refine zc_vv (As := [.int (iI 1)]) (rest := []) (w2 := fun u_191 => W7 G a (sS (sS s 10 ((s.1 10) + 1)) 11 (-6))) (c_X7_wants1 l G a s r_s b186 b188) ⟨hx, hb, hml, hown, hts⟩ (cwV 1 hts gX7_greater_X7_wants rfl rfl rfl hdX7_wants ⟨Nat.le_of_ble_eq_true rfl, Nat.le_of_ble_eq_true rfl⟩) hK hP hD hS hA (q0 := 0) rfl rfl [0, 1, 2, 3, 4, 5, 6] [] [0, 1, 2, 3, 4, 5, 6] rfl rfl rfl rfl (by decide) (fun _ => rfl) rfl rfl hl.1 rfl (Nat.le_of_ble_eq_true rfl) dX7_greater_26 ⟨Nat.zero_le _, Nat.zero_le _⟩ (fun u_191 H locs hw hP hD hS => ?_)
      have r190 := hw
      have hP : va_P G.1 vwCl (W7 G a (sS (sS s 10 ((s.1 10) + 1)) 11 (-6))) H := hP
      have hD : va_D A (W7 G a (sS (sS s 10 ((s.1 10) + 1)) 11 (-6))) := hD
      refine lv_bipush (v := iI 10) hx hb dX7_greater_29 (by decide) ?_
      refine lv_istore_n (lv' := [(3, .int (iI 10)), (2, .int (iI (figZ s))), (0, .ref (a 0)), (1, .int (iI than))]) hx hb dX7_greater_31 rfl hl (by decide) rfl (fun ls hl => ?_)
      obtain ⟨I194, μ195, h196, h197⟩ := h189
      refine zr_loop (G := G) (σ := Int × Int × SS) (fun x_193 => (rg x_193.1 ∧ rg x_193.2.1 ∧ RG x_193.2.2) ∧ I194 x_193.1 x_193.2.1 x_193.2.2) (fun x_193 => μ195 x_193.1 x_193.2.1 x_193.2.2) (fun x_193 => W7 G a x_193.2.2) (fun x_193 => [(3, .int (iI x_193.2.1)), (2, .int (iI x_193.1)), (0, .ref (a 0)), (1, .int (iI than))]) ((figZ s, 10, sS (sS s 10 ((s.1 10) + 1)) 11 (-6))) ⟨⟨r9, rg_10, (RG_S (RG_S r_s (r190.1 10)) (r190.1 11))⟩, h196⟩ hP hD hS (lv_sub hl [0, 1, 2, 3] rfl) ?_
      clear hP hD hS hl
      intro x_193 H locs ls ih198 h199 hP hD hS hl
      obtain ⟨x2_193, x3_193, s0_193⟩ := x_193
      obtain ⟨⟨rx2_193, rx3_193, rs0_193⟩, h199⟩ := h199
      have h200 := h197 x2_193 x3_193 s0_193 rx2_193 rx3_193 rs0_193 h199
      have hP : va_P G.1 vwCl (W7 G a s0_193) H := hP
      have hD : va_D A (W7 G a s0_193) := hD
      have hl : lv_has ls 4 [(3, .int (iI x3_193)), (2, .int (iI x2_193)), (0, .ref (a 0)), (1, .int (iI than))] := hl
      refine lv_aload_n hx hb dX7_greater_32 rfl (lv_at hl 2 rfl) ?_
      refine va_get (v := .int (iI (s0_193.1 11))) (ci := 7) (C := RX7) (T := TX7) (N := 12) hx hb hts imX7_greater_X7 hown hK hP 0 rfl rfl 11 (by decide) k1 (fun _ h9 => h9) rfl dX7_greater_33 ?_
      refine lv_bipush (v := iI (-6)) hx hb dX7_greater_36 (by decide) ?_
      refine zr_icmp_ne (tgt := 101) (x := (s0_193.1 11)) (y := (-6)) hx hb (rs0_193.1 11) rg_m6 dX7_greater_38 (by decide) (fun c201 => ?_) (fun c201 => ?_)
      · have h204 := h200.2 c201
        refine lv_aload_n hx hb dX7_greater_101 rfl (lv_at hl 2 rfl) ?_
        refine va_get (v := .int (iI (s0_193.1 11))) (ci := 7) (C := RX7) (T := TX7) (N := 12) hx hb hts imX7_greater_X7 hown hK hP 0 rfl rfl 11 (by decide) k1 (fun _ h9 => h9) rfl dX7_greater_102 ?_
        refine lv_bipush (v := iI (-6)) hx hb dX7_greater_105 (by decide) ?_
        refine zr_icmp_ne (tgt := 123) (x := (s0_193.1 11)) (y := (-6)) hx hb (rs0_193.1 11) rg_m6 dX7_greater_107 (by decide) (fun _ => ?_) (fun c => absurd c c201)
        refine lv_iload_n hx hb dX7_greater_123 rfl (lv_at hl 1 rfl) ?_
        exact zr_iret (z := x2_193) hx hb hr hlocks hK (s0_193) hP hD hS dX7_greater_124 ⟨rx2_193, rs0_193, h204⟩
      · have h205 := h200.1 c201
        refine lv_aload_n hx hb dX7_greater_41 rfl (lv_at hl 2 rfl) ?_
        obtain ⟨b206, h207⟩ := h205
        obtain ⟨b208, h209⟩ := h207
        obtain ⟨b210, h211⟩ := h209
        refine zc_vi (As := []) (rest := []) (w2 := fun u_212 => W7 G a s0_193) (c_X7_figure l G a s0_193 rs0_193 b206 b208 b210) ⟨hx, hb, hml, hown, hts⟩ (cwV 0 hts gX7_greater_X7_figure rfl rfl rfl hdX7_figure ⟨Nat.le_of_ble_eq_true rfl, Nat.le_of_ble_eq_true rfl⟩) hK hP hD hS hA (q0 := 0) rfl rfl [0, 1, 2, 3, 4, 5, 6] [] [0, 1, 2, 3, 4, 5, 6] rfl rfl rfl rfl (by decide) (fun _ => rfl) rfl rfl hl.1 rfl (Nat.le_of_ble_eq_true rfl) dX7_greater_42 ⟨Nat.zero_le _, Nat.zero_le _⟩ (fun z213 u_212 H locs hw hP hD hS => ?_)
        obtain ⟨rfl, r214⟩ := hw
        have hP : va_P G.1 vwCl (W7 G a s0_193) H := hP
        have hD : va_D A (W7 G a s0_193) := hD
        refine lv_bipush (v := iI (-6)) hx hb dX7_greater_45 (by decide) ?_
        refine zr_icmp_eq (tgt := 101) (x := figZ s0_193) (y := (-6)) hx hb r214 rg_m6 dX7_greater_47 (by decide) (fun c215 => ?_) (fun c215 => ?_)
        · have h218 := h211.1 c215
          refine lv_aload_n hx hb dX7_greater_101 rfl (lv_at hl 2 rfl) ?_
          refine va_get (v := .int (iI (s0_193.1 11))) (ci := 7) (C := RX7) (T := TX7) (N := 12) hx hb hts imX7_greater_X7 hown hK hP 0 rfl rfl 11 (by decide) k1 (fun _ h9 => h9) rfl dX7_greater_102 ?_
          refine lv_bipush (v := iI (-6)) hx hb dX7_greater_105 (by decide) ?_
          refine zr_icmp_ne (tgt := 123) (x := (s0_193.1 11)) (y := (-6)) hx hb (rs0_193.1 11) rg_m6 dX7_greater_107 (by decide) (fun c => absurd c201 c) (fun _ => ?_)
          refine lv_iload_n hx hb dX7_greater_110 rfl (lv_at hl 1 rfl) ?_
          refine lv_iload_n hx hb dX7_greater_111 rfl (lv_at hl 3 rfl) ?_
          refine zr_icmp_gt (tgt := 123) (x := x2_193) (y := than) hx hb rx2_193 r_than dX7_greater_112 (by decide) (fun c219 => ?_) (fun c219 => ?_)
          · have h222 := h218.1 c219
            refine lv_iload_n hx hb dX7_greater_123 rfl (lv_at hl 1 rfl) ?_
            exact zr_iret (z := x2_193) hx hb hr hlocks hK (s0_193) hP hD hS dX7_greater_124 ⟨rx2_193, rs0_193, h222⟩
          · have h223 := h218.2 c219
            refine lv_aload_n hx hb dX7_greater_115 rfl (lv_at hl 2 rfl) ?_
            refine lv_aload_n hx hb dX7_greater_116 rfl (lv_at hl 2 rfl) ?_
            refine va_get (v := .int (iI (s0_193.1 10))) (ci := 7) (C := RX7) (T := TX7) (N := 12) hx hb hts imX7_greater_X7 hown hK hP 0 rfl rfl 10 (by decide) k2 (fun _ h9 => h9) rfl dX7_greater_117 ?_
            refine va_put (v := .int (iI (s0_193.1 10))) (ty := .int) (ci := 7) (C := RX7) (T := TX7) (N := 12) hx hb hts imX7_greater_X7 tyX7 tyX7_ok nmX7 hown hK hP hD hS 0 rfl rfl 11 (by decide) k1 (fun _ h9 => h9) rfl (tyX7_ok 11 (by decide)) rfl rfl (Nat.le_of_ble_eq_true rfl) dX7_greater_120 (fun H locs hP hD hS => ?_)
            have hP : va_P G.1 vwCl (W7 G a (sS s0_193 11 (s0_193.1 10))) H := hP
            have hD : va_D A (W7 G a (sS s0_193 11 (s0_193.1 10))) := hD
            refine lv_iload_n hx hb dX7_greater_123 rfl (lv_at hl 1 rfl) ?_
            exact zr_iret (z := x2_193) hx hb hr hlocks hK (sS s0_193 11 (s0_193.1 10)) hP hD hS dX7_greater_124 ⟨rx2_193, (RG_S rs0_193 (rs0_193.1 10)), h223⟩
        · have h224 := h211.2 c215
          refine lv_iload_n hx hb dX7_greater_50 rfl (lv_at hl 0 rfl) ?_
          refine zr_if_le (tgt := 101) (x := x3_193) hx hb rx3_193 dX7_greater_51 (by decide) (fun c225 => ?_) (fun c225 => ?_)
          · have h228 := h224.2 c225
            refine lv_aload_n hx hb dX7_greater_101 rfl (lv_at hl 2 rfl) ?_
            refine va_get (v := .int (iI (s0_193.1 11))) (ci := 7) (C := RX7) (T := TX7) (N := 12) hx hb hts imX7_greater_X7 hown hK hP 0 rfl rfl 11 (by decide) k1 (fun _ h9 => h9) rfl dX7_greater_102 ?_
            refine lv_bipush (v := iI (-6)) hx hb dX7_greater_105 (by decide) ?_
            refine zr_icmp_ne (tgt := 123) (x := (s0_193.1 11)) (y := (-6)) hx hb (rs0_193.1 11) rg_m6 dX7_greater_107 (by decide) (fun c => absurd c201 c) (fun _ => ?_)
            refine lv_iload_n hx hb dX7_greater_110 rfl (lv_at hl 1 rfl) ?_
            refine lv_iload_n hx hb dX7_greater_111 rfl (lv_at hl 3 rfl) ?_
            refine zr_icmp_gt (tgt := 123) (x := x2_193) (y := than) hx hb rx2_193 r_than dX7_greater_112 (by decide) (fun c229 => ?_) (fun c229 => ?_)
            · have h232 := h228.1 c229
              refine lv_iload_n hx hb dX7_greater_123 rfl (lv_at hl 1 rfl) ?_
              exact zr_iret (z := x2_193) hx hb hr hlocks hK (s0_193) hP hD hS dX7_greater_124 ⟨rx2_193, rs0_193, h232⟩
            · have h233 := h228.2 c229
              refine lv_aload_n hx hb dX7_greater_115 rfl (lv_at hl 2 rfl) ?_
              refine lv_aload_n hx hb dX7_greater_116 rfl (lv_at hl 2 rfl) ?_
              refine va_get (v := .int (iI (s0_193.1 10))) (ci := 7) (C := RX7) (T := TX7) (N := 12) hx hb hts imX7_greater_X7 hown hK hP 0 rfl rfl 10 (by decide) k2 (fun _ h9 => h9) rfl dX7_greater_117 ?_
              refine va_put (v := .int (iI (s0_193.1 10))) (ty := .int) (ci := 7) (C := RX7) (T := TX7) (N := 12) hx hb hts imX7_greater_X7 tyX7 tyX7_ok nmX7 hown hK hP hD hS 0 rfl rfl 11 (by decide) k1 (fun _ h9 => h9) rfl (tyX7_ok 11 (by decide)) rfl rfl (Nat.le_of_ble_eq_true rfl) dX7_greater_120 (fun H locs hP hD hS => ?_)
              have hP : va_P G.1 vwCl (W7 G a (sS s0_193 11 (s0_193.1 10))) H := hP
              have hD : va_D A (W7 G a (sS s0_193 11 (s0_193.1 10))) := hD
              refine lv_iload_n hx hb dX7_greater_123 rfl (lv_at hl 1 rfl) ?_
              exact zr_iret (z := x2_193) hx hb hr hlocks hK (sS s0_193 11 (s0_193.1 10)) hP hD hS dX7_greater_124 ⟨rx2_193, (RG_S rs0_193 (rs0_193.1 10)), h233⟩
          · have h234 := h224.1 c225
            refine lv_bipush (v := iI 10) hx hb dX7_greater_54 (by decide) ?_
            refine lv_iload_n hx hb dX7_greater_56 rfl (lv_at hl 1 rfl) ?_
            refine zr_imul (x := 10) (y := x2_193) hx hb dX7_greater_57 ?_
            obtain ⟨r235, h236⟩ := h234
            refine lv_aload_n hx hb dX7_greater_58 rfl (lv_at hl 2 rfl) ?_
            refine zc_vi (As := []) (rest := [.int (iI (10 * x2_193))]) (w2 := fun u_237 => W7 G a s0_193) (c_X7_figure l G a s0_193 rs0_193 b206 b208 b210) ⟨hx, hb, hml, hown, hts⟩ (cwV 0 hts gX7_greater_X7_figure rfl rfl rfl hdX7_figure ⟨Nat.le_of_ble_eq_true rfl, Nat.le_of_ble_eq_true rfl⟩) hK hP hD hS hA (q0 := 0) rfl rfl [0, 1, 2, 3, 4, 5, 6] [] [0, 1, 2, 3, 4, 5, 6] rfl rfl rfl rfl (by decide) (fun _ => rfl) rfl rfl hl.1 rfl (Nat.le_of_ble_eq_true rfl) dX7_greater_59 ⟨Nat.zero_le _, Nat.zero_le _⟩ (fun z238 u_237 H locs hw hP hD hS => ?_)
            obtain ⟨rfl, r239⟩ := hw
            have hP : va_P G.1 vwCl (W7 G a s0_193) H := hP
            have hD : va_D A (W7 G a s0_193) := hD
            refine zr_iadd (x := 10 * x2_193) (y := figZ s0_193) hx hb dX7_greater_62 ?_
            obtain ⟨r240, h241⟩ := h236
            refine lv_iload_n hx hb dX7_greater_63 rfl (lv_at hl 0 rfl) ?_
            refine zr_imul (x := (10 * x2_193) + (figZ s0_193)) (y := x3_193) hx hb dX7_greater_64 ?_
            obtain ⟨r242, h243⟩ := h241
            refine lv_iload_n hx hb dX7_greater_65 rfl (lv_at hl 0 rfl) ?_
            refine zr_iadd (x := ((10 * x2_193) + (figZ s0_193)) * x3_193) (y := x3_193) hx hb dX7_greater_66 ?_
            obtain ⟨r244, h245⟩ := h243
            refine lv_iconst (v := iI 1) hx hb dX7_greater_67 rfl ?_
            refine zr_isub (x := (((10 * x2_193) + (figZ s0_193)) * x3_193) + x3_193) (y := 1) hx hb dX7_greater_68 ?_
            obtain ⟨r246, h247⟩ := h245
            refine lv_iload_n hx hb dX7_greater_69 rfl (lv_at hl 3 rfl) ?_
            refine zr_icmp_le (tgt := 101) (x := ((((10 * x2_193) + (figZ s0_193)) * x3_193) + x3_193) - 1) (y := than) hx hb r246 r_than dX7_greater_70 (by decide) (fun c248 => ?_) (fun c248 => ?_)
            · have h251 := h247.2 c248
              refine lv_aload_n hx hb dX7_greater_101 rfl (lv_at hl 2 rfl) ?_
              refine va_get (v := .int (iI (s0_193.1 11))) (ci := 7) (C := RX7) (T := TX7) (N := 12) hx hb hts imX7_greater_X7 hown hK hP 0 rfl rfl 11 (by decide) k1 (fun _ h9 => h9) rfl dX7_greater_102 ?_
              refine lv_bipush (v := iI (-6)) hx hb dX7_greater_105 (by decide) ?_
              refine zr_icmp_ne (tgt := 123) (x := (s0_193.1 11)) (y := (-6)) hx hb (rs0_193.1 11) rg_m6 dX7_greater_107 (by decide) (fun c => absurd c201 c) (fun _ => ?_)
              refine lv_iload_n hx hb dX7_greater_110 rfl (lv_at hl 1 rfl) ?_
              refine lv_iload_n hx hb dX7_greater_111 rfl (lv_at hl 3 rfl) ?_
              refine zr_icmp_gt (tgt := 123) (x := x2_193) (y := than) hx hb rx2_193 r_than dX7_greater_112 (by decide) (fun c252 => ?_) (fun c252 => ?_)
              · have h255 := h251.1 c252
                refine lv_iload_n hx hb dX7_greater_123 rfl (lv_at hl 1 rfl) ?_
                exact zr_iret (z := x2_193) hx hb hr hlocks hK (s0_193) hP hD hS dX7_greater_124 ⟨rx2_193, rs0_193, h255⟩
              · have h256 := h251.2 c252
                refine lv_aload_n hx hb dX7_greater_115 rfl (lv_at hl 2 rfl) ?_
                refine lv_aload_n hx hb dX7_greater_116 rfl (lv_at hl 2 rfl) ?_
                refine va_get (v := .int (iI (s0_193.1 10))) (ci := 7) (C := RX7) (T := TX7) (N := 12) hx hb hts imX7_greater_X7 hown hK hP 0 rfl rfl 10 (by decide) k2 (fun _ h9 => h9) rfl dX7_greater_117 ?_
                refine va_put (v := .int (iI (s0_193.1 10))) (ty := .int) (ci := 7) (C := RX7) (T := TX7) (N := 12) hx hb hts imX7_greater_X7 tyX7 tyX7_ok nmX7 hown hK hP hD hS 0 rfl rfl 11 (by decide) k1 (fun _ h9 => h9) rfl (tyX7_ok 11 (by decide)) rfl rfl (Nat.le_of_ble_eq_true rfl) dX7_greater_120 (fun H locs hP hD hS => ?_)
                have hP : va_P G.1 vwCl (W7 G a (sS s0_193 11 (s0_193.1 10))) H := hP
                have hD : va_D A (W7 G a (sS s0_193 11 (s0_193.1 10))) := hD
                refine lv_iload_n hx hb dX7_greater_123 rfl (lv_at hl 1 rfl) ?_
                exact zr_iret (z := x2_193) hx hb hr hlocks hK (sS s0_193 11 (s0_193.1 10)) hP hD hS dX7_greater_124 ⟨rx2_193, (RG_S rs0_193 (rs0_193.1 10)), h256⟩
            · have h257 := h247.1 c248
              refine lv_bipush (v := iI 10) hx hb dX7_greater_73 (by decide) ?_
              refine lv_iload_n hx hb dX7_greater_75 rfl (lv_at hl 1 rfl) ?_
              refine zr_imul (x := 10) (y := x2_193) hx hb dX7_greater_76 ?_
              refine lv_aload_n hx hb dX7_greater_77 rfl (lv_at hl 2 rfl) ?_
              refine zc_vi (As := []) (rest := [.int (iI (10 * x2_193))]) (w2 := fun u_258 => W7 G a s0_193) (c_X7_figure l G a s0_193 rs0_193 b206 b208 b210) ⟨hx, hb, hml, hown, hts⟩ (cwV 0 hts gX7_greater_X7_figure rfl rfl rfl hdX7_figure ⟨Nat.le_of_ble_eq_true rfl, Nat.le_of_ble_eq_true rfl⟩) hK hP hD hS hA (q0 := 0) rfl rfl [0, 1, 2, 3, 4, 5, 6] [] [0, 1, 2, 3, 4, 5, 6] rfl rfl rfl rfl (by decide) (fun _ => rfl) rfl rfl hl.1 rfl (Nat.le_of_ble_eq_true rfl) dX7_greater_78 ⟨Nat.zero_le _, Nat.zero_le _⟩ (fun z259 u_258 H locs hw hP hD hS => ?_)
              obtain ⟨rfl, r260⟩ := hw
              have hP : va_P G.1 vwCl (W7 G a s0_193) H := hP
              have hD : va_D A (W7 G a s0_193) := hD
              refine zr_iadd (x := 10 * x2_193) (y := figZ s0_193) hx hb dX7_greater_81 ?_
              refine lv_istore_n (lv' := [(2, .int (iI ((10 * x2_193) + (figZ s0_193)))), (3, .int (iI x3_193)), (0, .ref (a 0)), (1, .int (iI than))]) hx hb dX7_greater_82 rfl hl (by decide) rfl (fun ls hl => ?_)
              refine lv_aload_n hx hb dX7_greater_83 rfl (lv_at hl 2 rfl) ?_
              refine lv_dup hx hb dX7_greater_84 rfl ?_
              refine va_get (v := .int (iI (s0_193.1 10))) (ci := 7) (C := RX7) (T := TX7) (N := 12) hx hb hts imX7_greater_X7 hown hK hP 0 rfl rfl 10 (by decide) k2 (fun _ h9 => h9) rfl dX7_greater_85 ?_
              refine lv_iconst (v := iI 1) hx hb dX7_greater_88 rfl ?_
              refine zr_iadd (x := (s0_193.1 10)) (y := 1) hx hb dX7_greater_89 ?_
              obtain ⟨r261, h262⟩ := h257
              refine va_put (v := .int (iI ((s0_193.1 10) + 1))) (ty := .int) (ci := 7) (C := RX7) (T := TX7) (N := 12) hx hb hts imX7_greater_X7 tyX7 tyX7_ok nmX7 hown hK hP hD hS 0 rfl rfl 10 (by decide) k2 (fun _ h9 => h9) rfl (tyX7_ok 10 (by decide)) rfl rfl (Nat.le_of_ble_eq_true rfl) dX7_greater_90 (fun H locs hP hD hS => ?_)
              have hP : va_P G.1 vwCl (W7 G a (sS s0_193 10 ((s0_193.1 10) + 1))) H := hP
              have hD : va_D A (W7 G a (sS s0_193 10 ((s0_193.1 10) + 1))) := hD
              refine lv_iload_n hx hb dX7_greater_93 rfl (lv_at hl 1 rfl) ?_
              refine lv_bipush (v := iI 10) hx hb dX7_greater_94 (by decide) ?_
              obtain ⟨r263, h264⟩ := h262
              refine zr_idiv (x := x3_193) (y := 10) hx hb rx3_193 (by decide) (by decide) r263 dX7_greater_96 ?_
              refine lv_istore_n (lv' := [(3, .int (iI (x3_193 / 10))), (2, .int (iI ((10 * x2_193) + (figZ s0_193)))), (0, .ref (a 0)), (1, .int (iI than))]) hx hb dX7_greater_97 rfl hl (by decide) rfl (fun ls hl => ?_)
              refine lv_goto (tgt := 32) hx hb dX7_greater_98 (by decide) ?_
              obtain ⟨h265, h266⟩ := h264
              exact ih198 (((10 * x2_193) + (figZ s0_193), x3_193 / 10, sS s0_193 10 ((s0_193.1 10) + 1))) _ _ _ ⟨⟨r240, (rg_div rx3_193 r263 (by decide)), (RG_S rs0_193 r261)⟩, h265⟩ h266 hP hD hS (lv_sub hl [0, 1, 2, 3] rfl)
theorem c_X7_greater (l : Launch) (G : ZG) (a : Nat → Nat) (s : SS) (than : Int)  (r_s : RG s) (r_than : rg than) (p0 : 0 ≤ (s.1 7) ∧ (s.1 7) ≤ 80) (p1 : Bf s) (p2 : (s.1 11) = -6) (p3 : 0 ≤ (s.1 10) ∧ (s.1 10) ≤ (s.1 7)) (p4 : 0 ≤ than ∧ than < 999) (p5 : StA (s.2 6) (s.1 10) (2, than, 0, 0)) : ZI l G yX7_greater wsX7_greater 2 43 [.ref (a 0), .int (iI than)] (W7 G a s) (fun u : SS => W7 G a u) (fun (zq : Int) (u : SS) => rg zq ∧ RG u ∧ (psA s u 2 than zq (than + 1) 999)) :=
  c0_X7_greater l G a s than (fun r s' => psA s s' 2 than r (than + 1) 999) r_s r_than (sp_X7_greater s than  r_s r_than p0 p1 p2 p3 p4 p5)
theorem imX7_number_X7 : ∀ w ∈ wsX70, w ∈ wsX7_number := fun _ h => (List.mem_cons_of_mem _ (List.mem_append_right _ h))
theorem hdX7_number : yX7_number.cls = RX7 ∧ yX7_number.cls ≠ "java/lang/invoke/MethodHandle" ∧ yX7_number.cls ≠ "java/lang/invoke/VarHandle" ∧ (parseMethodDescriptor yX7_number.desc).map (fun d => d.parameters.length) = some 0 := by decide +kernel
set_option maxRecDepth 100000 in
set_option maxHeartbeats 4000000 in
theorem c0_X7_number (l : Launch) (G : ZG) (a : Nat → Nat) (s : SS)  (P : Int → SS → Prop) (r_s : RG s)  (hwp : wp_X7_number s P) : ZI l G yX7_number wsX7_number 2 43 [.ref (a 0)] (W7 G a s) (fun u : SS => W7 G a u) (fun (z : Int) (u : SS) => rg z ∧ RG u ∧ P z u) := by
  unfold wp_X7_number at hwp
  refine zm_i (cc := cX7_number) (maxL := 2) (ret := some .int) (own := RX7) (lvs := [(0, .ref (a 0))]) (by decide) rfl rfl (Nat.le_of_ble_eq_true rfl) rfl ?_
  intro p e sT m args below meth c ls A hx hb hr hml hown hts hlocks hK hP hD hS hA hl
  have k1 := hts (.fieldLink RX7 148 "GrantedSortModel" "wrong" "I") (List.mem_of_getElem? (i := 1) rfl)
  have k2 := hts (.fieldLink RX7 142 "GrantedSortModel" "spot" "I") (List.mem_of_getElem? (i := 2) rfl)
  refine lv_aload_n hx hb dX7_number_0 rfl (lv_at hl 0 rfl) ?_
  obtain ⟨b1, h2⟩ := hwp
  obtain ⟨b3, h4⟩ := h2
  obtain ⟨b5, h6⟩ := h4
  refine zc_vi (As := []) (rest := []) (w2 := fun u_7 => W7 G a s) (c_X7_figure l G a s r_s b1 b3 b5) ⟨hx, hb, hml, hown, hts⟩ (cwV 0 hts gX7_number_X7_figure rfl rfl rfl hdX7_figure ⟨Nat.le_of_ble_eq_true rfl, Nat.le_of_ble_eq_true rfl⟩) hK hP hD hS hA (q0 := 0) rfl rfl [0, 1, 2, 3, 4, 5, 6] [] [0, 1, 2, 3, 4, 5, 6] rfl rfl rfl rfl (by decide) (fun _ => rfl) rfl rfl hl.1 rfl (Nat.le_of_ble_eq_true rfl) dX7_number_1 ⟨Nat.zero_le _, Nat.zero_le _⟩ (fun z8 u_7 H locs hw hP hD hS => ?_)
  obtain ⟨rfl, r9⟩ := hw
  have hP : va_P G.1 vwCl (W7 G a s) H := hP
  have hD : va_D A (W7 G a s) := hD
  refine lv_istore_n (lv' := [(1, .int (iI (figZ s))), (0, .ref (a 0))]) hx hb dX7_number_4 rfl hl (by decide) rfl (fun ls hl => ?_)
  refine lv_aload_n hx hb dX7_number_5 rfl (lv_at hl 1 rfl) ?_
  refine lv_iload_n hx hb dX7_number_6 rfl (lv_at hl 0 rfl) ?_
  refine zr_if_le (tgt := 14) (x := figZ s) hx hb r9 dX7_number_7 (by decide) (fun c10 => ?_) (fun c10 => ?_)
  · have h13 := h6.2 c10
    refine lv_iconst (v := iI 0) hx hb dX7_number_14 rfl ?_
    obtain ⟨b14, h15⟩ := h13
    obtain ⟨b16, h17⟩ := h15
    refine zc_vv (As := [.int (iI 0)]) (rest := []) (w2 := fun u_19 => W7 G a (sS (sS s 10 ((s.1 10) + 1)) 11 (s.1 10))) (c_X7_wants0 l G a s r_s b14 b16) ⟨hx, hb, hml, hown, hts⟩ (cwV 1 hts gX7_number_X7_wants rfl rfl rfl hdX7_wants ⟨Nat.le_of_ble_eq_true rfl, Nat.le_of_ble_eq_true rfl⟩) hK hP hD hS hA (q0 := 0) rfl rfl [0, 1, 2, 3, 4, 5, 6] [] [0, 1, 2, 3, 4, 5, 6] rfl rfl rfl rfl (by decide) (fun _ => rfl) rfl rfl hl.1 rfl (Nat.le_of_ble_eq_true rfl) dX7_number_15 ⟨Nat.zero_le _, Nat.zero_le _⟩ (fun u_19 H locs hw hP hD hS => ?_)
    have r18 := hw
    have hP : va_P G.1 vwCl (W7 G a (sS (sS s 10 ((s.1 10) + 1)) 11 (s.1 10))) H := hP
    have hD : va_D A (W7 G a (sS (sS s 10 ((s.1 10) + 1)) 11 (s.1 10))) := hD
    refine lv_aload_n hx hb dX7_number_18 rfl (lv_at hl 1 rfl) ?_
    refine va_get (v := .int (iI (s.1 10))) (ci := 7) (C := RX7) (T := TX7) (N := 12) hx hb hts imX7_number_X7 hown hK hP 0 rfl rfl 11 (by decide) k1 (fun _ h9 => h9) rfl dX7_number_19 ?_
    refine lv_bipush (v := iI (-6)) hx hb dX7_number_22 (by decide) ?_
    refine zr_icmp_ne (tgt := 58) (x := (s.1 10)) (y := (-6)) hx hb (r18.1 11) rg_m6 dX7_number_24 (by decide) (fun c21 => ?_) (fun c21 => ?_)
    · have h24 := h17.2 c21
      refine lv_aload_n hx hb dX7_number_58 rfl (lv_at hl 1 rfl) ?_
      refine va_get (v := .int (iI (s.1 10))) (ci := 7) (C := RX7) (T := TX7) (N := 12) hx hb hts imX7_number_X7 hown hK hP 0 rfl rfl 11 (by decide) k1 (fun _ h9 => h9) rfl dX7_number_59 ?_
      refine lv_bipush (v := iI (-6)) hx hb dX7_number_62 (by decide) ?_
      refine zr_icmp_ne (tgt := 92) (x := (s.1 10)) (y := (-6)) hx hb (r18.1 11) rg_m6 dX7_number_64 (by decide) (fun _ => ?_) (fun c => absurd c c21)
      refine lv_iload_n hx hb dX7_number_92 rfl (lv_at hl 0 rfl) ?_
      exact zr_iret (z := figZ s) hx hb hr hlocks hK (sS (sS s 10 ((s.1 10) + 1)) 11 (s.1 10)) hP hD hS dX7_number_93 ⟨r9, (RG_S (RG_S r_s (r18.1 10)) (r18.1 11)), h24⟩
    · have h25 := h17.1 c21
      refine lv_iload_n hx hb dX7_number_27 rfl (lv_at hl 0 rfl) ?_
      refine lv_iconst (v := iI 1) hx hb dX7_number_28 rfl ?_
      refine zr_icmp_ne (tgt := 58) (x := figZ s) (y := 1) hx hb r9 rg_1 dX7_number_29 (by decide) (fun c26 => ?_) (fun c26 => ?_)
      · have h29 := h25.2 c26
        refine lv_aload_n hx hb dX7_number_58 rfl (lv_at hl 1 rfl) ?_
        refine va_get (v := .int (iI (s.1 10))) (ci := 7) (C := RX7) (T := TX7) (N := 12) hx hb hts imX7_number_X7 hown hK hP 0 rfl rfl 11 (by decide) k1 (fun _ h9 => h9) rfl dX7_number_59 ?_
        refine lv_bipush (v := iI (-6)) hx hb dX7_number_62 (by decide) ?_
        refine zr_icmp_ne (tgt := 92) (x := (s.1 10)) (y := (-6)) hx hb (r18.1 11) rg_m6 dX7_number_64 (by decide) (fun c => absurd c21 c) (fun _ => ?_)
        refine lv_iload_n hx hb dX7_number_67 rfl (lv_at hl 0 rfl) ?_
        refine lv_iconst (v := iI 2) hx hb dX7_number_68 rfl ?_
        refine zr_icmp_ne (tgt := 92) (x := figZ s) (y := 2) hx hb r9 rg_2 dX7_number_69 (by decide) (fun c30 => ?_) (fun c30 => ?_)
        · have h33 := h29.2 c30
          refine lv_iload_n hx hb dX7_number_92 rfl (lv_at hl 0 rfl) ?_
          exact zr_iret (z := figZ s) hx hb hr hlocks hK (sS (sS s 10 ((s.1 10) + 1)) 11 (s.1 10)) hP hD hS dX7_number_93 ⟨r9, (RG_S (RG_S r_s (r18.1 10)) (r18.1 11)), h33⟩
        · have h34 := h29.1 c30
          refine lv_aload_n hx hb dX7_number_72 rfl (lv_at hl 1 rfl) ?_
          obtain ⟨b35, h36⟩ := h34
          obtain ⟨b37, h38⟩ := h36
          refine zc_vi (As := []) (rest := []) (w2 := fun u_39 => W7 G a (sS (sS s 10 ((s.1 10) + 1)) 11 (s.1 10))) (c_X7_figure l G a (sS (sS s 10 ((s.1 10) + 1)) 11 (s.1 10)) (RG_S (RG_S r_s (r18.1 10)) (r18.1 11)) b1 b35 b37) ⟨hx, hb, hml, hown, hts⟩ (cwV 0 hts gX7_number_X7_figure rfl rfl rfl hdX7_figure ⟨Nat.le_of_ble_eq_true rfl, Nat.le_of_ble_eq_true rfl⟩) hK hP hD hS hA (q0 := 0) rfl rfl [0, 1, 2, 3, 4, 5, 6] [] [0, 1, 2, 3, 4, 5, 6] rfl rfl rfl rfl (by decide) (fun _ => rfl) rfl rfl hl.1 rfl (Nat.le_of_ble_eq_true rfl) dX7_number_73 ⟨Nat.zero_le _, Nat.zero_le _⟩ (fun z40 u_39 H locs hw hP hD hS => ?_)
          obtain ⟨rfl, r41⟩ := hw
          have hP : va_P G.1 vwCl (W7 G a (sS (sS s 10 ((s.1 10) + 1)) 11 (s.1 10))) H := hP
          have hD : va_D A (W7 G a (sS (sS s 10 ((s.1 10) + 1)) 11 (s.1 10))) := hD
          refine zr_if_ne (tgt := 92) (x := figZ (sS (sS s 10 ((s.1 10) + 1)) 11 (s.1 10))) hx hb r41 dX7_number_76 (by decide) (fun c42 => ?_) (fun c42 => ?_)
          · have h45 := h38.2 c42
            refine lv_iload_n hx hb dX7_number_92 rfl (lv_at hl 0 rfl) ?_
            exact zr_iret (z := figZ s) hx hb hr hlocks hK (sS (sS s 10 ((s.1 10) + 1)) 11 (s.1 10)) hP hD hS dX7_number_93 ⟨r9, (RG_S (RG_S r_s (r18.1 10)) (r18.1 11)), h45⟩
          · have h46 := h38.1 c42
            refine lv_bipush (v := iI 20) hx hb dX7_number_79 (by decide) ?_
            refine lv_istore_n (lv' := [(1, .int (iI 20)), (0, .ref (a 0))]) hx hb dX7_number_81 rfl hl (by decide) rfl (fun ls hl => ?_)
            refine lv_aload_n hx hb dX7_number_82 rfl (lv_at hl 1 rfl) ?_
            refine lv_dup hx hb dX7_number_83 rfl ?_
            refine va_get (v := .int (iI ((s.1 10) + 1))) (ci := 7) (C := RX7) (T := TX7) (N := 12) hx hb hts imX7_number_X7 hown hK hP 0 rfl rfl 10 (by decide) k2 (fun _ h9 => h9) rfl dX7_number_84 ?_
            refine lv_iconst (v := iI 1) hx hb dX7_number_87 rfl ?_
            refine zr_iadd (x := (s.1 10) + 1) (y := 1) hx hb dX7_number_88 ?_
            obtain ⟨r47, h48⟩ := h46
            refine va_put (v := .int (iI (((s.1 10) + 1) + 1))) (ty := .int) (ci := 7) (C := RX7) (T := TX7) (N := 12) hx hb hts imX7_number_X7 tyX7 tyX7_ok nmX7 hown hK hP hD hS 0 rfl rfl 10 (by decide) k2 (fun _ h9 => h9) rfl (tyX7_ok 10 (by decide)) rfl rfl (Nat.le_of_ble_eq_true rfl) dX7_number_89 (fun H locs hP hD hS => ?_)
            have hP : va_P G.1 vwCl (W7 G a (sS (sS s 10 (((s.1 10) + 1) + 1)) 11 (s.1 10))) H := hP
            have hD : va_D A (W7 G a (sS (sS s 10 (((s.1 10) + 1) + 1)) 11 (s.1 10))) := hD
            refine lv_iload_n hx hb dX7_number_92 rfl (lv_at hl 0 rfl) ?_
            exact zr_iret (z := 20) hx hb hr hlocks hK (sS (sS s 10 (((s.1 10) + 1) + 1)) 11 (s.1 10)) hP hD hS dX7_number_93 ⟨rg_20, (RG_S (RG_S r_s r47) (r18.1 11)), h48⟩
      · have h49 := h25.1 c26
        refine lv_bipush (v := iI 10) hx hb dX7_number_32 (by decide) ?_
        refine lv_aload_n hx hb dX7_number_34 rfl (lv_at hl 1 rfl) ?_
        obtain ⟨b50, h51⟩ := h49
        obtain ⟨b52, h53⟩ := h51
        refine zc_vi (As := []) (rest := [.int (iI 10)]) (w2 := fun u_54 => W7 G a (sS (sS s 10 ((s.1 10) + 1)) 11 (s.1 10))) (c_X7_figure l G a (sS (sS s 10 ((s.1 10) + 1)) 11 (s.1 10)) (RG_S (RG_S r_s (r18.1 10)) (r18.1 11)) b1 b50 b52) ⟨hx, hb, hml, hown, hts⟩ (cwV 0 hts gX7_number_X7_figure rfl rfl rfl hdX7_figure ⟨Nat.le_of_ble_eq_true rfl, Nat.le_of_ble_eq_true rfl⟩) hK hP hD hS hA (q0 := 0) rfl rfl [0, 1, 2, 3, 4, 5, 6] [] [0, 1, 2, 3, 4, 5, 6] rfl rfl rfl rfl (by decide) (fun _ => rfl) rfl rfl hl.1 rfl (Nat.le_of_ble_eq_true rfl) dX7_number_35 ⟨Nat.zero_le _, Nat.zero_le _⟩ (fun z55 u_54 H locs hw hP hD hS => ?_)
        obtain ⟨rfl, r56⟩ := hw
        have hP : va_P G.1 vwCl (W7 G a (sS (sS s 10 ((s.1 10) + 1)) 11 (s.1 10))) H := hP
        have hD : va_D A (W7 G a (sS (sS s 10 ((s.1 10) + 1)) 11 (s.1 10))) := hD
        refine zr_iadd (x := 10) (y := figZ (sS (sS s 10 ((s.1 10) + 1)) 11 (s.1 10))) hx hb dX7_number_38 ?_
        obtain ⟨r57, h58⟩ := h53
        refine lv_istore_n (lv' := [(1, .int (iI (10 + (figZ (sS (sS s 10 ((s.1 10) + 1)) 11 (s.1 10)))))), (0, .ref (a 0))]) hx hb dX7_number_39 rfl hl (by decide) rfl (fun ls hl => ?_)
        refine lv_aload_n hx hb dX7_number_40 rfl (lv_at hl 1 rfl) ?_
        refine lv_iload_n hx hb dX7_number_41 rfl (lv_at hl 0 rfl) ?_
        refine lv_bipush (v := iI 10) hx hb dX7_number_42 (by decide) ?_
        refine zr_icmp_lt (tgt := 51) (x := 10 + (figZ (sS (sS s 10 ((s.1 10) + 1)) 11 (s.1 10)))) (y := 10) hx hb r57 rg_10 dX7_number_44 (by decide) (fun c59 => ?_) (fun c59 => ?_)
        · have h62 := h58.1 c59
          refine lv_iconst (v := iI 0) hx hb dX7_number_51 rfl ?_
          obtain ⟨b63, h64⟩ := h62
          obtain ⟨b65, h66⟩ := h64
          refine zc_vv (As := [.int (iI 0)]) (rest := []) (w2 := fun u_68 => W7 G a (sS (sS s 10 (((s.1 10) + 1) + 1)) 11 ((s.1 10) + 1))) (c_X7_wants0 l G a (sS (sS s 10 ((s.1 10) + 1)) 11 (s.1 10)) (RG_S (RG_S r_s (r18.1 10)) (r18.1 11)) b63 b65) ⟨hx, hb, hml, hown, hts⟩ (cwV 1 hts gX7_number_X7_wants rfl rfl rfl hdX7_wants ⟨Nat.le_of_ble_eq_true rfl, Nat.le_of_ble_eq_true rfl⟩) hK hP hD hS hA (q0 := 0) rfl rfl [0, 1, 2, 3, 4, 5, 6] [] [0, 1, 2, 3, 4, 5, 6] rfl rfl rfl rfl (by decide) (fun _ => rfl) rfl rfl hl.1 rfl (Nat.le_of_ble_eq_true rfl) dX7_number_52 ⟨Nat.zero_le _, Nat.zero_le _⟩ (fun u_68 H locs hw hP hD hS => ?_)
          have r67 := hw
          have hP : va_P G.1 vwCl (W7 G a (sS (sS s 10 (((s.1 10) + 1) + 1)) 11 ((s.1 10) + 1))) H := hP
          have hD : va_D A (W7 G a (sS (sS s 10 (((s.1 10) + 1) + 1)) 11 ((s.1 10) + 1))) := hD
          refine lv_goto (tgt := 92) hx hb dX7_number_55 (by decide) ?_
          refine lv_iload_n hx hb dX7_number_92 rfl (lv_at hl 0 rfl) ?_
          exact zr_iret (z := 10 + (figZ (sS (sS s 10 ((s.1 10) + 1)) 11 (s.1 10)))) hx hb hr hlocks hK (sS (sS s 10 (((s.1 10) + 1) + 1)) 11 ((s.1 10) + 1)) hP hD hS dX7_number_93 ⟨r57, (RG_S (RG_S r_s (r67.1 10)) (r67.1 11)), h66⟩
        · have h70 := h58.2 c59
          refine lv_iconst (v := iI 1) hx hb dX7_number_47 rfl ?_
          refine lv_goto (tgt := 52) hx hb dX7_number_48 (by decide) ?_
          obtain ⟨b71, h72⟩ := h70
          obtain ⟨b73, h74⟩ := h72
          refine zc_vv (As := [.int (iI 1)]) (rest := []) (w2 := fun u_76 => W7 G a (sS (sS s 10 (((s.1 10) + 1) + 1)) 11 (-6))) (c_X7_wants1 l G a (sS (sS s 10 ((s.1 10) + 1)) 11 (s.1 10)) (RG_S (RG_S r_s (r18.1 10)) (r18.1 11)) b71 b73) ⟨hx, hb, hml, hown, hts⟩ (cwV 1 hts gX7_number_X7_wants rfl rfl rfl hdX7_wants ⟨Nat.le_of_ble_eq_true rfl, Nat.le_of_ble_eq_true rfl⟩) hK hP hD hS hA (q0 := 0) rfl rfl [0, 1, 2, 3, 4, 5, 6] [] [0, 1, 2, 3, 4, 5, 6] rfl rfl rfl rfl (by decide) (fun _ => rfl) rfl rfl hl.1 rfl (Nat.le_of_ble_eq_true rfl) dX7_number_52 ⟨Nat.zero_le _, Nat.zero_le _⟩ (fun u_76 H locs hw hP hD hS => ?_)
          have r75 := hw
          have hP : va_P G.1 vwCl (W7 G a (sS (sS s 10 (((s.1 10) + 1) + 1)) 11 (-6))) H := hP
          have hD : va_D A (W7 G a (sS (sS s 10 (((s.1 10) + 1) + 1)) 11 (-6))) := hD
          refine lv_goto (tgt := 92) hx hb dX7_number_55 (by decide) ?_
          refine lv_iload_n hx hb dX7_number_92 rfl (lv_at hl 0 rfl) ?_
          exact zr_iret (z := 10 + (figZ (sS (sS s 10 ((s.1 10) + 1)) 11 (s.1 10)))) hx hb hr hlocks hK (sS (sS s 10 (((s.1 10) + 1) + 1)) 11 (-6)) hP hD hS dX7_number_93 ⟨r57, (RG_S (RG_S r_s (r75.1 10)) (r75.1 11)), h74⟩
  · have h78 := h6.1 c10
    refine lv_iconst (v := iI 1) hx hb dX7_number_10 rfl ?_
    refine lv_goto (tgt := 15) hx hb dX7_number_11 (by decide) ?_
    obtain ⟨b79, h80⟩ := h78
    obtain ⟨b81, h82⟩ := h80
    refine zc_vv (As := [.int (iI 1)]) (rest := []) (w2 := fun u_84 => W7 G a (sS (sS s 10 ((s.1 10) + 1)) 11 (-6))) (c_X7_wants1 l G a s r_s b79 b81) ⟨hx, hb, hml, hown, hts⟩ (cwV 1 hts gX7_number_X7_wants rfl rfl rfl hdX7_wants ⟨Nat.le_of_ble_eq_true rfl, Nat.le_of_ble_eq_true rfl⟩) hK hP hD hS hA (q0 := 0) rfl rfl [0, 1, 2, 3, 4, 5, 6] [] [0, 1, 2, 3, 4, 5, 6] rfl rfl rfl rfl (by decide) (fun _ => rfl) rfl rfl hl.1 rfl (Nat.le_of_ble_eq_true rfl) dX7_number_15 ⟨Nat.zero_le _, Nat.zero_le _⟩ (fun u_84 H locs hw hP hD hS => ?_)
    have r83 := hw
    have hP : va_P G.1 vwCl (W7 G a (sS (sS s 10 ((s.1 10) + 1)) 11 (-6))) H := hP
    have hD : va_D A (W7 G a (sS (sS s 10 ((s.1 10) + 1)) 11 (-6))) := hD
    refine lv_aload_n hx hb dX7_number_18 rfl (lv_at hl 1 rfl) ?_
    refine va_get (v := .int (iI (-6))) (ci := 7) (C := RX7) (T := TX7) (N := 12) hx hb hts imX7_number_X7 hown hK hP 0 rfl rfl 11 (by decide) k1 (fun _ h9 => h9) rfl dX7_number_19 ?_
    refine lv_bipush (v := iI (-6)) hx hb dX7_number_22 (by decide) ?_
    refine zr_icmp_ne (tgt := 58) (x := (-6)) (y := (-6)) hx hb (r83.1 11) rg_m6 dX7_number_24 (by decide) (fun c86 => ?_) (fun c86 => ?_)
    · have h89 := h82.2 c86
      refine lv_aload_n hx hb dX7_number_58 rfl (lv_at hl 1 rfl) ?_
      refine va_get (v := .int (iI (-6))) (ci := 7) (C := RX7) (T := TX7) (N := 12) hx hb hts imX7_number_X7 hown hK hP 0 rfl rfl 11 (by decide) k1 (fun _ h9 => h9) rfl dX7_number_59 ?_
      refine lv_bipush (v := iI (-6)) hx hb dX7_number_62 (by decide) ?_
      refine zr_icmp_ne (tgt := 92) (x := (-6)) (y := (-6)) hx hb (r83.1 11) rg_m6 dX7_number_64 (by decide) (fun _ => ?_) (fun c => absurd c c86)
      refine lv_iload_n hx hb dX7_number_92 rfl (lv_at hl 0 rfl) ?_
      exact zr_iret (z := figZ s) hx hb hr hlocks hK (sS (sS s 10 ((s.1 10) + 1)) 11 (-6)) hP hD hS dX7_number_93 ⟨r9, (RG_S (RG_S r_s (r83.1 10)) (r83.1 11)), h89⟩
    · have h90 := h82.1 c86
      refine lv_iload_n hx hb dX7_number_27 rfl (lv_at hl 0 rfl) ?_
      refine lv_iconst (v := iI 1) hx hb dX7_number_28 rfl ?_
      refine zr_icmp_ne (tgt := 58) (x := figZ s) (y := 1) hx hb r9 rg_1 dX7_number_29 (by decide) (fun c91 => ?_) (fun c91 => ?_)
      · have h94 := h90.2 c91
        refine lv_aload_n hx hb dX7_number_58 rfl (lv_at hl 1 rfl) ?_
        refine va_get (v := .int (iI (-6))) (ci := 7) (C := RX7) (T := TX7) (N := 12) hx hb hts imX7_number_X7 hown hK hP 0 rfl rfl 11 (by decide) k1 (fun _ h9 => h9) rfl dX7_number_59 ?_
        refine lv_bipush (v := iI (-6)) hx hb dX7_number_62 (by decide) ?_
        refine zr_icmp_ne (tgt := 92) (x := (-6)) (y := (-6)) hx hb (r83.1 11) rg_m6 dX7_number_64 (by decide) (fun c => absurd c86 c) (fun _ => ?_)
        refine lv_iload_n hx hb dX7_number_67 rfl (lv_at hl 0 rfl) ?_
        refine lv_iconst (v := iI 2) hx hb dX7_number_68 rfl ?_
        refine zr_icmp_ne (tgt := 92) (x := figZ s) (y := 2) hx hb r9 rg_2 dX7_number_69 (by decide) (fun c95 => ?_) (fun c95 => ?_)
        · have h98 := h94.2 c95
          refine lv_iload_n hx hb dX7_number_92 rfl (lv_at hl 0 rfl) ?_
          exact zr_iret (z := figZ s) hx hb hr hlocks hK (sS (sS s 10 ((s.1 10) + 1)) 11 (-6)) hP hD hS dX7_number_93 ⟨r9, (RG_S (RG_S r_s (r83.1 10)) (r83.1 11)), h98⟩
        · have h99 := h94.1 c95
          refine lv_aload_n hx hb dX7_number_72 rfl (lv_at hl 1 rfl) ?_
          obtain ⟨b100, h101⟩ := h99
          obtain ⟨b102, h103⟩ := h101
          refine zc_vi (As := []) (rest := []) (w2 := fun u_104 => W7 G a (sS (sS s 10 ((s.1 10) + 1)) 11 (-6))) (c_X7_figure l G a (sS (sS s 10 ((s.1 10) + 1)) 11 (-6)) (RG_S (RG_S r_s (r83.1 10)) (r83.1 11)) b1 b100 b102) ⟨hx, hb, hml, hown, hts⟩ (cwV 0 hts gX7_number_X7_figure rfl rfl rfl hdX7_figure ⟨Nat.le_of_ble_eq_true rfl, Nat.le_of_ble_eq_true rfl⟩) hK hP hD hS hA (q0 := 0) rfl rfl [0, 1, 2, 3, 4, 5, 6] [] [0, 1, 2, 3, 4, 5, 6] rfl rfl rfl rfl (by decide) (fun _ => rfl) rfl rfl hl.1 rfl (Nat.le_of_ble_eq_true rfl) dX7_number_73 ⟨Nat.zero_le _, Nat.zero_le _⟩ (fun z105 u_104 H locs hw hP hD hS => ?_)
          obtain ⟨rfl, r106⟩ := hw
          have hP : va_P G.1 vwCl (W7 G a (sS (sS s 10 ((s.1 10) + 1)) 11 (-6))) H := hP
          have hD : va_D A (W7 G a (sS (sS s 10 ((s.1 10) + 1)) 11 (-6))) := hD
          refine zr_if_ne (tgt := 92) (x := figZ (sS (sS s 10 ((s.1 10) + 1)) 11 (-6))) hx hb r106 dX7_number_76 (by decide) (fun c107 => ?_) (fun c107 => ?_)
          · have h110 := h103.2 c107
            refine lv_iload_n hx hb dX7_number_92 rfl (lv_at hl 0 rfl) ?_
            exact zr_iret (z := figZ s) hx hb hr hlocks hK (sS (sS s 10 ((s.1 10) + 1)) 11 (-6)) hP hD hS dX7_number_93 ⟨r9, (RG_S (RG_S r_s (r83.1 10)) (r83.1 11)), h110⟩
          · have h111 := h103.1 c107
            refine lv_bipush (v := iI 20) hx hb dX7_number_79 (by decide) ?_
            refine lv_istore_n (lv' := [(1, .int (iI 20)), (0, .ref (a 0))]) hx hb dX7_number_81 rfl hl (by decide) rfl (fun ls hl => ?_)
            refine lv_aload_n hx hb dX7_number_82 rfl (lv_at hl 1 rfl) ?_
            refine lv_dup hx hb dX7_number_83 rfl ?_
            refine va_get (v := .int (iI ((s.1 10) + 1))) (ci := 7) (C := RX7) (T := TX7) (N := 12) hx hb hts imX7_number_X7 hown hK hP 0 rfl rfl 10 (by decide) k2 (fun _ h9 => h9) rfl dX7_number_84 ?_
            refine lv_iconst (v := iI 1) hx hb dX7_number_87 rfl ?_
            refine zr_iadd (x := (s.1 10) + 1) (y := 1) hx hb dX7_number_88 ?_
            obtain ⟨r112, h113⟩ := h111
            refine va_put (v := .int (iI (((s.1 10) + 1) + 1))) (ty := .int) (ci := 7) (C := RX7) (T := TX7) (N := 12) hx hb hts imX7_number_X7 tyX7 tyX7_ok nmX7 hown hK hP hD hS 0 rfl rfl 10 (by decide) k2 (fun _ h9 => h9) rfl (tyX7_ok 10 (by decide)) rfl rfl (Nat.le_of_ble_eq_true rfl) dX7_number_89 (fun H locs hP hD hS => ?_)
            have hP : va_P G.1 vwCl (W7 G a (sS (sS s 10 (((s.1 10) + 1) + 1)) 11 (-6))) H := hP
            have hD : va_D A (W7 G a (sS (sS s 10 (((s.1 10) + 1) + 1)) 11 (-6))) := hD
            refine lv_iload_n hx hb dX7_number_92 rfl (lv_at hl 0 rfl) ?_
            exact zr_iret (z := 20) hx hb hr hlocks hK (sS (sS s 10 (((s.1 10) + 1) + 1)) 11 (-6)) hP hD hS dX7_number_93 ⟨rg_20, (RG_S (RG_S r_s r112) (r83.1 11)), h113⟩
      · have h114 := h90.1 c91
        refine lv_bipush (v := iI 10) hx hb dX7_number_32 (by decide) ?_
        refine lv_aload_n hx hb dX7_number_34 rfl (lv_at hl 1 rfl) ?_
        obtain ⟨b115, h116⟩ := h114
        obtain ⟨b117, h118⟩ := h116
        refine zc_vi (As := []) (rest := [.int (iI 10)]) (w2 := fun u_119 => W7 G a (sS (sS s 10 ((s.1 10) + 1)) 11 (-6))) (c_X7_figure l G a (sS (sS s 10 ((s.1 10) + 1)) 11 (-6)) (RG_S (RG_S r_s (r83.1 10)) (r83.1 11)) b1 b115 b117) ⟨hx, hb, hml, hown, hts⟩ (cwV 0 hts gX7_number_X7_figure rfl rfl rfl hdX7_figure ⟨Nat.le_of_ble_eq_true rfl, Nat.le_of_ble_eq_true rfl⟩) hK hP hD hS hA (q0 := 0) rfl rfl [0, 1, 2, 3, 4, 5, 6] [] [0, 1, 2, 3, 4, 5, 6] rfl rfl rfl rfl (by decide) (fun _ => rfl) rfl rfl hl.1 rfl (Nat.le_of_ble_eq_true rfl) dX7_number_35 ⟨Nat.zero_le _, Nat.zero_le _⟩ (fun z120 u_119 H locs hw hP hD hS => ?_)
        obtain ⟨rfl, r121⟩ := hw
        have hP : va_P G.1 vwCl (W7 G a (sS (sS s 10 ((s.1 10) + 1)) 11 (-6))) H := hP
        have hD : va_D A (W7 G a (sS (sS s 10 ((s.1 10) + 1)) 11 (-6))) := hD
        refine zr_iadd (x := 10) (y := figZ (sS (sS s 10 ((s.1 10) + 1)) 11 (-6))) hx hb dX7_number_38 ?_
        obtain ⟨r122, h123⟩ := h118
        refine lv_istore_n (lv' := [(1, .int (iI (10 + (figZ (sS (sS s 10 ((s.1 10) + 1)) 11 (-6)))))), (0, .ref (a 0))]) hx hb dX7_number_39 rfl hl (by decide) rfl (fun ls hl => ?_)
        refine lv_aload_n hx hb dX7_number_40 rfl (lv_at hl 1 rfl) ?_
        refine lv_iload_n hx hb dX7_number_41 rfl (lv_at hl 0 rfl) ?_
        refine lv_bipush (v := iI 10) hx hb dX7_number_42 (by decide) ?_
        refine zr_icmp_lt (tgt := 51) (x := 10 + (figZ (sS (sS s 10 ((s.1 10) + 1)) 11 (-6)))) (y := 10) hx hb r122 rg_10 dX7_number_44 (by decide) (fun c124 => ?_) (fun c124 => ?_)
        · have h127 := h123.1 c124
          refine lv_iconst (v := iI 0) hx hb dX7_number_51 rfl ?_
          obtain ⟨b128, h129⟩ := h127
          obtain ⟨b130, h131⟩ := h129
          refine zc_vv (As := [.int (iI 0)]) (rest := []) (w2 := fun u_133 => W7 G a (sS (sS s 10 (((s.1 10) + 1) + 1)) 11 ((s.1 10) + 1))) (c_X7_wants0 l G a (sS (sS s 10 ((s.1 10) + 1)) 11 (-6)) (RG_S (RG_S r_s (r83.1 10)) (r83.1 11)) b128 b130) ⟨hx, hb, hml, hown, hts⟩ (cwV 1 hts gX7_number_X7_wants rfl rfl rfl hdX7_wants ⟨Nat.le_of_ble_eq_true rfl, Nat.le_of_ble_eq_true rfl⟩) hK hP hD hS hA (q0 := 0) rfl rfl [0, 1, 2, 3, 4, 5, 6] [] [0, 1, 2, 3, 4, 5, 6] rfl rfl rfl rfl (by decide) (fun _ => rfl) rfl rfl hl.1 rfl (Nat.le_of_ble_eq_true rfl) dX7_number_52 ⟨Nat.zero_le _, Nat.zero_le _⟩ (fun u_133 H locs hw hP hD hS => ?_)
          have r132 := hw
          have hP : va_P G.1 vwCl (W7 G a (sS (sS s 10 (((s.1 10) + 1) + 1)) 11 ((s.1 10) + 1))) H := hP
          have hD : va_D A (W7 G a (sS (sS s 10 (((s.1 10) + 1) + 1)) 11 ((s.1 10) + 1))) := hD
          refine lv_goto (tgt := 92) hx hb dX7_number_55 (by decide) ?_
          refine lv_iload_n hx hb dX7_number_92 rfl (lv_at hl 0 rfl) ?_
          exact zr_iret (z := 10 + (figZ (sS (sS s 10 ((s.1 10) + 1)) 11 (-6)))) hx hb hr hlocks hK (sS (sS s 10 (((s.1 10) + 1) + 1)) 11 ((s.1 10) + 1)) hP hD hS dX7_number_93 ⟨r122, (RG_S (RG_S r_s (r132.1 10)) (r132.1 11)), h131⟩
        · have h135 := h123.2 c124
          refine lv_iconst (v := iI 1) hx hb dX7_number_47 rfl ?_
          refine lv_goto (tgt := 52) hx hb dX7_number_48 (by decide) ?_
          obtain ⟨b136, h137⟩ := h135
          obtain ⟨b138, h139⟩ := h137
          refine zc_vv (As := [.int (iI 1)]) (rest := []) (w2 := fun u_141 => W7 G a (sS (sS s 10 (((s.1 10) + 1) + 1)) 11 (-6))) (c_X7_wants1 l G a (sS (sS s 10 ((s.1 10) + 1)) 11 (-6)) (RG_S (RG_S r_s (r83.1 10)) (r83.1 11)) b136 b138) ⟨hx, hb, hml, hown, hts⟩ (cwV 1 hts gX7_number_X7_wants rfl rfl rfl hdX7_wants ⟨Nat.le_of_ble_eq_true rfl, Nat.le_of_ble_eq_true rfl⟩) hK hP hD hS hA (q0 := 0) rfl rfl [0, 1, 2, 3, 4, 5, 6] [] [0, 1, 2, 3, 4, 5, 6] rfl rfl rfl rfl (by decide) (fun _ => rfl) rfl rfl hl.1 rfl (Nat.le_of_ble_eq_true rfl) dX7_number_52 ⟨Nat.zero_le _, Nat.zero_le _⟩ (fun u_141 H locs hw hP hD hS => ?_)
          have r140 := hw
          have hP : va_P G.1 vwCl (W7 G a (sS (sS s 10 (((s.1 10) + 1) + 1)) 11 (-6))) H := hP
          have hD : va_D A (W7 G a (sS (sS s 10 (((s.1 10) + 1) + 1)) 11 (-6))) := hD
          refine lv_goto (tgt := 92) hx hb dX7_number_55 (by decide) ?_
          refine lv_iload_n hx hb dX7_number_92 rfl (lv_at hl 0 rfl) ?_
          exact zr_iret (z := 10 + (figZ (sS (sS s 10 ((s.1 10) + 1)) 11 (-6)))) hx hb hr hlocks hK (sS (sS s 10 (((s.1 10) + 1) + 1)) 11 (-6)) hP hD hS dX7_number_93 ⟨r122, (RG_S (RG_S r_s (r140.1 10)) (r140.1 11)), h139⟩
theorem c_X7_number (l : Launch) (G : ZG) (a : Nat → Nat) (s : SS)  (k : Int) (r_s : RG s)  (p0 : 0 ≤ (s.1 7) ∧ (s.1 7) ≤ 80) (p1 : Bf s) (p2 : (s.1 11) = -6) (p3 : 0 ≤ (s.1 10) ∧ (s.1 10) ≤ (s.1 7)) (p4 : StA (s.2 6) (s.1 10) (1, k, 0, 0)) : ZI l G yX7_number wsX7_number 2 43 [.ref (a 0)] (W7 G a s) (fun u : SS => W7 G a u) (fun (zq : Int) (u : SS) => rg zq ∧ RG u ∧ (psA s u 1 k zq 2 20)) :=
  c0_X7_number l G a s (fun r s' => psA s s' 1 k r 2 20) r_s  (sp_X7_number s k r_s  p0 p1 p2 p3 p4)
