theorem imX7_add_X7 : ∀ w ∈ wsX70, w ∈ wsX7_add := fun _ h => (List.mem_cons_of_mem _ (List.mem_append_right _ h))
theorem hdX7_add : yX7_add.cls = RX7 ∧ yX7_add.cls ≠ "java/lang/invoke/MethodHandle" ∧ yX7_add.cls ≠ "java/lang/invoke/VarHandle" ∧ (parseMethodDescriptor yX7_add.desc).map (fun d => d.parameters.length) = some 1 := by decide +kernel
set_option maxRecDepth 100000 in
set_option maxHeartbeats 4000000 in
theorem c0_X7_add (l : Launch) (G : ZG) (a : Nat → Nat) (s : SS) (key : Int) (P : Int → SS → Prop) (r_s : RG s) (r_key : rg key) (hwp : wp_X7_add s key P) : ZI l G yX7_add wsX7_add 4 88 [.ref (a 0), .int (iI key)] (W7 G a s) (fun u : SS => W7 G a u) (fun (z : Int) (u : SS) => rg z ∧ RG u ∧ P z u) := by
  unfold wp_X7_add at hwp
  refine zm_i (cc := cX7_add) (maxL := 2) (ret := some .int) (own := RX7) (lvs := [(0, .ref (a 0)), (1, .int (iI key))]) (by decide) rfl rfl (Nat.le_of_ble_eq_true rfl) rfl ?_
  intro p e sT m args below meth c ls A hx hb hr hml hown hts hlocks hK hP hD hS hA hl
  have k1 := hts (.fieldLink RX7 7 "GrantedSortModel" "z" "[I") (List.mem_of_getElem? (i := 1) rfl)
  refine lv_iload_n hx hb dX7_add_0 rfl (lv_at hl 1 rfl) ?_
  refine lv_iconst (v := iI 0) hx hb dX7_add_1 rfl ?_
  refine lv_sipush (v := iI 999) hx hb dX7_add_2 (by decide) ?_
  refine zc_si (As := [.int (iI key), .int (iI 0), .int (iI 999)]) (rest := []) (c_X7_in l G key 0 999 r_key rg_0 rg_999) ⟨hx, hb, hml, hown, hts⟩ (va_cwS 3 hts gX7_add_X7_in rfl rfl rfl hdX7_in ⟨Nat.le_of_ble_eq_true rfl, Nat.le_of_ble_eq_true rfl⟩) hK hP hD hS hA rfl hl.1 rfl (Nat.le_of_ble_eq_true rfl) dX7_add_5 ⟨Nat.zero_le _, Nat.zero_le _⟩ (fun z2 H locs hw hP hD hS => ?_)
  obtain ⟨rfl, r3⟩ := hw
  have hP : va_P G.1 vwCl (W7 G a s) H := hP
  have hD : va_D A (W7 G a s) := hD
  refine zr_ifB_ne (tgt := 14)  hx hb dX7_add_8 (by decide) (fun c4 => ?_) (fun c4 => ?_)
  · have h7 := hwp.1 c4
    refine lv_aload_n hx hb dX7_add_14 rfl (lv_at hl 0 rfl) ?_
    refine va_get (v := .ref (a 1)) (ci := 7) (C := RX7) (T := TX7) (N := 12) hx hb hts imX7_add_X7 hown hK hP 0 rfl rfl 0 (by decide) k1 (fun _ h9 => h9) rfl dX7_add_15 ?_
    refine lv_iconst (v := iI 2) hx hb dX7_add_18 rfl ?_
    refine zr_iald (n := 370) (f := (s.2 0)) (i := 2) hx hb hK hP 1 rfl rg_2 ⟨by decide, by decide⟩ dX7_add_19 ?_
    refine zr_if_ne (tgt := 26) (x := (s.2 0) 2) hx hb ((r_s.2 0) 2) dX7_add_20 (by decide) (fun c8 => ?_) (fun c8 => ?_)
    · have h11 := h7.2 c8
      refine lv_aload_n hx hb dX7_add_26 rfl (lv_at hl 0 rfl) ?_
      refine va_get (v := .ref (a 1)) (ci := 7) (C := RX7) (T := TX7) (N := 12) hx hb hts imX7_add_X7 hown hK hP 0 rfl rfl 0 (by decide) k1 (fun _ h9 => h9) rfl dX7_add_27 ?_
      refine lv_iconst (v := iI 3) hx hb dX7_add_30 rfl ?_
      refine zr_iald (n := 370) (f := (s.2 0)) (i := 3) hx hb hK hP 1 rfl rg_3 ⟨by decide, by decide⟩ dX7_add_31 ?_
      refine lv_bipush (v := iI 120) hx hb dX7_add_32 (by decide) ?_
      refine zr_icmp_ne (tgt := 40) (x := (s.2 0) 3) (y := 120) hx hb ((r_s.2 0) 3) rg_120 dX7_add_34 (by decide) (fun c12 => ?_) (fun c12 => ?_)
      · have h15 := h11.2 c12
        refine lv_aload_n hx hb dX7_add_40 rfl (lv_at hl 0 rfl) ?_
        obtain ⟨b16, h17⟩ := h15
        refine zc_vv (As := []) (rest := []) (w2 := fun u_19 => W7 G a (sS (sA s 1 (recP (s.2 1) (s.1 2) (s.2 0))) 2 (recN (s.1 2) + 1))) (c_X7_record l G a s r_s b16) ⟨hx, hb, hml, hown, hts⟩ (cwV 0 hts gX7_add_X7_record rfl rfl rfl hdX7_record ⟨Nat.le_of_ble_eq_true rfl, Nat.le_of_ble_eq_true rfl⟩) hK hP hD hS hA (q0 := 0) rfl rfl [0, 1, 2, 3, 4, 5, 6] [] [0, 1, 2, 3, 4, 5, 6] rfl rfl rfl rfl (by decide) (fun _ => rfl) rfl rfl hl.1 rfl (Nat.le_of_ble_eq_true rfl) dX7_add_41 ⟨Nat.zero_le _, Nat.zero_le _⟩ (fun u_19 H locs hw hP hD hS => ?_)
        have r18 := hw
        have hP : va_P G.1 vwCl (W7 G a (sS (sA s 1 (recP (s.2 1) (s.1 2) (s.2 0))) 2 (recN (s.1 2) + 1))) H := hP
        have hD : va_D A (W7 G a (sS (sA s 1 (recP (s.2 1) (s.1 2) (s.2 0))) 2 (recN (s.1 2) + 1))) := hD
        refine lv_aload_n hx hb dX7_add_44 rfl (lv_at hl 0 rfl) ?_
        refine lv_iload_n hx hb dX7_add_45 rfl (lv_at hl 1 rfl) ?_
        obtain ⟨b21, h22⟩ := h17
        obtain ⟨b23, h24⟩ := h22
        obtain ⟨b25, h26⟩ := h24
        obtain ⟨b27, h28⟩ := h26
        refine zc_vi (As := [.int (iI key)]) (rest := []) (w2 := fun u_30 => W7 G a (sS (sA (sA s 0 (addZ (s.2 0) key)) 1 (recP (s.2 1) (s.1 2) (s.2 0))) 2 (recN (s.1 2) + 1))) (c_X7_adds l G a (sS (sA s 1 (recP (s.2 1) (s.1 2) (s.2 0))) 2 (recN (s.1 2) + 1)) key (RG_S (RG_A r_s (r18.2 1)) (r18.1 2)) r_key b21 b23 b25 b27) ⟨hx, hb, hml, hown, hts⟩ (cwV 1 hts gX7_add_X7_adds rfl rfl rfl hdX7_adds ⟨Nat.le_of_ble_eq_true rfl, Nat.le_of_ble_eq_true rfl⟩) hK hP hD hS hA (q0 := 0) rfl rfl [0, 1, 2, 3, 4, 5, 6] [] [0, 1, 2, 3, 4, 5, 6] rfl rfl rfl rfl (by decide) (fun _ => rfl) rfl rfl hl.1 rfl (Nat.le_of_ble_eq_true rfl) dX7_add_46 ⟨Nat.zero_le _, Nat.zero_le _⟩ (fun z31 u_30 H locs hw hP hD hS => ?_)
        obtain ⟨rfl, r32, r29⟩ := hw
        have hP : va_P G.1 vwCl (W7 G a (sS (sA (sA s 0 (addZ (s.2 0) key)) 1 (recP (s.2 1) (s.1 2) (s.2 0))) 2 (recN (s.1 2) + 1))) H := hP
        have hD : va_D A (W7 G a (sS (sA (sA s 0 (addZ (s.2 0) key)) 1 (recP (s.2 1) (s.1 2) (s.2 0))) 2 (recN (s.1 2) + 1))) := hD
        exact zr_iret (z := (s.2 0) 3) hx hb hr hlocks hK (sS (sA (sA s 0 (addZ (s.2 0) key)) 1 (recP (s.2 1) (s.1 2) (s.2 0))) 2 (recN (s.1 2) + 1)) hP hD hS dX7_add_49 ⟨r32, (RG_S (RG_A (RG_A r_s (r29.2 0)) (r18.2 1)) (r18.1 2)), h28⟩
      · have h33 := h11.1 c12
        refine lv_bipush (v := iI (-4)) hx hb dX7_add_37 (by decide) ?_
        exact zr_iret (z := (-4)) hx hb hr hlocks hK (s) hP hD hS dX7_add_39 ⟨rg_m4, r_s, h33⟩
    · have h34 := h7.1 c8
      refine lv_bipush (v := iI (-3)) hx hb dX7_add_23 (by decide) ?_
      exact zr_iret (z := (-3)) hx hb hr hlocks hK (s) hP hD hS dX7_add_25 ⟨rg_m3, r_s, h34⟩
  · have h35 := hwp.2 c4
    refine lv_bipush (v := iI (-2)) hx hb dX7_add_11 (by decide) ?_
    exact zr_iret (z := (-2)) hx hb hr hlocks hK (s) hP hD hS dX7_add_13 ⟨rg_m2, r_s, h35⟩
theorem c_X7_add (l : Launch) (G : ZG) (a : Nat → Nat) (s : SS) (key : Int)  (r_s : RG s) (r_key : rg key) (p0 : Vz (s.2 0)) (p1 : Bd (s.2 0) 50000) (p2 : 0 ≤ (s.1 2) ∧ (s.1 2) ≤ 4) : ZI l G yX7_add wsX7_add 4 88 [.ref (a 0), .int (iI key)] (W7 G a s) (fun _ : Unit => W7 G a (nx_add s key)) (fun (z : Int) (_ : Unit) => z = (an_add (s.2 0) key) ∧ rg z ∧ RG (nx_add s key)) := by
  refine ZI.fn (w1 := fun u : SS => W7 G a u) (fun z u hq => ?_) (c0_X7_add l G a s key (fun z o0 => z = (an_add (s.2 0) key) ∧ o0 = (nx_add s key)) r_s r_key (sp_X7_add s key r_s r_key p0 p1 p2))
  obtain ⟨rz, ro0, ⟨ez, eo0⟩⟩ := hq
  exact ⟨by rw [eo0], ⟨ez, rz, (by rw [← eo0]; exact ro0)⟩⟩
theorem imX7_combine_X7 : ∀ w ∈ wsX70, w ∈ wsX7_combine := fun _ h => (List.mem_cons_of_mem _ (List.mem_append_right _ h))
theorem hdX7_combine : yX7_combine.cls = RX7 ∧ yX7_combine.cls ≠ "java/lang/invoke/MethodHandle" ∧ yX7_combine.cls ≠ "java/lang/invoke/VarHandle" ∧ (parseMethodDescriptor yX7_combine.desc).map (fun d => d.parameters.length) = some 1 := by decide +kernel
set_option maxRecDepth 100000 in
set_option maxHeartbeats 4000000 in
theorem c0_X7_combine (l : Launch) (G : ZG) (a : Nat → Nat) (s : SS) (b : Int) (P : Int → SS → Prop) (r_s : RG s) (r_b : rg b) (hwp : wp_X7_combine s b P) : ZI l G yX7_combine wsX7_combine 1 21 [.ref (a 0), .int (iI b)] (W7 G a s) (fun u : SS => W7 G a u) (fun (z : Int) (u : SS) => rg z ∧ RG u ∧ P z u) := by
  unfold wp_X7_combine at hwp
  refine zm_i (cc := cX7_combine) (maxL := 3) (ret := some .int) (own := RX7) (lvs := [(0, .ref (a 0)), (1, .int (iI b))]) (by decide) rfl rfl (Nat.le_of_ble_eq_true rfl) rfl ?_
  intro p e sT m args below meth c ls A hx hb hr hml hown hts hlocks hK hP hD hS hA hl
  have k1 := hts (.fieldLink RX7 7 "GrantedSortModel" "z" "[I") (List.mem_of_getElem? (i := 1) rfl)
  refine lv_aload_n hx hb dX7_combine_0 rfl (lv_at hl 0 rfl) ?_
  refine va_get (v := .ref (a 1)) (ci := 7) (C := RX7) (T := TX7) (N := 12) hx hb hts imX7_combine_X7 hown hK hP 0 rfl rfl 0 (by decide) k1 (fun _ h9 => h9) rfl dX7_combine_1 ?_
  refine lv_iconst (v := iI 3) hx hb dX7_combine_4 rfl ?_
  refine zr_iald (n := 370) (f := (s.2 0)) (i := 3) hx hb hK hP 1 rfl rg_3 ⟨by decide, by decide⟩ dX7_combine_5 ?_
  refine zr_if_le (tgt := 12) (x := (s.2 0) 3) hx hb ((r_s.2 0) 3) dX7_combine_6 (by decide) (fun c1 => ?_) (fun c1 => ?_)
  · have h4 := hwp.2 c1
    refine lv_aload_n hx hb dX7_combine_12 rfl (lv_at hl 0 rfl) ?_
    obtain ⟨b5, h6⟩ := h4
    refine zc_vv (As := []) (rest := []) (w2 := fun u_8 => W7 G a (sS (sA s 1 (recP (s.2 1) (s.1 2) (s.2 0))) 2 (recN (s.1 2) + 1))) (c_X7_record l G a s r_s b5) ⟨hx, hb, hml, hown, hts⟩ (cwV 0 hts gX7_combine_X7_record rfl rfl rfl hdX7_record ⟨Nat.le_of_ble_eq_true rfl, Nat.le_of_ble_eq_true rfl⟩) hK hP hD hS hA (q0 := 0) rfl rfl [0, 1, 2, 3, 4, 5, 6] [] [0, 1, 2, 3, 4, 5, 6] rfl rfl rfl rfl (by decide) (fun _ => rfl) rfl rfl hl.1 rfl (Nat.le_of_ble_eq_true rfl) dX7_combine_13 ⟨Nat.zero_le _, Nat.zero_le _⟩ (fun u_8 H locs hw hP hD hS => ?_)
    have r7 := hw
    have hP : va_P G.1 vwCl (W7 G a (sS (sA s 1 (recP (s.2 1) (s.1 2) (s.2 0))) 2 (recN (s.1 2) + 1))) H := hP
    have hD : va_D A (W7 G a (sS (sA s 1 (recP (s.2 1) (s.1 2) (s.2 0))) 2 (recN (s.1 2) + 1))) := hD
    refine lv_aload_n hx hb dX7_combine_16 rfl (lv_at hl 0 rfl) ?_
    refine va_get (v := .ref (a 1)) (ci := 7) (C := RX7) (T := TX7) (N := 12) hx hb hts imX7_combine_X7 hown hK hP 0 rfl rfl 0 (by decide) k1 (fun _ h9 => h9) rfl dX7_combine_17 ?_
    refine lv_iconst (v := iI 1) hx hb dX7_combine_20 rfl ?_
    refine zr_iald (n := 370) (f := (s.2 0)) (i := 1) hx hb hK hP 1 rfl rg_1 ⟨by decide, by decide⟩ dX7_combine_21 ?_
    refine lv_istore_n (lv' := [(2, .int (iI ((s.2 0) 1))), (0, .ref (a 0)), (1, .int (iI b))]) hx hb dX7_combine_22 rfl hl (by decide) rfl (fun ls hl => ?_)
    refine lv_aload_n hx hb dX7_combine_23 rfl (lv_at hl 1 rfl) ?_
    refine va_get (v := .ref (a 1)) (ci := 7) (C := RX7) (T := TX7) (N := 12) hx hb hts imX7_combine_X7 hown hK hP 0 rfl rfl 0 (by decide) k1 (fun _ h9 => h9) rfl dX7_combine_24 ?_
    refine lv_iconst (v := iI 1) hx hb dX7_combine_27 rfl ?_
    refine lv_iload_n hx hb dX7_combine_28 rfl (lv_at hl 2 rfl) ?_
    refine zr_if_eq (tgt := 36) (x := b) hx hb r_b dX7_combine_29 (by decide) (fun c10 => ?_) (fun c10 => ?_)
    · have h13 := h6.1 c10
      refine lv_iconst (v := iI 0) hx hb dX7_combine_36 rfl ?_
      refine zr_iast (n := 370) (f := (s.2 0)) (i := 1) (x := 0) hx hb hK hP hD hS 1 rfl rg_1 ⟨by decide, by decide⟩ dX7_combine_37 (fun H locs hP hD hS => ?_)
      have hP : va_P G.1 vwCl (W7 G a (sS (sA (sA s 0 (uZ (s.2 0) 1 0)) 1 (recP (s.2 1) (s.1 2) (s.2 0))) 2 (recN (s.1 2) + 1))) H := hP
      have hD : va_D A (W7 G a (sS (sA (sA s 0 (uZ (s.2 0) 1 0)) 1 (recP (s.2 1) (s.1 2) (s.2 0))) 2 (recN (s.1 2) + 1))) := hD
      refine lv_iload_n hx hb dX7_combine_38 rfl (lv_at hl 0 rfl) ?_
      exact zr_iret (z := (s.2 0) 1) hx hb hr hlocks hK (sS (sA (sA s 0 (uZ (s.2 0) 1 0)) 1 (recP (s.2 1) (s.1 2) (s.2 0))) 2 (recN (s.1 2) + 1)) hP hD hS dX7_combine_39 ⟨((r_s.2 0) 1), (RG_S (RG_A (RG_A r_s (rgA_u (i := 1) (r_s.2 0) rg_0)) (r7.2 1)) (r7.1 2)), h13⟩
    · have h14 := h6.2 c10
      refine lv_iconst (v := iI 1) hx hb dX7_combine_32 rfl ?_
      refine lv_goto (tgt := 37) hx hb dX7_combine_33 (by decide) ?_
      refine zr_iast (n := 370) (f := (s.2 0)) (i := 1) (x := 1) hx hb hK hP hD hS 1 rfl rg_1 ⟨by decide, by decide⟩ dX7_combine_37 (fun H locs hP hD hS => ?_)
      have hP : va_P G.1 vwCl (W7 G a (sS (sA (sA s 0 (uZ (s.2 0) 1 1)) 1 (recP (s.2 1) (s.1 2) (s.2 0))) 2 (recN (s.1 2) + 1))) H := hP
      have hD : va_D A (W7 G a (sS (sA (sA s 0 (uZ (s.2 0) 1 1)) 1 (recP (s.2 1) (s.1 2) (s.2 0))) 2 (recN (s.1 2) + 1))) := hD
      refine lv_iload_n hx hb dX7_combine_38 rfl (lv_at hl 0 rfl) ?_
      exact zr_iret (z := (s.2 0) 1) hx hb hr hlocks hK (sS (sA (sA s 0 (uZ (s.2 0) 1 1)) 1 (recP (s.2 1) (s.1 2) (s.2 0))) 2 (recN (s.1 2) + 1)) hP hD hS dX7_combine_39 ⟨((r_s.2 0) 1), (RG_S (RG_A (RG_A r_s (rgA_u (i := 1) (r_s.2 0) rg_1)) (r7.2 1)) (r7.1 2)), h14⟩
  · have h15 := hwp.1 c1
    refine lv_bipush (v := iI (-3)) hx hb dX7_combine_9 (by decide) ?_
    exact zr_iret (z := (-3)) hx hb hr hlocks hK (s) hP hD hS dX7_combine_11 ⟨rg_m3, r_s, h15⟩
theorem c_X7_combine (l : Launch) (G : ZG) (a : Nat → Nat) (s : SS) (b : Int)  (r_s : RG s) (r_b : rg b) (p0 : Vz (s.2 0)) (p1 : Bd (s.2 0) 50000) (p2 : 0 ≤ (s.1 2) ∧ (s.1 2) ≤ 4) : ZI l G yX7_combine wsX7_combine 1 21 [.ref (a 0), .int (iI b)] (W7 G a s) (fun _ : Unit => W7 G a (nx_combine s b)) (fun (z : Int) (_ : Unit) => z = (an_combine (s.2 0)) ∧ rg z ∧ RG (nx_combine s b)) := by
  refine ZI.fn (w1 := fun u : SS => W7 G a u) (fun z u hq => ?_) (c0_X7_combine l G a s b (fun z o0 => z = (an_combine (s.2 0)) ∧ o0 = (nx_combine s b)) r_s r_b (sp_X7_combine s b r_s r_b p0 p1 p2))
  obtain ⟨rz, ro0, ⟨ez, eo0⟩⟩ := hq
  exact ⟨by rw [eo0], ⟨ez, rz, (by rw [← eo0]; exact ro0)⟩⟩
theorem imX7_flush_X7 : ∀ w ∈ wsX70, w ∈ wsX7_flush := fun _ h => (List.mem_cons_of_mem _ (List.mem_append_right _ h))
theorem hdX7_flush : yX7_flush.cls = RX7 ∧ yX7_flush.cls ≠ "java/lang/invoke/MethodHandle" ∧ yX7_flush.cls ≠ "java/lang/invoke/VarHandle" ∧ (parseMethodDescriptor yX7_flush.desc).map (fun d => d.parameters.length) = some 0 := by decide +kernel
set_option maxRecDepth 100000 in
set_option maxHeartbeats 4000000 in
theorem c0_X7_flush (l : Launch) (G : ZG) (a : Nat → Nat) (s : SS)  (P : Int → SS → Prop) (r_s : RG s)  (hwp : wp_X7_flush s P) : ZI l G yX7_flush wsX7_flush 3 65 [.ref (a 0)] (W7 G a s) (fun u : SS => W7 G a u) (fun (z : Int) (u : SS) => rg z ∧ RG u ∧ P z u) := by
  unfold wp_X7_flush at hwp
  refine zm_i (cc := cX7_flush) (maxL := 1) (ret := some .int) (own := RX7) (lvs := [(0, .ref (a 0))]) (by decide) rfl rfl (Nat.le_of_ble_eq_true rfl) rfl ?_
  intro p e sT m args below meth c ls A hx hb hr hml hown hts hlocks hK hP hD hS hA hl
  have k1 := hts (.fieldLink RX7 7 "GrantedSortModel" "z" "[I") (List.mem_of_getElem? (i := 1) rfl)
  refine lv_aload_n hx hb dX7_flush_0 rfl (lv_at hl 0 rfl) ?_
  refine va_get (v := .ref (a 1)) (ci := 7) (C := RX7) (T := TX7) (N := 12) hx hb hts imX7_flush_X7 hown hK hP 0 rfl rfl 0 (by decide) k1 (fun _ h9 => h9) rfl dX7_flush_1 ?_
  refine lv_iconst (v := iI 2) hx hb dX7_flush_4 rfl ?_
  refine zr_iald (n := 370) (f := (s.2 0)) (i := 2) hx hb hK hP 1 rfl rg_2 ⟨by decide, by decide⟩ dX7_flush_5 ?_
  refine zr_if_ne (tgt := 12) (x := (s.2 0) 2) hx hb ((r_s.2 0) 2) dX7_flush_6 (by decide) (fun c1 => ?_) (fun c1 => ?_)
  · have h4 := hwp.2 c1
    refine lv_aload_n hx hb dX7_flush_12 rfl (lv_at hl 0 rfl) ?_
    obtain ⟨b5, h6⟩ := h4
    refine zc_vv (As := []) (rest := []) (w2 := fun u_8 => W7 G a (sS (sA s 1 (recP (s.2 1) (s.1 2) (s.2 0))) 2 (recN (s.1 2) + 1))) (c_X7_record l G a s r_s b5) ⟨hx, hb, hml, hown, hts⟩ (cwV 0 hts gX7_flush_X7_record rfl rfl rfl hdX7_record ⟨Nat.le_of_ble_eq_true rfl, Nat.le_of_ble_eq_true rfl⟩) hK hP hD hS hA (q0 := 0) rfl rfl [0, 1, 2, 3, 4, 5, 6] [] [0, 1, 2, 3, 4, 5, 6] rfl rfl rfl rfl (by decide) (fun _ => rfl) rfl rfl hl.1 rfl (Nat.le_of_ble_eq_true rfl) dX7_flush_13 ⟨Nat.zero_le _, Nat.zero_le _⟩ (fun u_8 H locs hw hP hD hS => ?_)
    have r7 := hw
    have hP : va_P G.1 vwCl (W7 G a (sS (sA s 1 (recP (s.2 1) (s.1 2) (s.2 0))) 2 (recN (s.1 2) + 1))) H := hP
    have hD : va_D A (W7 G a (sS (sA s 1 (recP (s.2 1) (s.1 2) (s.2 0))) 2 (recN (s.1 2) + 1))) := hD
    refine lv_aload_n hx hb dX7_flush_16 rfl (lv_at hl 0 rfl) ?_
    obtain ⟨b10, h11⟩ := h6
    obtain ⟨b12, h13⟩ := h11
    refine zc_vi (As := []) (rest := []) (w2 := fun u_15 => W7 G a (sS (sA (sA s 0 (wriZ (s.2 0))) 1 (recP (s.2 1) (s.1 2) (s.2 0))) 2 (recN (s.1 2) + 1))) (c_X7_writes l G a (sS (sA s 1 (recP (s.2 1) (s.1 2) (s.2 0))) 2 (recN (s.1 2) + 1)) (RG_S (RG_A r_s (r7.2 1)) (r7.1 2)) b10 b12) ⟨hx, hb, hml, hown, hts⟩ (cwV 0 hts gX7_flush_X7_writes rfl rfl rfl hdX7_writes ⟨Nat.le_of_ble_eq_true rfl, Nat.le_of_ble_eq_true rfl⟩) hK hP hD hS hA (q0 := 0) rfl rfl [0, 1, 2, 3, 4, 5, 6] [] [0, 1, 2, 3, 4, 5, 6] rfl rfl rfl rfl (by decide) (fun _ => rfl) rfl rfl hl.1 rfl (Nat.le_of_ble_eq_true rfl) dX7_flush_17 ⟨Nat.zero_le _, Nat.zero_le _⟩ (fun z16 u_15 H locs hw hP hD hS => ?_)
    obtain ⟨rfl, r17, r14⟩ := hw
    have hP : va_P G.1 vwCl (W7 G a (sS (sA (sA s 0 (wriZ (s.2 0))) 1 (recP (s.2 1) (s.1 2) (s.2 0))) 2 (recN (s.1 2) + 1))) H := hP
    have hD : va_D A (W7 G a (sS (sA (sA s 0 (wriZ (s.2 0))) 1 (recP (s.2 1) (s.1 2) (s.2 0))) 2 (recN (s.1 2) + 1))) := hD
    exact zr_iret (z := (if rowsAt (s.2 0) 1 = 0 then -6 else (s.2 0) 4)) hx hb hr hlocks hK (sS (sA (sA s 0 (wriZ (s.2 0))) 1 (recP (s.2 1) (s.1 2) (s.2 0))) 2 (recN (s.1 2) + 1)) hP hD hS dX7_flush_20 ⟨r17, (RG_S (RG_A (RG_A r_s (r14.2 0)) (r7.2 1)) (r7.1 2)), h13⟩
  · have h18 := hwp.1 c1
    refine lv_bipush (v := iI (-3)) hx hb dX7_flush_9 (by decide) ?_
    exact zr_iret (z := (-3)) hx hb hr hlocks hK (s) hP hD hS dX7_flush_11 ⟨rg_m3, r_s, h18⟩
theorem c_X7_flush (l : Launch) (G : ZG) (a : Nat → Nat) (s : SS)   (r_s : RG s)  (p0 : Vz (s.2 0)) (p1 : Bd (s.2 0) 50000) (p2 : 0 ≤ (s.1 2) ∧ (s.1 2) ≤ 4) : ZI l G yX7_flush wsX7_flush 3 65 [.ref (a 0)] (W7 G a s) (fun _ : Unit => W7 G a (nx_flush s)) (fun (z : Int) (_ : Unit) => z = (an_flush (s.2 0)) ∧ rg z ∧ RG (nx_flush s)) := by
  refine ZI.fn (w1 := fun u : SS => W7 G a u) (fun z u hq => ?_) (c0_X7_flush l G a s (fun z o0 => z = (an_flush (s.2 0)) ∧ o0 = (nx_flush s)) r_s  (sp_X7_flush s r_s  p0 p1 p2))
  obtain ⟨rz, ro0, ⟨ez, eo0⟩⟩ := hq
  exact ⟨by rw [eo0], ⟨ez, rz, (by rw [← eo0]; exact ro0)⟩⟩
theorem imX7_finish_X7 : ∀ w ∈ wsX70, w ∈ wsX7_finish := fun _ h => (List.mem_cons_of_mem _ (List.mem_append_right _ h))
theorem hdX7_finish : yX7_finish.cls = RX7 ∧ yX7_finish.cls ≠ "java/lang/invoke/MethodHandle" ∧ yX7_finish.cls ≠ "java/lang/invoke/VarHandle" ∧ (parseMethodDescriptor yX7_finish.desc).map (fun d => d.parameters.length) = some 0 := by decide +kernel
set_option maxRecDepth 100000 in
set_option maxHeartbeats 4000000 in
theorem c0_X7_finish (l : Launch) (G : ZG) (a : Nat → Nat) (s : SS)  (P : Int → SS → Prop) (r_s : RG s)  (hwp : wp_X7_finish s P) : ZI l G yX7_finish wsX7_finish 4 89 [.ref (a 0)] (W7 G a s) (fun u : SS => W7 G a u) (fun (z : Int) (u : SS) => rg z ∧ RG u ∧ P z u) := by
  unfold wp_X7_finish at hwp
  refine zm_i (cc := cX7_finish) (maxL := 1) (ret := some .int) (own := RX7) (lvs := [(0, .ref (a 0))]) (by decide) rfl rfl (Nat.le_of_ble_eq_true rfl) rfl ?_
  intro p e sT m args below meth c ls A hx hb hr hml hown hts hlocks hK hP hD hS hA hl
  have k1 := hts (.fieldLink RX7 7 "GrantedSortModel" "z" "[I") (List.mem_of_getElem? (i := 1) rfl)
  refine lv_aload_n hx hb dX7_finish_0 rfl (lv_at hl 0 rfl) ?_
  refine va_get (v := .ref (a 1)) (ci := 7) (C := RX7) (T := TX7) (N := 12) hx hb hts imX7_finish_X7 hown hK hP 0 rfl rfl 0 (by decide) k1 (fun _ h9 => h9) rfl dX7_finish_1 ?_
  refine lv_iconst (v := iI 2) hx hb dX7_finish_4 rfl ?_
  refine zr_iald (n := 370) (f := (s.2 0)) (i := 2) hx hb hK hP 1 rfl rg_2 ⟨by decide, by decide⟩ dX7_finish_5 ?_
  refine zr_if_ne (tgt := 12) (x := (s.2 0) 2) hx hb ((r_s.2 0) 2) dX7_finish_6 (by decide) (fun c1 => ?_) (fun c1 => ?_)
  · have h4 := hwp.2 c1
    refine lv_aload_n hx hb dX7_finish_12 rfl (lv_at hl 0 rfl) ?_
    obtain ⟨b5, h6⟩ := h4
    refine zc_vv (As := []) (rest := []) (w2 := fun u_8 => W7 G a (sS (sA s 1 (recP (s.2 1) (s.1 2) (s.2 0))) 2 (recN (s.1 2) + 1))) (c_X7_record l G a s r_s b5) ⟨hx, hb, hml, hown, hts⟩ (cwV 0 hts gX7_finish_X7_record rfl rfl rfl hdX7_record ⟨Nat.le_of_ble_eq_true rfl, Nat.le_of_ble_eq_true rfl⟩) hK hP hD hS hA (q0 := 0) rfl rfl [0, 1, 2, 3, 4, 5, 6] [] [0, 1, 2, 3, 4, 5, 6] rfl rfl rfl rfl (by decide) (fun _ => rfl) rfl rfl hl.1 rfl (Nat.le_of_ble_eq_true rfl) dX7_finish_13 ⟨Nat.zero_le _, Nat.zero_le _⟩ (fun u_8 H locs hw hP hD hS => ?_)
    have r7 := hw
    have hP : va_P G.1 vwCl (W7 G a (sS (sA s 1 (recP (s.2 1) (s.1 2) (s.2 0))) 2 (recN (s.1 2) + 1))) H := hP
    have hD : va_D A (W7 G a (sS (sA s 1 (recP (s.2 1) (s.1 2) (s.2 0))) 2 (recN (s.1 2) + 1))) := hD
    refine lv_aload_n hx hb dX7_finish_16 rfl (lv_at hl 0 rfl) ?_
    obtain ⟨b10, h11⟩ := h6
    obtain ⟨b12, h13⟩ := h11
    refine zc_vv (As := []) (rest := []) (w2 := fun u_15 => W7 G a (sS (sA (sA s 0 (uZ (wriZ (s.2 0)) 2 0)) 1 (recP (s.2 1) (s.1 2) (s.2 0))) 2 (recN (s.1 2) + 1))) (c_X7_finishes l G a (sS (sA s 1 (recP (s.2 1) (s.1 2) (s.2 0))) 2 (recN (s.1 2) + 1)) (RG_S (RG_A r_s (r7.2 1)) (r7.1 2)) b10 b12) ⟨hx, hb, hml, hown, hts⟩ (cwV 0 hts gX7_finish_X7_finishes rfl rfl rfl hdX7_finishes ⟨Nat.le_of_ble_eq_true rfl, Nat.le_of_ble_eq_true rfl⟩) hK hP hD hS hA (q0 := 0) rfl rfl [0, 1, 2, 3, 4, 5, 6] [] [0, 1, 2, 3, 4, 5, 6] rfl rfl rfl rfl (by decide) (fun _ => rfl) rfl rfl hl.1 rfl (Nat.le_of_ble_eq_true rfl) dX7_finish_17 ⟨Nat.zero_le _, Nat.zero_le _⟩ (fun u_15 H locs hw hP hD hS => ?_)
    have r14 := hw
    have hP : va_P G.1 vwCl (W7 G a (sS (sA (sA s 0 (uZ (wriZ (s.2 0)) 2 0)) 1 (recP (s.2 1) (s.1 2) (s.2 0))) 2 (recN (s.1 2) + 1))) H := hP
    have hD : va_D A (W7 G a (sS (sA (sA s 0 (uZ (wriZ (s.2 0)) 2 0)) 1 (recP (s.2 1) (s.1 2) (s.2 0))) 2 (recN (s.1 2) + 1))) := hD
    refine lv_aload_n hx hb dX7_finish_20 rfl (lv_at hl 0 rfl) ?_
    obtain ⟨b17, h18⟩ := h13
    refine zc_vi (As := []) (rest := []) (w2 := fun u_19 => W7 G a (sS (sA (sA s 0 (uZ (wriZ (s.2 0)) 2 0)) 1 (recP (s.2 1) (s.1 2) (s.2 0))) 2 (recN (s.1 2) + 1))) (c_X7_runMany l G a (sS (sA (sA s 0 (uZ (wriZ (s.2 0)) 2 0)) 1 (recP (s.2 1) (s.1 2) (s.2 0))) 2 (recN (s.1 2) + 1)) (RG_S (RG_A (RG_A r_s (r14.2 0)) (r7.2 1)) (r7.1 2)) b17) ⟨hx, hb, hml, hown, hts⟩ (cwV 0 hts gX7_finish_X7_runMany rfl rfl rfl hdX7_runMany ⟨Nat.le_of_ble_eq_true rfl, Nat.le_of_ble_eq_true rfl⟩) hK hP hD hS hA (q0 := 0) rfl rfl [0, 1, 2, 3, 4, 5, 6] [] [0, 1, 2, 3, 4, 5, 6] rfl rfl rfl rfl (by decide) (fun _ => rfl) rfl rfl hl.1 rfl (Nat.le_of_ble_eq_true rfl) dX7_finish_21 ⟨Nat.zero_le _, Nat.zero_le _⟩ (fun z20 u_19 H locs hw hP hD hS => ?_)
    obtain ⟨rfl, r21⟩ := hw
    have hP : va_P G.1 vwCl (W7 G a (sS (sA (sA s 0 (uZ (wriZ (s.2 0)) 2 0)) 1 (recP (s.2 1) (s.1 2) (s.2 0))) 2 (recN (s.1 2) + 1))) H := hP
    have hD : va_D A (W7 G a (sS (sA (sA s 0 (uZ (wriZ (s.2 0)) 2 0)) 1 (recP (s.2 1) (s.1 2) (s.2 0))) 2 (recN (s.1 2) + 1))) := hD
    exact zr_iret (z := manyZ (uZ (wriZ (s.2 0)) 2 0) 0) hx hb hr hlocks hK (sS (sA (sA s 0 (uZ (wriZ (s.2 0)) 2 0)) 1 (recP (s.2 1) (s.1 2) (s.2 0))) 2 (recN (s.1 2) + 1)) hP hD hS dX7_finish_24 ⟨r21, (RG_S (RG_A (RG_A r_s (r14.2 0)) (r7.2 1)) (r7.1 2)), h18⟩
  · have h22 := hwp.1 c1
    refine lv_bipush (v := iI (-3)) hx hb dX7_finish_9 (by decide) ?_
    exact zr_iret (z := (-3)) hx hb hr hlocks hK (s) hP hD hS dX7_finish_11 ⟨rg_m3, r_s, h22⟩
theorem c_X7_finish (l : Launch) (G : ZG) (a : Nat → Nat) (s : SS)   (r_s : RG s)  (p0 : Vz (s.2 0)) (p1 : Bd (s.2 0) 50000) (p2 : 0 ≤ (s.1 2) ∧ (s.1 2) ≤ 4) : ZI l G yX7_finish wsX7_finish 4 89 [.ref (a 0)] (W7 G a s) (fun _ : Unit => W7 G a (nx_finish s)) (fun (z : Int) (_ : Unit) => z = (an_finish (s.2 0)) ∧ rg z ∧ RG (nx_finish s)) := by
  refine ZI.fn (w1 := fun u : SS => W7 G a u) (fun z u hq => ?_) (c0_X7_finish l G a s (fun z o0 => z = (an_finish (s.2 0)) ∧ o0 = (nx_finish s)) r_s  (sp_X7_finish s r_s  p0 p1 p2))
  obtain ⟨rz, ro0, ⟨ez, eo0⟩⟩ := hq
  exact ⟨by rw [eo0], ⟨ez, rz, (by rw [← eo0]; exact ro0)⟩⟩
theorem imX7_isCollecting_X7 : ∀ w ∈ wsX70, w ∈ wsX7_isCollecting := fun _ h => (List.mem_cons_of_mem _ (List.mem_append_right _ h))
theorem hdX7_isCollecting : yX7_isCollecting.cls = RX7 ∧ yX7_isCollecting.cls ≠ "java/lang/invoke/MethodHandle" ∧ yX7_isCollecting.cls ≠ "java/lang/invoke/VarHandle" ∧ (parseMethodDescriptor yX7_isCollecting.desc).map (fun d => d.parameters.length) = some 0 := by decide +kernel
set_option maxRecDepth 100000 in
set_option maxHeartbeats 4000000 in
theorem c0_X7_isCollecting (l : Launch) (G : ZG) (a : Nat → Nat) (s : SS)  (P : Int → Prop) (r_s : RG s)  (hwp : wp_X7_isCollecting s P) : ZI l G yX7_isCollecting wsX7_isCollecting 0 0 [.ref (a 0)] (W7 G a s) (fun u : Unit => W7 G a s) (fun (z : Int) (u : Unit) => rg z ∧ P z) := by
  unfold wp_X7_isCollecting at hwp
  refine zm_i (cc := cX7_isCollecting) (maxL := 1) (ret := some .int) (own := RX7) (lvs := [(0, .ref (a 0))]) (by decide) rfl rfl (Nat.le_of_ble_eq_true rfl) rfl ?_
  intro p e sT m args below meth c ls A hx hb hr hml hown hts hlocks hK hP hD hS hA hl
  have k1 := hts (.fieldLink RX7 7 "GrantedSortModel" "z" "[I") (List.mem_of_getElem? (i := 1) rfl)
  refine lv_aload_n hx hb dX7_isCollecting_0 rfl (lv_at hl 0 rfl) ?_
  refine va_get (v := .ref (a 1)) (ci := 7) (C := RX7) (T := TX7) (N := 12) hx hb hts imX7_isCollecting_X7 hown hK hP 0 rfl rfl 0 (by decide) k1 (fun _ h9 => h9) rfl dX7_isCollecting_1 ?_
  refine lv_iconst (v := iI 2) hx hb dX7_isCollecting_4 rfl ?_
  refine zr_iald (n := 370) (f := (s.2 0)) (i := 2) hx hb hK hP 1 rfl rg_2 ⟨by decide, by decide⟩ dX7_isCollecting_5 ?_
  exact zr_iret (z := (s.2 0) 2) hx hb hr hlocks hK () hP hD hS dX7_isCollecting_6 ⟨((r_s.2 0) 2), hwp⟩
theorem c_X7_isCollecting (l : Launch) (G : ZG) (a : Nat → Nat) (s : SS)   (r_s : RG s)   : ZI l G yX7_isCollecting wsX7_isCollecting 0 0 [.ref (a 0)] (W7 G a s) (fun _ : Unit => W7 G a s) (fun (z : Int) (_ : Unit) => z = ((s.2 0) 2) ∧ rg z) := by
  refine ZI.fn (w1 := fun u : Unit => W7 G a s) (fun z u hq => ?_) (c0_X7_isCollecting l G a s (fun z => z = ((s.2 0) 2)) r_s  (sp_X7_isCollecting s r_s  ))
  obtain ⟨rz, ez⟩ := hq
  exact ⟨rfl, ⟨ez, rz⟩⟩
theorem hdX7_grant : yX7_grant.cls = RX7 ∧ yX7_grant.cls ≠ "java/lang/invoke/MethodHandle" ∧ yX7_grant.cls ≠ "java/lang/invoke/VarHandle" ∧ (parseMethodDescriptor yX7_grant.desc).map (fun d => d.parameters.length) = some 1 := by decide +kernel
set_option maxRecDepth 100000 in
set_option maxHeartbeats 4000000 in
theorem c0_X7_grant (l : Launch) (G : ZG) (a : Nat → Nat) (s : SS) (size : Int) (P : Int → SS → Prop) (r_s : RG s) (r_size : rg size) (hwp : wp_X7_grant s size P) : ZI l G yX7_grant wsX7_grant 5 110 [.ref (a 0), .int (iI size)] (W7 G a s) (fun u : SS => W7 G a u) (fun (z : Int) (u : SS) => rg z ∧ RG u ∧ P z u) := by
  unfold wp_X7_grant at hwp
  refine zm_i (cc := cX7_grant) (maxL := 2) (ret := some .int) (own := RX7) (lvs := [(0, .ref (a 0)), (1, .int (iI size))]) (by decide) rfl rfl (Nat.le_of_ble_eq_true rfl) rfl ?_
  intro p e sT m args below meth c ls A hx hb hr hml hown hts hlocks hK hP hD hS hA hl
  refine lv_iload_n hx hb dX7_grant_0 rfl (lv_at hl 1 rfl) ?_
  refine zc_si (As := [.int (iI size)]) (rest := []) (c_X7_isSize l G size r_size) ⟨hx, hb, hml, hown, hts⟩ (va_cwS 1 hts gX7_grant_X7_isSize rfl rfl rfl hdX7_isSize ⟨Nat.le_of_ble_eq_true rfl, Nat.le_of_ble_eq_true rfl⟩) hK hP hD hS hA rfl hl.1 rfl (Nat.le_of_ble_eq_true rfl) dX7_grant_1 ⟨Nat.zero_le _, Nat.zero_le _⟩ (fun z2 H locs hw hP hD hS => ?_)
  obtain ⟨rfl, r3⟩ := hw
  have hP : va_P G.1 vwCl (W7 G a s) H := hP
  have hD : va_D A (W7 G a s) := hD
  refine zr_ifB_ne (tgt := 10)  hx hb dX7_grant_4 (by decide) (fun c4 => ?_) (fun c4 => ?_)
  · have h7 := hwp.1 c4
    refine lv_aload_n hx hb dX7_grant_10 rfl (lv_at hl 0 rfl) ?_
    obtain ⟨b8, h9⟩ := h7
    refine zc_vv (As := []) (rest := []) (w2 := fun u_11 => W7 G a (sS (sA s 1 (recP (s.2 1) (s.1 2) (s.2 0))) 2 (recN (s.1 2) + 1))) (c_X7_record l G a s r_s b8) ⟨hx, hb, hml, hown, hts⟩ (cwV 0 hts gX7_grant_X7_record rfl rfl rfl hdX7_record ⟨Nat.le_of_ble_eq_true rfl, Nat.le_of_ble_eq_true rfl⟩) hK hP hD hS hA (q0 := 0) rfl rfl [0, 1, 2, 3, 4, 5, 6] [] [0, 1, 2, 3, 4, 5, 6] rfl rfl rfl rfl (by decide) (fun _ => rfl) rfl rfl hl.1 rfl (Nat.le_of_ble_eq_true rfl) dX7_grant_11 ⟨Nat.zero_le _, Nat.zero_le _⟩ (fun u_11 H locs hw hP hD hS => ?_)
    have r10 := hw
    have hP : va_P G.1 vwCl (W7 G a (sS (sA s 1 (recP (s.2 1) (s.1 2) (s.2 0))) 2 (recN (s.1 2) + 1))) H := hP
    have hD : va_D A (W7 G a (sS (sA s 1 (recP (s.2 1) (s.1 2) (s.2 0))) 2 (recN (s.1 2) + 1))) := hD
    refine lv_aload_n hx hb dX7_grant_14 rfl (lv_at hl 0 rfl) ?_
    refine lv_iload_n hx hb dX7_grant_15 rfl (lv_at hl 1 rfl) ?_
    obtain ⟨b13, h14⟩ := h9
    obtain ⟨b15, h16⟩ := h14
    obtain ⟨b17, h18⟩ := h16
    obtain ⟨b19, h20⟩ := h18
    obtain ⟨b21, h22⟩ := h20
    refine zc_vi (As := [.int (iI size)]) (rest := []) (w2 := fun u_24 => W7 G a (sS (sA (sA s 0 (graZ (s.2 0) size)) 1 (recP (s.2 1) (s.1 2) (s.2 0))) 2 (recN (s.1 2) + 1))) (c_X7_grants l G a (sS (sA s 1 (recP (s.2 1) (s.1 2) (s.2 0))) 2 (recN (s.1 2) + 1)) size (RG_S (RG_A r_s (r10.2 1)) (r10.1 2)) r_size b13 b15 b17 b19 b21) ⟨hx, hb, hml, hown, hts⟩ (cwV 1 hts gX7_grant_X7_grants rfl rfl rfl hdX7_grants ⟨Nat.le_of_ble_eq_true rfl, Nat.le_of_ble_eq_true rfl⟩) hK hP hD hS hA (q0 := 0) rfl rfl [0, 1, 2, 3, 4, 5, 6] [] [0, 1, 2, 3, 4, 5, 6] rfl rfl rfl rfl (by decide) (fun _ => rfl) rfl rfl hl.1 rfl (Nat.le_of_ble_eq_true rfl) dX7_grant_16 ⟨Nat.zero_le _, Nat.zero_le _⟩ (fun z25 u_24 H locs hw hP hD hS => ?_)
    obtain ⟨rfl, r26, r23⟩ := hw
    have hP : va_P G.1 vwCl (W7 G a (sS (sA (sA s 0 (graZ (s.2 0) size)) 1 (recP (s.2 1) (s.1 2) (s.2 0))) 2 (recN (s.1 2) + 1))) H := hP
    have hD : va_D A (W7 G a (sS (sA (sA s 0 (graZ (s.2 0) size)) 1 (recP (s.2 1) (s.1 2) (s.2 0))) 2 (recN (s.1 2) + 1))) := hD
    exact zr_iret (z := graA (s.2 0) size) hx hb hr hlocks hK (sS (sA (sA s 0 (graZ (s.2 0) size)) 1 (recP (s.2 1) (s.1 2) (s.2 0))) 2 (recN (s.1 2) + 1)) hP hD hS dX7_grant_19 ⟨r26, (RG_S (RG_A (RG_A r_s (r23.2 0)) (r10.2 1)) (r10.1 2)), h22⟩
  · have h27 := hwp.2 c4
    refine lv_bipush (v := iI (-2)) hx hb dX7_grant_7 (by decide) ?_
    exact zr_iret (z := (-2)) hx hb hr hlocks hK (s) hP hD hS dX7_grant_9 ⟨rg_m2, r_s, h27⟩
theorem c_X7_grant (l : Launch) (G : ZG) (a : Nat → Nat) (s : SS) (size : Int)  (r_s : RG s) (r_size : rg size) (p0 : Vz (s.2 0)) (p1 : Bd (s.2 0) 50000) (p2 : 0 ≤ (s.1 2) ∧ (s.1 2) ≤ 4) : ZI l G yX7_grant wsX7_grant 5 110 [.ref (a 0), .int (iI size)] (W7 G a s) (fun _ : Unit => W7 G a (nx_grant s size)) (fun (z : Int) (_ : Unit) => z = (an_grant (s.2 0) size) ∧ rg z ∧ RG (nx_grant s size)) := by
  refine ZI.fn (w1 := fun u : SS => W7 G a u) (fun z u hq => ?_) (c0_X7_grant l G a s size (fun z o0 => z = (an_grant (s.2 0) size) ∧ o0 = (nx_grant s size)) r_s r_size (sp_X7_grant s size r_s r_size p0 p1 p2))
  obtain ⟨rz, ro0, ⟨ez, eo0⟩⟩ := hq
  exact ⟨by rw [eo0], ⟨ez, rz, (by rw [← eo0]; exact ro0)⟩⟩
theorem imX7_memory_X7 : ∀ w ∈ wsX70, w ∈ wsX7_memory := fun _ h => (List.mem_cons_of_mem _ (List.mem_append_right _ h))
theorem hdX7_memory : yX7_memory.cls = RX7 ∧ yX7_memory.cls ≠ "java/lang/invoke/MethodHandle" ∧ yX7_memory.cls ≠ "java/lang/invoke/VarHandle" ∧ (parseMethodDescriptor yX7_memory.desc).map (fun d => d.parameters.length) = some 1 := by decide +kernel
set_option maxRecDepth 100000 in
set_option maxHeartbeats 4000000 in
theorem c0_X7_memory (l : Launch) (G : ZG) (a : Nat → Nat) (s : SS) (part : Int) (P : Int → Prop) (r_s : RG s) (r_part : rg part) (hwp : wp_X7_memory s part P) : ZI l G yX7_memory wsX7_memory 4 89 [.ref (a 0), .int (iI part)] (W7 G a s) (fun u : Unit => W7 G a s) (fun (z : Int) (u : Unit) => rg z ∧ P z) := by
  unfold wp_X7_memory at hwp
  refine zm_i (cc := cX7_memory) (maxL := 2) (ret := some .int) (own := RX7) (lvs := [(0, .ref (a 0)), (1, .int (iI part))]) (by decide) rfl rfl (Nat.le_of_ble_eq_true rfl) rfl ?_
  intro p e sT m args below meth c ls A hx hb hr hml hown hts hlocks hK hP hD hS hA hl
  have k1 := hts (.fieldLink RX7 7 "GrantedSortModel" "z" "[I") (List.mem_of_getElem? (i := 1) rfl)
  refine lv_iload_n hx hb dX7_memory_0 rfl (lv_at hl 1 rfl) ?_
  rcases (show part = 0 ∨ part = 1 ∨ part = 2 ∨ (part < 0 ∨ 2 < part) by omega) with c1 | c1 | c1 | c1
  · have h2 := hwp.1 c1
    refine zr_tsIn (x := part) (v := 0) (tgt := 28) hx hb r_part 0 c1 dX7_memory_1 ⟨by decide, rfl⟩ (by decide) ?_
    refine lv_aload_n hx hb dX7_memory_28 rfl (lv_at hl 0 rfl) ?_
    refine va_get (v := .ref (a 1)) (ci := 7) (C := RX7) (T := TX7) (N := 12) hx hb hts imX7_memory_X7 hown hK hP 0 rfl rfl 0 (by decide) k1 (fun _ h9 => h9) rfl dX7_memory_29 ?_
    refine lv_iconst (v := iI 0) hx hb dX7_memory_32 rfl ?_
    refine zr_iald (n := 370) (f := (s.2 0)) (i := 0) hx hb hK hP 1 rfl rg_0 ⟨by decide, by decide⟩ dX7_memory_33 ?_
    exact zr_iret (z := (s.2 0) 0) hx hb hr hlocks hK () hP hD hS dX7_memory_34 ⟨((r_s.2 0) 0), h2⟩
  · have h3 := hwp.2.1 c1
    refine zr_tsIn (x := part) (v := 1) (tgt := 35) hx hb r_part 1 c1 dX7_memory_1 ⟨by decide, rfl⟩ (by decide) ?_
    refine lv_aload_n hx hb dX7_memory_35 rfl (lv_at hl 0 rfl) ?_
    refine va_get (v := .ref (a 1)) (ci := 7) (C := RX7) (T := TX7) (N := 12) hx hb hts imX7_memory_X7 hown hK hP 0 rfl rfl 0 (by decide) k1 (fun _ h9 => h9) rfl dX7_memory_36 ?_
    refine lv_iconst (v := iI 2) hx hb dX7_memory_39 rfl ?_
    refine zr_iald (n := 370) (f := (s.2 0)) (i := 2) hx hb hK hP 1 rfl rg_2 ⟨by decide, by decide⟩ dX7_memory_40 ?_
    refine lv_iconst (v := iI 1) hx hb dX7_memory_41 rfl ?_
    refine zr_icmp_ne (tgt := 53) (x := (s.2 0) 2) (y := 1) hx hb ((r_s.2 0) 2) rg_1 dX7_memory_42 (by decide) (fun c4 => ?_) (fun c4 => ?_)
    · have h7 := h3.2 c4
      refine lv_aload_n hx hb dX7_memory_53 rfl (lv_at hl 0 rfl) ?_
      refine va_get (v := .ref (a 1)) (ci := 7) (C := RX7) (T := TX7) (N := 12) hx hb hts imX7_memory_X7 hown hK hP 0 rfl rfl 0 (by decide) k1 (fun _ h9 => h9) rfl dX7_memory_54 ?_
      refine lv_iconst (v := iI 5) hx hb dX7_memory_57 rfl ?_
      refine zr_iald (n := 370) (f := (s.2 0)) (i := 5) hx hb hK hP 1 rfl rg_5 ⟨by decide, by decide⟩ dX7_memory_58 ?_
      refine lv_iconst (v := iI 1) hx hb dX7_memory_59 rfl ?_
      refine zr_icmp_ne (tgt := 72) (x := (s.2 0) 5) (y := 1) hx hb ((r_s.2 0) 5) rg_1 dX7_memory_60 (by decide) (fun c8 => ?_) (fun c8 => ?_)
      · have h11 := h7.2 c8
        refine lv_iconst (v := iI 0) hx hb dX7_memory_72 rfl ?_
        exact zr_iret (z := 0) hx hb hr hlocks hK () hP hD hS dX7_memory_73 ⟨rg_0, h11⟩
      · have h12 := h7.1 c8
        refine lv_aload_n hx hb dX7_memory_63 rfl (lv_at hl 0 rfl) ?_
        obtain ⟨b13, h14⟩ := h12
        refine zc_vi (As := []) (rest := []) (w2 := fun u_15 => W7 G a s) (c_X7_inputsLeft l G a s r_s b13) ⟨hx, hb, hml, hown, hts⟩ (cwV 0 hts gX7_memory_X7_inputsLeft rfl rfl rfl hdX7_inputsLeft ⟨Nat.le_of_ble_eq_true rfl, Nat.le_of_ble_eq_true rfl⟩) hK hP hD hS hA (q0 := 0) rfl rfl [0, 1, 2, 3, 4, 5, 6] [] [0, 1, 2, 3, 4, 5, 6] rfl rfl rfl rfl (by decide) (fun _ => rfl) rfl rfl hl.1 rfl (Nat.le_of_ble_eq_true rfl) dX7_memory_64 ⟨Nat.zero_le _, Nat.zero_le _⟩ (fun z16 u_15 H locs hw hP hD hS => ?_)
        obtain ⟨rfl, r17⟩ := hw
        have hP : va_P G.1 vwCl (W7 G a s) H := hP
        have hD : va_D A (W7 G a s) := hD
        refine lv_iconst (v := iI 1) hx hb dX7_memory_67 rfl ?_
        refine zr_iadd (x := manyZ (s.2 0) 1) (y := 1) hx hb dX7_memory_68 ?_
        obtain ⟨r18, h19⟩ := h14
        refine lv_goto (tgt := 73) hx hb dX7_memory_69 (by decide) ?_
        exact zr_iret (z := (manyZ (s.2 0) 1) + 1) hx hb hr hlocks hK () hP hD hS dX7_memory_73 ⟨r18, h19⟩
    · have h20 := h3.1 c4
      refine lv_aload_n hx hb dX7_memory_45 rfl (lv_at hl 0 rfl) ?_
      refine lv_iconst (v := iI 1) hx hb dX7_memory_46 rfl ?_
      obtain ⟨b21, h22⟩ := h20
      refine zc_vi (As := [.int (iI 1)]) (rest := []) (w2 := fun u_23 => W7 G a s) (c_X7_rowsAt l G a s 1 r_s rg_1 b21) ⟨hx, hb, hml, hown, hts⟩ (cwV 1 hts gX7_memory_X7_rowsAt rfl rfl rfl hdX7_rowsAt ⟨Nat.le_of_ble_eq_true rfl, Nat.le_of_ble_eq_true rfl⟩) hK hP hD hS hA (q0 := 0) rfl rfl [0, 1, 2, 3, 4, 5, 6] [] [0, 1, 2, 3, 4, 5, 6] rfl rfl rfl rfl (by decide) (fun _ => rfl) rfl rfl hl.1 rfl (Nat.le_of_ble_eq_true rfl) dX7_memory_47 ⟨Nat.zero_le _, Nat.zero_le _⟩ (fun z24 u_23 H locs hw hP hD hS => ?_)
      obtain ⟨rfl, r25⟩ := hw
      have hP : va_P G.1 vwCl (W7 G a s) H := hP
      have hD : va_D A (W7 G a s) := hD
      refine lv_goto (tgt := 73) hx hb dX7_memory_50 (by decide) ?_
      exact zr_iret (z := rowsAt (s.2 0) (1 : Int)) hx hb hr hlocks hK () hP hD hS dX7_memory_73 ⟨r25, h22⟩
  · have h26 := hwp.2.2.1 c1
    refine zr_tsIn (x := part) (v := 2) (tgt := 74) hx hb r_part 2 c1 dX7_memory_1 ⟨by decide, rfl⟩ (by decide) ?_
    refine lv_aload_n hx hb dX7_memory_74 rfl (lv_at hl 0 rfl) ?_
    refine va_get (v := .ref (a 1)) (ci := 7) (C := RX7) (T := TX7) (N := 12) hx hb hts imX7_memory_X7 hown hK hP 0 rfl rfl 0 (by decide) k1 (fun _ h9 => h9) rfl dX7_memory_75 ?_
    refine lv_iconst (v := iI 0) hx hb dX7_memory_78 rfl ?_
    refine zr_iald (n := 370) (f := (s.2 0)) (i := 0) hx hb hK hP 1 rfl rg_0 ⟨by decide, by decide⟩ dX7_memory_79 ?_
    obtain ⟨b27, h28⟩ := h26
    refine zc_si (As := [.int (iI ((s.2 0) 0))]) (rest := []) (c_X7_waysOf l G ((s.2 0) 0) ((r_s.2 0) 0) b27) ⟨hx, hb, hml, hown, hts⟩ (va_cwS 1 hts gX7_memory_X7_waysOf rfl rfl rfl hdX7_waysOf ⟨Nat.le_of_ble_eq_true rfl, Nat.le_of_ble_eq_true rfl⟩) hK hP hD hS hA rfl hl.1 rfl (Nat.le_of_ble_eq_true rfl) dX7_memory_80 ⟨Nat.zero_le _, Nat.zero_le _⟩ (fun z30 H locs hw hP hD hS => ?_)
    obtain ⟨rfl, r31⟩ := hw
    have hP : va_P G.1 vwCl (W7 G a s) H := hP
    have hD : va_D A (W7 G a s) := hD
    exact zr_iret (z := waysZ ((s.2 0) 0)) hx hb hr hlocks hK () hP hD hS dX7_memory_83 ⟨r31, h28⟩
  · have h32 := hwp.2.2.2 c1
    refine zr_tsOut (x := part) (tgt := 84) hx hb r_part c1 dX7_memory_1 (by decide) ?_
    refine lv_bipush (v := iI (-2)) hx hb dX7_memory_84 (by decide) ?_
    exact zr_iret (z := (-2)) hx hb hr hlocks hK () hP hD hS dX7_memory_86 ⟨rg_m2, h32⟩
theorem c_X7_memory (l : Launch) (G : ZG) (a : Nat → Nat) (s : SS) (part : Int)  (r_s : RG s) (r_part : rg part) (p0 : Vz (s.2 0)) (p1 : Bd (s.2 0) 50000) (p2 : 0 ≤ (s.1 2) ∧ (s.1 2) ≤ 4) : ZI l G yX7_memory wsX7_memory 4 89 [.ref (a 0), .int (iI part)] (W7 G a s) (fun _ : Unit => W7 G a s) (fun (z : Int) (_ : Unit) => z = (an_memory (s.2 0) part) ∧ rg z) := by
  refine ZI.fn (w1 := fun u : Unit => W7 G a s) (fun z u hq => ?_) (c0_X7_memory l G a s part (fun z => z = (an_memory (s.2 0) part)) r_s r_part (sp_X7_memory s part r_s r_part p0 p1 p2))
  obtain ⟨rz, ez⟩ := hq
  exact ⟨rfl, ⟨ez, rz⟩⟩
theorem imX7_inMemory_X7 : ∀ w ∈ wsX70, w ∈ wsX7_inMemory := fun _ h => (List.mem_cons_of_mem _ (List.mem_append_right _ h))
theorem hdX7_inMemory : yX7_inMemory.cls = RX7 ∧ yX7_inMemory.cls ≠ "java/lang/invoke/MethodHandle" ∧ yX7_inMemory.cls ≠ "java/lang/invoke/VarHandle" ∧ (parseMethodDescriptor yX7_inMemory.desc).map (fun d => d.parameters.length) = some 1 := by decide +kernel
set_option maxRecDepth 100000 in
set_option maxHeartbeats 4000000 in
theorem c0_X7_inMemory (l : Launch) (G : ZG) (a : Nat → Nat) (s : SS) (index : Int) (P : Int → Prop) (r_s : RG s) (r_index : rg index) (hwp : wp_X7_inMemory s index P) : ZI l G yX7_inMemory wsX7_inMemory 1 21 [.ref (a 0), .int (iI index)] (W7 G a s) (fun u : Unit => W7 G a s) (fun (z : Int) (u : Unit) => rg z ∧ P z) := by
  unfold wp_X7_inMemory at hwp
  refine zm_i (cc := cX7_inMemory) (maxL := 4) (ret := some .int) (own := RX7) (lvs := [(0, .ref (a 0)), (1, .int (iI index))]) (by decide) rfl rfl (Nat.le_of_ble_eq_true rfl) rfl ?_
  intro p e sT m args below meth c ls A hx hb hr hml hown hts hlocks hK hP hD hS hA hl
  have k1 := hts (.fieldLink RX7 7 "GrantedSortModel" "z" "[I") (List.mem_of_getElem? (i := 1) rfl)
  refine lv_iload_n hx hb dX7_inMemory_0 rfl (lv_at hl 1 rfl) ?_
  refine lv_istore_n (lv' := [(2, .int (iI index)), (0, .ref (a 0)), (1, .int (iI index))]) hx hb dX7_inMemory_1 rfl hl (by decide) rfl (fun ls hl => ?_)
  refine lv_iconst (v := iI 0) hx hb dX7_inMemory_2 rfl ?_
  refine lv_istore_n (lv' := [(3, .int (iI 0)), (2, .int (iI index)), (0, .ref (a 0)), (1, .int (iI index))]) hx hb dX7_inMemory_3 rfl hl (by decide) rfl (fun ls hl => ?_)
  obtain ⟨I2, μ3, h4, h5⟩ := hwp
  refine zr_loop (G := G) (σ := Int × Int) (fun x_1 => (rg x_1.1 ∧ rg x_1.2) ∧ I2 x_1.1 x_1.2) (fun x_1 => μ3 x_1.1 x_1.2) (fun x_1 => W7 G a s) (fun x_1 => [(3, .int (iI x_1.2)), (2, .int (iI x_1.1)), (0, .ref (a 0)), (1, .int (iI index))]) ((index, 0)) ⟨⟨r_index, rg_0⟩, h4⟩ hP hD hS (lv_sub hl [0, 1, 2, 3] rfl) ?_
  clear hP hD hS hl
  intro x_1 H locs ls ih6 h7 hP hD hS hl
  obtain ⟨x2_1, x3_1⟩ := x_1
  obtain ⟨⟨rx2_1, rx3_1⟩, h7⟩ := h7
  have h8 := h5 x2_1 x3_1 rx2_1 rx3_1 h7
  have hP : va_P G.1 vwCl (W7 G a s) H := hP
  have hD : va_D A (W7 G a s) := hD
  have hl : lv_has ls 4 [(3, .int (iI x3_1)), (2, .int (iI x2_1)), (0, .ref (a 0)), (1, .int (iI index))] := hl
  refine lv_iload_n hx hb dX7_inMemory_4 rfl (lv_at hl 0 rfl) ?_
  refine lv_aload_n hx hb dX7_inMemory_5 rfl (lv_at hl 2 rfl) ?_
  refine va_get (v := .ref (a 1)) (ci := 7) (C := RX7) (T := TX7) (N := 12) hx hb hts imX7_inMemory_X7 hown hK hP 0 rfl rfl 0 (by decide) k1 (fun _ h9 => h9) rfl dX7_inMemory_6 ?_
  refine lv_iconst (v := iI 3) hx hb dX7_inMemory_9 rfl ?_
  refine zr_iald (n := 370) (f := (s.2 0)) (i := 3) hx hb hK hP 1 rfl rg_3 ⟨by decide, by decide⟩ dX7_inMemory_10 ?_
  refine zr_icmp_ge (tgt := 50) (x := x3_1) (y := (s.2 0) 3) hx hb rx3_1 ((r_s.2 0) 3) dX7_inMemory_11 (by decide) (fun c9 => ?_) (fun c9 => ?_)
  · have h12 := h8.2 c9
    refine lv_iconst (v := iI (-1)) hx hb dX7_inMemory_50 rfl ?_
    exact zr_iret (z := (-1)) hx hb hr hlocks hK () hP hD hS dX7_inMemory_51 ⟨rg_m1, h12⟩
  · have h13 := h8.1 c9
    refine lv_iload_n hx hb dX7_inMemory_14 rfl (lv_at hl 3 rfl) ?_
    refine zr_if_lt (tgt := 50) (x := index) hx hb r_index dX7_inMemory_15 (by decide) (fun c14 => ?_) (fun c14 => ?_)
    · have h17 := h13.1 c14
      refine lv_iconst (v := iI (-1)) hx hb dX7_inMemory_50 rfl ?_
      exact zr_iret (z := (-1)) hx hb hr hlocks hK () hP hD hS dX7_inMemory_51 ⟨rg_m1, h17⟩
    · have h18 := h13.2 c14
      refine lv_aload_n hx hb dX7_inMemory_18 rfl (lv_at hl 2 rfl) ?_
      refine lv_iload_n hx hb dX7_inMemory_19 rfl (lv_at hl 0 rfl) ?_
      obtain ⟨b19, h20⟩ := h18
      refine zc_vi (As := [.int (iI x3_1)]) (rest := []) (w2 := fun u_21 => W7 G a s) (c_X7_place l G a s x3_1 r_s rx3_1 b19) ⟨hx, hb, hml, hown, hts⟩ (cwV 1 hts gX7_inMemory_X7_place rfl rfl rfl hdX7_place ⟨Nat.le_of_ble_eq_true rfl, Nat.le_of_ble_eq_true rfl⟩) hK hP hD hS hA (q0 := 0) rfl rfl [0, 1, 2, 3, 4, 5, 6] [] [0, 1, 2, 3, 4, 5, 6] rfl rfl rfl rfl (by decide) (fun _ => rfl) rfl rfl hl.1 rfl (Nat.le_of_ble_eq_true rfl) dX7_inMemory_20 ⟨Nat.zero_le _, Nat.zero_le _⟩ (fun z22 u_21 H locs hw hP hD hS => ?_)
      obtain ⟨rfl, r23⟩ := hw
      have hP : va_P G.1 vwCl (W7 G a s) H := hP
      have hD : va_D A (W7 G a s) := hD
      refine lv_iconst (v := iI 1) hx hb dX7_inMemory_23 rfl ?_
      refine zr_icmp_ne (tgt := 44) (x := (s.2 0) (250 + x3_1)) (y := 1) hx hb r23 rg_1 dX7_inMemory_24 (by decide) (fun c24 => ?_) (fun c24 => ?_)
      · have h27 := h20.2 c24
        obtain ⟨r28, h29⟩ := h27
        refine zr_iinc (x := x3_1) (lv' := [(3, .int (iI (x3_1 + 1))), (2, .int (iI x2_1)), (0, .ref (a 0)), (1, .int (iI index))]) hx hb dX7_inMemory_44 hl (k := 0) rfl (by decide) rfl (fun ls hl => ?_)
        refine lv_goto (tgt := 4) hx hb dX7_inMemory_47 (by decide) ?_
        obtain ⟨h30, h31⟩ := h29
        exact ih6 ((x2_1, x3_1 + 1)) _ _ _ ⟨⟨rx2_1, r28⟩, h30⟩ h31 hP hD hS (lv_sub hl [0, 1, 2, 3] rfl)
      · have h32 := h20.1 c24
        refine lv_iload_n hx hb dX7_inMemory_27 rfl (lv_at hl 1 rfl) ?_
        refine zr_if_ne (tgt := 41) (x := x2_1) hx hb rx2_1 dX7_inMemory_28 (by decide) (fun c33 => ?_) (fun c33 => ?_)
        · have h36 := h32.2 c33
          obtain ⟨r37, h38⟩ := h36
          refine zr_iinc (x := x2_1) (lv' := [(2, .int (iI (x2_1 + (-1)))), (3, .int (iI x3_1)), (0, .ref (a 0)), (1, .int (iI index))]) hx hb dX7_inMemory_41 hl (k := 1) rfl (by decide) rfl (fun ls hl => ?_)
          obtain ⟨r39, h40⟩ := h38
          refine zr_iinc (x := x3_1) (lv' := [(3, .int (iI (x3_1 + 1))), (2, .int (iI (x2_1 + (-1)))), (0, .ref (a 0)), (1, .int (iI index))]) hx hb dX7_inMemory_44 hl (k := 1) rfl (by decide) rfl (fun ls hl => ?_)
          refine lv_goto (tgt := 4) hx hb dX7_inMemory_47 (by decide) ?_
          obtain ⟨h41, h42⟩ := h40
          exact ih6 ((x2_1 + (-1), x3_1 + 1)) _ _ _ ⟨⟨r37, r39⟩, h41⟩ h42 hP hD hS (lv_sub hl [0, 1, 2, 3] rfl)
        · have h43 := h32.1 c33
          refine lv_aload_n hx hb dX7_inMemory_31 rfl (lv_at hl 2 rfl) ?_
          refine va_get (v := .ref (a 1)) (ci := 7) (C := RX7) (T := TX7) (N := 12) hx hb hts imX7_inMemory_X7 hown hK hP 0 rfl rfl 0 (by decide) k1 (fun _ h9 => h9) rfl dX7_inMemory_32 ?_
          refine lv_bipush (v := iI 10) hx hb dX7_inMemory_35 (by decide) ?_
          refine lv_iload_n hx hb dX7_inMemory_37 rfl (lv_at hl 0 rfl) ?_
          refine zr_iadd (x := 10) (y := x3_1) hx hb dX7_inMemory_38 ?_
          obtain ⟨r44, h45⟩ := h43
          obtain ⟨b46, h47⟩ := h45
          refine zr_iald (n := 370) (f := (s.2 0)) (i := 10 + x3_1) hx hb hK hP 1 rfl r44 b46 dX7_inMemory_39 ?_
          exact zr_iret (z := (s.2 0) (10 + x3_1)) hx hb hr hlocks hK () hP hD hS dX7_inMemory_40 ⟨((r_s.2 0) (10 + x3_1)), h47⟩
theorem c_X7_inMemory (l : Launch) (G : ZG) (a : Nat → Nat) (s : SS) (index : Int)  (r_s : RG s) (r_index : rg index) (p0 : Vz (s.2 0)) (p1 : Bd (s.2 0) 50000) (p2 : 0 ≤ (s.1 2) ∧ (s.1 2) ≤ 4) : ZI l G yX7_inMemory wsX7_inMemory 1 21 [.ref (a 0), .int (iI index)] (W7 G a s) (fun _ : Unit => W7 G a s) (fun (z : Int) (_ : Unit) => z = (an_inMemory (s.2 0) index) ∧ rg z) := by
  refine ZI.fn (w1 := fun u : Unit => W7 G a s) (fun z u hq => ?_) (c0_X7_inMemory l G a s index (fun z => z = (an_inMemory (s.2 0) index)) r_s r_index (sp_X7_inMemory s index r_s r_index p0 p1 p2))
  obtain ⟨rz, ez⟩ := hq
  exact ⟨rfl, ⟨ez, rz⟩⟩
theorem imX7_isMerging_X7 : ∀ w ∈ wsX70, w ∈ wsX7_isMerging := fun _ h => (List.mem_cons_of_mem _ (List.mem_append_right _ h))
theorem hdX7_isMerging : yX7_isMerging.cls = RX7 ∧ yX7_isMerging.cls ≠ "java/lang/invoke/MethodHandle" ∧ yX7_isMerging.cls ≠ "java/lang/invoke/VarHandle" ∧ (parseMethodDescriptor yX7_isMerging.desc).map (fun d => d.parameters.length) = some 0 := by decide +kernel
set_option maxRecDepth 100000 in
set_option maxHeartbeats 4000000 in
theorem c0_X7_isMerging (l : Launch) (G : ZG) (a : Nat → Nat) (s : SS)  (P : Int → Prop) (r_s : RG s)  (hwp : wp_X7_isMerging s P) : ZI l G yX7_isMerging wsX7_isMerging 0 0 [.ref (a 0)] (W7 G a s) (fun u : Unit => W7 G a s) (fun (z : Int) (u : Unit) => rg z ∧ P z) := by
  unfold wp_X7_isMerging at hwp
  refine zm_i (cc := cX7_isMerging) (maxL := 1) (ret := some .int) (own := RX7) (lvs := [(0, .ref (a 0))]) (by decide) rfl rfl (Nat.le_of_ble_eq_true rfl) rfl ?_
  intro p e sT m args below meth c ls A hx hb hr hml hown hts hlocks hK hP hD hS hA hl
  have k1 := hts (.fieldLink RX7 7 "GrantedSortModel" "z" "[I") (List.mem_of_getElem? (i := 1) rfl)
  refine lv_aload_n hx hb dX7_isMerging_0 rfl (lv_at hl 0 rfl) ?_
  refine va_get (v := .ref (a 1)) (ci := 7) (C := RX7) (T := TX7) (N := 12) hx hb hts imX7_isMerging_X7 hown hK hP 0 rfl rfl 0 (by decide) k1 (fun _ h9 => h9) rfl dX7_isMerging_1 ?_
  refine lv_iconst (v := iI 5) hx hb dX7_isMerging_4 rfl ?_
  refine zr_iald (n := 370) (f := (s.2 0)) (i := 5) hx hb hK hP 1 rfl rg_5 ⟨by decide, by decide⟩ dX7_isMerging_5 ?_
  exact zr_iret (z := (s.2 0) 5) hx hb hr hlocks hK () hP hD hS dX7_isMerging_6 ⟨((r_s.2 0) 5), hwp⟩
theorem c_X7_isMerging (l : Launch) (G : ZG) (a : Nat → Nat) (s : SS)   (r_s : RG s)   : ZI l G yX7_isMerging wsX7_isMerging 0 0 [.ref (a 0)] (W7 G a s) (fun _ : Unit => W7 G a s) (fun (z : Int) (_ : Unit) => z = ((s.2 0) 5) ∧ rg z) := by
  refine ZI.fn (w1 := fun u : Unit => W7 G a s) (fun z u hq => ?_) (c0_X7_isMerging l G a s (fun z => z = ((s.2 0) 5)) r_s  (sp_X7_isMerging s r_s  ))
  obtain ⟨rz, ez⟩ := hq
  exact ⟨rfl, ⟨ez, rz⟩⟩
theorem imX7_isDone_X7 : ∀ w ∈ wsX70, w ∈ wsX7_isDone := fun _ h => (List.mem_cons_of_mem _ (List.mem_append_right _ h))
theorem hdX7_isDone : yX7_isDone.cls = RX7 ∧ yX7_isDone.cls ≠ "java/lang/invoke/MethodHandle" ∧ yX7_isDone.cls ≠ "java/lang/invoke/VarHandle" ∧ (parseMethodDescriptor yX7_isDone.desc).map (fun d => d.parameters.length) = some 0 := by decide +kernel
set_option maxRecDepth 100000 in
set_option maxHeartbeats 4000000 in
theorem c0_X7_isDone (l : Launch) (G : ZG) (a : Nat → Nat) (s : SS)  (P : Int → Prop) (r_s : RG s)  (hwp : wp_X7_isDone s P) : ZI l G yX7_isDone wsX7_isDone 4 89 [.ref (a 0)] (W7 G a s) (fun u : Unit => W7 G a s) (fun (z : Int) (u : Unit) => rg z ∧ P z) := by
  unfold wp_X7_isDone at hwp
  refine zm_i (cc := cX7_isDone) (maxL := 1) (ret := some .int) (own := RX7) (lvs := [(0, .ref (a 0))]) (by decide) rfl rfl (Nat.le_of_ble_eq_true rfl) rfl ?_
  intro p e sT m args below meth c ls A hx hb hr hml hown hts hlocks hK hP hD hS hA hl
  have k1 := hts (.fieldLink RX7 7 "GrantedSortModel" "z" "[I") (List.mem_of_getElem? (i := 1) rfl)
  refine lv_aload_n hx hb dX7_isDone_0 rfl (lv_at hl 0 rfl) ?_
  refine va_get (v := .ref (a 1)) (ci := 7) (C := RX7) (T := TX7) (N := 12) hx hb hts imX7_isDone_X7 hown hK hP 0 rfl rfl 0 (by decide) k1 (fun _ h9 => h9) rfl dX7_isDone_1 ?_
  refine lv_iconst (v := iI 2) hx hb dX7_isDone_4 rfl ?_
  refine zr_iald (n := 370) (f := (s.2 0)) (i := 2) hx hb hK hP 1 rfl rg_2 ⟨by decide, by decide⟩ dX7_isDone_5 ?_
  refine zr_if_ne (tgt := 30) (x := (s.2 0) 2) hx hb ((r_s.2 0) 2) dX7_isDone_6 (by decide) (fun c1 => ?_) (fun c1 => ?_)
  · have h4 := hwp.2 c1
    refine lv_iconst (v := iI 0) hx hb dX7_isDone_30 rfl ?_
    exact zr_iret (z := 0) hx hb hr hlocks hK () hP hD hS dX7_isDone_31 ⟨rg_0, h4⟩
  · have h5 := hwp.1 c1
    refine lv_aload_n hx hb dX7_isDone_9 rfl (lv_at hl 0 rfl) ?_
    refine va_get (v := .ref (a 1)) (ci := 7) (C := RX7) (T := TX7) (N := 12) hx hb hts imX7_isDone_X7 hown hK hP 0 rfl rfl 0 (by decide) k1 (fun _ h9 => h9) rfl dX7_isDone_10 ?_
    refine lv_iconst (v := iI 5) hx hb dX7_isDone_13 rfl ?_
    refine zr_iald (n := 370) (f := (s.2 0)) (i := 5) hx hb hK hP 1 rfl rg_5 ⟨by decide, by decide⟩ dX7_isDone_14 ?_
    refine zr_if_ne (tgt := 30) (x := (s.2 0) 5) hx hb ((r_s.2 0) 5) dX7_isDone_15 (by decide) (fun c6 => ?_) (fun c6 => ?_)
    · have h9 := h5.2 c6
      refine lv_iconst (v := iI 0) hx hb dX7_isDone_30 rfl ?_
      exact zr_iret (z := 0) hx hb hr hlocks hK () hP hD hS dX7_isDone_31 ⟨rg_0, h9⟩
    · have h10 := h5.1 c6
      refine lv_aload_n hx hb dX7_isDone_18 rfl (lv_at hl 0 rfl) ?_
      obtain ⟨b11, h12⟩ := h10
      refine zc_vi (As := []) (rest := []) (w2 := fun u_13 => W7 G a s) (c_X7_runMany l G a s r_s b11) ⟨hx, hb, hml, hown, hts⟩ (cwV 0 hts gX7_isDone_X7_runMany rfl rfl rfl hdX7_runMany ⟨Nat.le_of_ble_eq_true rfl, Nat.le_of_ble_eq_true rfl⟩) hK hP hD hS hA (q0 := 0) rfl rfl [0, 1, 2, 3, 4, 5, 6] [] [0, 1, 2, 3, 4, 5, 6] rfl rfl rfl rfl (by decide) (fun _ => rfl) rfl rfl hl.1 rfl (Nat.le_of_ble_eq_true rfl) dX7_isDone_19 ⟨Nat.zero_le _, Nat.zero_le _⟩ (fun z14 u_13 H locs hw hP hD hS => ?_)
      obtain ⟨rfl, r15⟩ := hw
      have hP : va_P G.1 vwCl (W7 G a s) H := hP
      have hD : va_D A (W7 G a s) := hD
      refine lv_iconst (v := iI 2) hx hb dX7_isDone_22 rfl ?_
      refine zr_icmp_ge (tgt := 30) (x := manyZ (s.2 0) 0) (y := 2) hx hb r15 rg_2 dX7_isDone_23 (by decide) (fun c16 => ?_) (fun c16 => ?_)
      · have h19 := h12.2 c16
        refine lv_iconst (v := iI 0) hx hb dX7_isDone_30 rfl ?_
        exact zr_iret (z := 0) hx hb hr hlocks hK () hP hD hS dX7_isDone_31 ⟨rg_0, h19⟩
      · have h20 := h12.1 c16
        refine lv_iconst (v := iI 1) hx hb dX7_isDone_26 rfl ?_
        refine lv_goto (tgt := 31) hx hb dX7_isDone_27 (by decide) ?_
        exact zr_iret (z := 1) hx hb hr hlocks hK () hP hD hS dX7_isDone_31 ⟨rg_1, h20⟩
theorem c_X7_isDone (l : Launch) (G : ZG) (a : Nat → Nat) (s : SS)   (r_s : RG s)  (p0 : Vz (s.2 0)) (p1 : Bd (s.2 0) 50000) (p2 : 0 ≤ (s.1 2) ∧ (s.1 2) ≤ 4) : ZI l G yX7_isDone wsX7_isDone 4 89 [.ref (a 0)] (W7 G a s) (fun _ : Unit => W7 G a s) (fun (z : Int) (_ : Unit) => z = (an_isDone (s.2 0)) ∧ rg z) := by
  refine ZI.fn (w1 := fun u : Unit => W7 G a s) (fun z u hq => ?_) (c0_X7_isDone l G a s (fun z => z = (an_isDone (s.2 0))) r_s  (sp_X7_isDone s r_s  p0 p1 p2))
  obtain ⟨rz, ez⟩ := hq
  exact ⟨rfl, ⟨ez, rz⟩⟩
theorem imX7_ofMerge_X7 : ∀ w ∈ wsX70, w ∈ wsX7_ofMerge := fun _ h => (List.mem_cons_of_mem _ (List.mem_append_right _ h))
theorem hdX7_ofMerge : yX7_ofMerge.cls = RX7 ∧ yX7_ofMerge.cls ≠ "java/lang/invoke/MethodHandle" ∧ yX7_ofMerge.cls ≠ "java/lang/invoke/VarHandle" ∧ (parseMethodDescriptor yX7_ofMerge.desc).map (fun d => d.parameters.length) = some 1 := by decide +kernel
set_option maxRecDepth 100000 in
set_option maxHeartbeats 4000000 in
theorem c0_X7_ofMerge (l : Launch) (G : ZG) (a : Nat → Nat) (s : SS) (part : Int) (P : Int → Prop) (r_s : RG s) (r_part : rg part) (hwp : wp_X7_ofMerge s part P) : ZI l G yX7_ofMerge wsX7_ofMerge 4 89 [.ref (a 0), .int (iI part)] (W7 G a s) (fun u : Unit => W7 G a s) (fun (z : Int) (u : Unit) => rg z ∧ P z) := by
  unfold wp_X7_ofMerge at hwp
  refine zm_i (cc := cX7_ofMerge) (maxL := 2) (ret := some .int) (own := RX7) (lvs := [(0, .ref (a 0)), (1, .int (iI part))]) (by decide) rfl rfl (Nat.le_of_ble_eq_true rfl) rfl ?_
  intro p e sT m args below meth c ls A hx hb hr hml hown hts hlocks hK hP hD hS hA hl
  have k1 := hts (.fieldLink RX7 7 "GrantedSortModel" "z" "[I") (List.mem_of_getElem? (i := 1) rfl)
  refine lv_iload_n hx hb dX7_ofMerge_0 rfl (lv_at hl 1 rfl) ?_
  refine lv_iconst (v := iI 0) hx hb dX7_ofMerge_1 rfl ?_
  refine lv_iconst (v := iI 3) hx hb dX7_ofMerge_2 rfl ?_
  refine zc_si (As := [.int (iI part), .int (iI 0), .int (iI 3)]) (rest := []) (c_X7_in l G part 0 3 r_part rg_0 rg_3) ⟨hx, hb, hml, hown, hts⟩ (va_cwS 3 hts gX7_ofMerge_X7_in rfl rfl rfl hdX7_in ⟨Nat.le_of_ble_eq_true rfl, Nat.le_of_ble_eq_true rfl⟩) hK hP hD hS hA rfl hl.1 rfl (Nat.le_of_ble_eq_true rfl) dX7_ofMerge_3 ⟨Nat.zero_le _, Nat.zero_le _⟩ (fun z2 H locs hw hP hD hS => ?_)
  obtain ⟨rfl, r3⟩ := hw
  have hP : va_P G.1 vwCl (W7 G a s) H := hP
  have hD : va_D A (W7 G a s) := hD
  refine zr_ifB_ne (tgt := 12)  hx hb dX7_ofMerge_6 (by decide) (fun c4 => ?_) (fun c4 => ?_)
  · have h7 := hwp.1 c4
    refine lv_aload_n hx hb dX7_ofMerge_12 rfl (lv_at hl 0 rfl) ?_
    refine va_get (v := .ref (a 1)) (ci := 7) (C := RX7) (T := TX7) (N := 12) hx hb hts imX7_ofMerge_X7 hown hK hP 0 rfl rfl 0 (by decide) k1 (fun _ h9 => h9) rfl dX7_ofMerge_13 ?_
    refine lv_iconst (v := iI 5) hx hb dX7_ofMerge_16 rfl ?_
    refine zr_iald (n := 370) (f := (s.2 0)) (i := 5) hx hb hK hP 1 rfl rg_5 ⟨by decide, by decide⟩ dX7_ofMerge_17 ?_
    refine zr_if_ne (tgt := 24) (x := (s.2 0) 5) hx hb ((r_s.2 0) 5) dX7_ofMerge_18 (by decide) (fun c8 => ?_) (fun c8 => ?_)
    · have h11 := h7.2 c8
      refine lv_iload_n hx hb dX7_ofMerge_24 rfl (lv_at hl 1 rfl) ?_
      refine zr_if_ne (tgt := 38) (x := part) hx hb r_part dX7_ofMerge_25 (by decide) (fun c12 => ?_) (fun c12 => ?_)
      · have h15 := h11.2 c12
        refine lv_iload_n hx hb dX7_ofMerge_38 rfl (lv_at hl 1 rfl) ?_
        refine lv_iconst (v := iI 1) hx hb dX7_ofMerge_39 rfl ?_
        refine zr_icmp_ne (tgt := 50) (x := part) (y := 1) hx hb r_part rg_1 dX7_ofMerge_40 (by decide) (fun c16 => ?_) (fun c16 => ?_)
        · have h19 := h15.2 c16
          refine lv_iload_n hx hb dX7_ofMerge_50 rfl (lv_at hl 1 rfl) ?_
          refine lv_iconst (v := iI 2) hx hb dX7_ofMerge_51 rfl ?_
          refine zr_icmp_ne (tgt := 63) (x := part) (y := 2) hx hb r_part rg_2 dX7_ofMerge_52 (by decide) (fun c20 => ?_) (fun c20 => ?_)
          · have h23 := h19.2 c20
            refine lv_aload_n hx hb dX7_ofMerge_63 rfl (lv_at hl 0 rfl) ?_
            obtain ⟨b24, h25⟩ := h23
            refine zc_vi (As := []) (rest := []) (w2 := fun u_26 => W7 G a s) (c_X7_rowsInInputs l G a s r_s b24) ⟨hx, hb, hml, hown, hts⟩ (cwV 0 hts gX7_ofMerge_X7_rowsInInputs rfl rfl rfl hdX7_rowsInInputs ⟨Nat.le_of_ble_eq_true rfl, Nat.le_of_ble_eq_true rfl⟩) hK hP hD hS hA (q0 := 0) rfl rfl [0, 1, 2, 3, 4, 5, 6] [] [0, 1, 2, 3, 4, 5, 6] rfl rfl rfl rfl (by decide) (fun _ => rfl) rfl rfl hl.1 rfl (Nat.le_of_ble_eq_true rfl) dX7_ofMerge_64 ⟨Nat.zero_le _, Nat.zero_le _⟩ (fun z27 u_26 H locs hw hP hD hS => ?_)
            obtain ⟨rfl, r28⟩ := hw
            have hP : va_P G.1 vwCl (W7 G a s) H := hP
            have hD : va_D A (W7 G a s) := hD
            exact zr_iret (z := riZ (s.2 0)) hx hb hr hlocks hK () hP hD hS dX7_ofMerge_67 ⟨r28, h25⟩
          · have h29 := h19.1 c20
            refine lv_aload_n hx hb dX7_ofMerge_55 rfl (lv_at hl 0 rfl) ?_
            refine lv_iconst (v := iI 2) hx hb dX7_ofMerge_56 rfl ?_
            obtain ⟨b30, h31⟩ := h29
            refine zc_vi (As := [.int (iI 2)]) (rest := []) (w2 := fun u_32 => W7 G a s) (c_X7_rowsAt l G a s 2 r_s rg_2 b30) ⟨hx, hb, hml, hown, hts⟩ (cwV 1 hts gX7_ofMerge_X7_rowsAt rfl rfl rfl hdX7_rowsAt ⟨Nat.le_of_ble_eq_true rfl, Nat.le_of_ble_eq_true rfl⟩) hK hP hD hS hA (q0 := 0) rfl rfl [0, 1, 2, 3, 4, 5, 6] [] [0, 1, 2, 3, 4, 5, 6] rfl rfl rfl rfl (by decide) (fun _ => rfl) rfl rfl hl.1 rfl (Nat.le_of_ble_eq_true rfl) dX7_ofMerge_57 ⟨Nat.zero_le _, Nat.zero_le _⟩ (fun z33 u_32 H locs hw hP hD hS => ?_)
            obtain ⟨rfl, r34⟩ := hw
            have hP : va_P G.1 vwCl (W7 G a s) H := hP
            have hD : va_D A (W7 G a s) := hD
            refine lv_goto (tgt := 67) hx hb dX7_ofMerge_60 (by decide) ?_
            exact zr_iret (z := rowsAt (s.2 0) (2 : Int)) hx hb hr hlocks hK () hP hD hS dX7_ofMerge_67 ⟨r34, h31⟩
        · have h35 := h15.1 c16
          refine lv_aload_n hx hb dX7_ofMerge_43 rfl (lv_at hl 0 rfl) ?_
          obtain ⟨b36, h37⟩ := h35
          refine zc_vi (As := []) (rest := []) (w2 := fun u_38 => W7 G a s) (c_X7_inputsLeft l G a s r_s b36) ⟨hx, hb, hml, hown, hts⟩ (cwV 0 hts gX7_ofMerge_X7_inputsLeft rfl rfl rfl hdX7_inputsLeft ⟨Nat.le_of_ble_eq_true rfl, Nat.le_of_ble_eq_true rfl⟩) hK hP hD hS hA (q0 := 0) rfl rfl [0, 1, 2, 3, 4, 5, 6] [] [0, 1, 2, 3, 4, 5, 6] rfl rfl rfl rfl (by decide) (fun _ => rfl) rfl rfl hl.1 rfl (Nat.le_of_ble_eq_true rfl) dX7_ofMerge_44 ⟨Nat.zero_le _, Nat.zero_le _⟩ (fun z39 u_38 H locs hw hP hD hS => ?_)
          obtain ⟨rfl, r40⟩ := hw
          have hP : va_P G.1 vwCl (W7 G a s) H := hP
          have hD : va_D A (W7 G a s) := hD
          refine lv_goto (tgt := 67) hx hb dX7_ofMerge_47 (by decide) ?_
          exact zr_iret (z := manyZ (s.2 0) 1) hx hb hr hlocks hK () hP hD hS dX7_ofMerge_67 ⟨r40, h37⟩
      · have h41 := h11.1 c12
        refine lv_aload_n hx hb dX7_ofMerge_28 rfl (lv_at hl 0 rfl) ?_
        refine va_get (v := .ref (a 1)) (ci := 7) (C := RX7) (T := TX7) (N := 12) hx hb hts imX7_ofMerge_X7 hown hK hP 0 rfl rfl 0 (by decide) k1 (fun _ h9 => h9) rfl dX7_ofMerge_29 ?_
        refine lv_bipush (v := iI 6) hx hb dX7_ofMerge_32 (by decide) ?_
        refine zr_iald (n := 370) (f := (s.2 0)) (i := 6) hx hb hK hP 1 rfl rg_6 ⟨by decide, by decide⟩ dX7_ofMerge_34 ?_
        refine lv_goto (tgt := 67) hx hb dX7_ofMerge_35 (by decide) ?_
        exact zr_iret (z := (s.2 0) 6) hx hb hr hlocks hK () hP hD hS dX7_ofMerge_67 ⟨((r_s.2 0) 6), h41⟩
    · have h42 := h7.1 c8
      refine lv_bipush (v := iI (-6)) hx hb dX7_ofMerge_21 (by decide) ?_
      exact zr_iret (z := (-6)) hx hb hr hlocks hK () hP hD hS dX7_ofMerge_23 ⟨rg_m6, h42⟩
  · have h43 := hwp.2 c4
    refine lv_bipush (v := iI (-2)) hx hb dX7_ofMerge_9 (by decide) ?_
    exact zr_iret (z := (-2)) hx hb hr hlocks hK () hP hD hS dX7_ofMerge_11 ⟨rg_m2, h43⟩
theorem c_X7_ofMerge (l : Launch) (G : ZG) (a : Nat → Nat) (s : SS) (part : Int)  (r_s : RG s) (r_part : rg part) (p0 : Vz (s.2 0)) (p1 : Bd (s.2 0) 50000) (p2 : 0 ≤ (s.1 2) ∧ (s.1 2) ≤ 4) : ZI l G yX7_ofMerge wsX7_ofMerge 4 89 [.ref (a 0), .int (iI part)] (W7 G a s) (fun _ : Unit => W7 G a s) (fun (z : Int) (_ : Unit) => z = (an_ofMerge (s.2 0) part) ∧ rg z) := by
  refine ZI.fn (w1 := fun u : Unit => W7 G a s) (fun z u hq => ?_) (c0_X7_ofMerge l G a s part (fun z => z = (an_ofMerge (s.2 0) part)) r_s r_part (sp_X7_ofMerge s part r_s r_part p0 p1 p2))
  obtain ⟨rz, ez⟩ := hq
  exact ⟨rfl, ⟨ez, rz⟩⟩
theorem hdX7_runs : yX7_runs.cls = RX7 ∧ yX7_runs.cls ≠ "java/lang/invoke/MethodHandle" ∧ yX7_runs.cls ≠ "java/lang/invoke/VarHandle" ∧ (parseMethodDescriptor yX7_runs.desc).map (fun d => d.parameters.length) = some 0 := by decide +kernel
set_option maxRecDepth 100000 in
set_option maxHeartbeats 4000000 in
theorem c0_X7_runs (l : Launch) (G : ZG) (a : Nat → Nat) (s : SS)  (P : Int → Prop) (r_s : RG s)  (hwp : wp_X7_runs s P) : ZI l G yX7_runs wsX7_runs 4 89 [.ref (a 0)] (W7 G a s) (fun u : Unit => W7 G a s) (fun (z : Int) (u : Unit) => rg z ∧ P z) := by
  unfold wp_X7_runs at hwp
  refine zm_i (cc := cX7_runs) (maxL := 1) (ret := some .int) (own := RX7) (lvs := [(0, .ref (a 0))]) (by decide) rfl rfl (Nat.le_of_ble_eq_true rfl) rfl ?_
  intro p e sT m args below meth c ls A hx hb hr hml hown hts hlocks hK hP hD hS hA hl
  refine lv_aload_n hx hb dX7_runs_0 rfl (lv_at hl 0 rfl) ?_
  obtain ⟨b1, h2⟩ := hwp
  refine zc_vi (As := []) (rest := []) (w2 := fun u_3 => W7 G a s) (c_X7_runMany l G a s r_s b1) ⟨hx, hb, hml, hown, hts⟩ (cwV 0 hts gX7_runs_X7_runMany rfl rfl rfl hdX7_runMany ⟨Nat.le_of_ble_eq_true rfl, Nat.le_of_ble_eq_true rfl⟩) hK hP hD hS hA (q0 := 0) rfl rfl [0, 1, 2, 3, 4, 5, 6] [] [0, 1, 2, 3, 4, 5, 6] rfl rfl rfl rfl (by decide) (fun _ => rfl) rfl rfl hl.1 rfl (Nat.le_of_ble_eq_true rfl) dX7_runs_1 ⟨Nat.zero_le _, Nat.zero_le _⟩ (fun z4 u_3 H locs hw hP hD hS => ?_)
  obtain ⟨rfl, r5⟩ := hw
  have hP : va_P G.1 vwCl (W7 G a s) H := hP
  have hD : va_D A (W7 G a s) := hD
  exact zr_iret (z := manyZ (s.2 0) 0) hx hb hr hlocks hK () hP hD hS dX7_runs_4 ⟨r5, h2⟩
theorem c_X7_runs (l : Launch) (G : ZG) (a : Nat → Nat) (s : SS)   (r_s : RG s)  (p0 : Vz (s.2 0)) (p1 : Bd (s.2 0) 50000) (p2 : 0 ≤ (s.1 2) ∧ (s.1 2) ≤ 4) : ZI l G yX7_runs wsX7_runs 4 89 [.ref (a 0)] (W7 G a s) (fun _ : Unit => W7 G a s) (fun (z : Int) (_ : Unit) => z = (manyZ (s.2 0) 0) ∧ rg z) := by
  refine ZI.fn (w1 := fun u : Unit => W7 G a s) (fun z u hq => ?_) (c0_X7_runs l G a s (fun z => z = (manyZ (s.2 0) 0)) r_s  (sp_X7_runs s r_s  p0 p1 p2))
  obtain ⟨rz, ez⟩ := hq
  exact ⟨rfl, ⟨ez, rz⟩⟩
theorem hdX7_runAt : yX7_runAt.cls = RX7 ∧ yX7_runAt.cls ≠ "java/lang/invoke/MethodHandle" ∧ yX7_runAt.cls ≠ "java/lang/invoke/VarHandle" ∧ (parseMethodDescriptor yX7_runAt.desc).map (fun d => d.parameters.length) = some 1 := by decide +kernel
set_option maxRecDepth 100000 in
set_option maxHeartbeats 4000000 in
theorem c0_X7_runAt (l : Launch) (G : ZG) (a : Nat → Nat) (s : SS) (index : Int) (P : Int → Prop) (r_s : RG s) (r_index : rg index) (hwp : wp_X7_runAt s index P) : ZI l G yX7_runAt wsX7_runAt 2 46 [.ref (a 0), .int (iI index)] (W7 G a s) (fun u : Unit => W7 G a s) (fun (z : Int) (u : Unit) => rg z ∧ P z) := by
  unfold wp_X7_runAt at hwp
  refine zm_i (cc := cX7_runAt) (maxL := 4) (ret := some .int) (own := RX7) (lvs := [(0, .ref (a 0)), (1, .int (iI index))]) (by decide) rfl rfl (Nat.le_of_ble_eq_true rfl) rfl ?_
  intro p e sT m args below meth c ls A hx hb hr hml hown hts hlocks hK hP hD hS hA hl
  refine lv_iload_n hx hb dX7_runAt_0 rfl (lv_at hl 1 rfl) ?_
  refine lv_istore_n (lv' := [(2, .int (iI index)), (0, .ref (a 0)), (1, .int (iI index))]) hx hb dX7_runAt_1 rfl hl (by decide) rfl (fun ls hl => ?_)
  refine lv_aload_n hx hb dX7_runAt_2 rfl (lv_at hl 1 rfl) ?_
  refine lv_iconst (v := iI 0) hx hb dX7_runAt_3 rfl ?_
  refine lv_iconst (v := iI 0) hx hb dX7_runAt_4 rfl ?_
  obtain ⟨b1, h2⟩ := hwp
  refine zc_vi (As := [.int (iI 0), .int (iI 0)]) (rest := []) (w2 := fun u_3 => W7 G a s) (c_X7_nextPlace l G a s 0 0 r_s rg_0 rg_0 b1) ⟨hx, hb, hml, hown, hts⟩ (cwV 2 hts gX7_runAt_X7_nextPlace rfl rfl rfl hdX7_nextPlace ⟨Nat.le_of_ble_eq_true rfl, Nat.le_of_ble_eq_true rfl⟩) hK hP hD hS hA (q0 := 0) rfl rfl [0, 1, 2, 3, 4, 5, 6] [] [0, 1, 2, 3, 4, 5, 6] rfl rfl rfl rfl (by decide) (fun _ => rfl) rfl rfl hl.1 rfl (Nat.le_of_ble_eq_true rfl) dX7_runAt_5 ⟨Nat.zero_le _, Nat.zero_le _⟩ (fun z4 u_3 H locs hw hP hD hS => ?_)
  obtain ⟨rfl, r5⟩ := hw
  have hP : va_P G.1 vwCl (W7 G a s) H := hP
  have hD : va_D A (W7 G a s) := hD
  refine lv_istore_n (lv' := [(3, .int (iI (nxP (s.2 0) (0 : Int) (0 : Int) ((s.2 0) 3).toNat))), (2, .int (iI index)), (0, .ref (a 0)), (1, .int (iI index))]) hx hb dX7_runAt_8 rfl hl (by decide) rfl (fun ls hl => ?_)
  obtain ⟨I7, μ8, h9, h10⟩ := h2
  refine zr_loop (G := G) (σ := Int × Int) (fun x_6 => (rg x_6.1 ∧ rg x_6.2) ∧ I7 x_6.1 x_6.2) (fun x_6 => μ8 x_6.1 x_6.2) (fun x_6 => W7 G a s) (fun x_6 => [(3, .int (iI x_6.2)), (2, .int (iI x_6.1)), (0, .ref (a 0)), (1, .int (iI index))]) ((index, nxP (s.2 0) (0 : Int) (0 : Int) ((s.2 0) 3).toNat)) ⟨⟨r_index, r5⟩, h9⟩ hP hD hS (lv_sub hl [0, 1, 2, 3] rfl) ?_
  clear hP hD hS hl
  intro x_6 H locs ls ih11 h12 hP hD hS hl
  obtain ⟨x2_6, x3_6⟩ := x_6
  obtain ⟨⟨rx2_6, rx3_6⟩, h12⟩ := h12
  have h13 := h10 x2_6 x3_6 rx2_6 rx3_6 h12
  have hP : va_P G.1 vwCl (W7 G a s) H := hP
  have hD : va_D A (W7 G a s) := hD
  have hl : lv_has ls 4 [(3, .int (iI x3_6)), (2, .int (iI x2_6)), (0, .ref (a 0)), (1, .int (iI index))] := hl
  refine lv_iload_n hx hb dX7_runAt_9 rfl (lv_at hl 0 rfl) ?_
  refine lv_bipush (v := iI (-6)) hx hb dX7_runAt_10 (by decide) ?_
  refine zr_icmp_eq (tgt := 43) (x := x3_6) (y := (-6)) hx hb rx3_6 rg_m6 dX7_runAt_12 (by decide) (fun c14 => ?_) (fun c14 => ?_)
  · have h17 := h13.1 c14
    refine lv_iconst (v := iI (-1)) hx hb dX7_runAt_43 rfl ?_
    exact zr_iret (z := (-1)) hx hb hr hlocks hK () hP hD hS dX7_runAt_44 ⟨rg_m1, h17⟩
  · have h18 := h13.2 c14
    refine lv_iload_n hx hb dX7_runAt_15 rfl (lv_at hl 3 rfl) ?_
    refine zr_if_lt (tgt := 43) (x := index) hx hb r_index dX7_runAt_16 (by decide) (fun c19 => ?_) (fun c19 => ?_)
    · have h22 := h18.1 c19
      refine lv_iconst (v := iI (-1)) hx hb dX7_runAt_43 rfl ?_
      exact zr_iret (z := (-1)) hx hb hr hlocks hK () hP hD hS dX7_runAt_44 ⟨rg_m1, h22⟩
    · have h23 := h18.2 c19
      refine lv_iload_n hx hb dX7_runAt_19 rfl (lv_at hl 1 rfl) ?_
      refine zr_if_ne (tgt := 30) (x := x2_6) hx hb rx2_6 dX7_runAt_20 (by decide) (fun c24 => ?_) (fun c24 => ?_)
      · have h27 := h23.2 c24
        obtain ⟨r28, h29⟩ := h27
        refine zr_iinc (x := x2_6) (lv' := [(2, .int (iI (x2_6 + (-1)))), (3, .int (iI x3_6)), (0, .ref (a 0)), (1, .int (iI index))]) hx hb dX7_runAt_30 hl (k := 1) rfl (by decide) rfl (fun ls hl => ?_)
        refine lv_aload_n hx hb dX7_runAt_33 rfl (lv_at hl 2 rfl) ?_
        refine lv_iload_n hx hb dX7_runAt_34 rfl (lv_at hl 1 rfl) ?_
        refine lv_iconst (v := iI 0) hx hb dX7_runAt_35 rfl ?_
        refine zc_vi (As := [.int (iI x3_6), .int (iI 0)]) (rest := []) (w2 := fun u_30 => W7 G a s) (c_X7_nextPlace l G a s x3_6 0 r_s rx3_6 rg_0 b1) ⟨hx, hb, hml, hown, hts⟩ (cwV 2 hts gX7_runAt_X7_nextPlace rfl rfl rfl hdX7_nextPlace ⟨Nat.le_of_ble_eq_true rfl, Nat.le_of_ble_eq_true rfl⟩) hK hP hD hS hA (q0 := 0) rfl rfl [0, 1, 2, 3, 4, 5, 6] [] [0, 1, 2, 3, 4, 5, 6] rfl rfl rfl rfl (by decide) (fun _ => rfl) rfl rfl hl.1 rfl (Nat.le_of_ble_eq_true rfl) dX7_runAt_36 ⟨Nat.zero_le _, Nat.zero_le _⟩ (fun z31 u_30 H locs hw hP hD hS => ?_)
        obtain ⟨rfl, r32⟩ := hw
        have hP : va_P G.1 vwCl (W7 G a s) H := hP
        have hD : va_D A (W7 G a s) := hD
        refine lv_istore_n (lv' := [(3, .int (iI (nxP (s.2 0) x3_6 (0 : Int) ((s.2 0) 3).toNat))), (2, .int (iI (x2_6 + (-1)))), (0, .ref (a 0)), (1, .int (iI index))]) hx hb dX7_runAt_39 rfl hl (by decide) rfl (fun ls hl => ?_)
        refine lv_goto (tgt := 9) hx hb dX7_runAt_40 (by decide) ?_
        obtain ⟨h33, h34⟩ := h29
        exact ih11 ((x2_6 + (-1), nxP (s.2 0) x3_6 (0 : Int) ((s.2 0) 3).toNat)) _ _ _ ⟨⟨r28, r32⟩, h33⟩ h34 hP hD hS (lv_sub hl [0, 1, 2, 3] rfl)
      · have h35 := h23.1 c24
        refine lv_iload_n hx hb dX7_runAt_23 rfl (lv_at hl 0 rfl) ?_
        refine lv_bipush (v := iI 10) hx hb dX7_runAt_24 (by decide) ?_
        refine zr_isub (x := x3_6) (y := 10) hx hb dX7_runAt_26 ?_
        obtain ⟨r36, h37⟩ := h35
        refine lv_iconst (v := iI 2) hx hb dX7_runAt_27 rfl ?_
        obtain ⟨r38, h39⟩ := h37
        refine zr_idiv (x := x3_6 - 10) (y := 2) hx hb r36 (by decide) (by decide) r38 dX7_runAt_28 ?_
        exact zr_iret (z := (x3_6 - 10) / 2) hx hb hr hlocks hK () hP hD hS dX7_runAt_29 ⟨(rg_div r36 r38 (by decide)), h39⟩
theorem c_X7_runAt (l : Launch) (G : ZG) (a : Nat → Nat) (s : SS) (index : Int)  (r_s : RG s) (r_index : rg index) (p0 : Vz (s.2 0)) (p1 : Bd (s.2 0) 50000) (p2 : 0 ≤ (s.1 2) ∧ (s.1 2) ≤ 4) : ZI l G yX7_runAt wsX7_runAt 2 46 [.ref (a 0), .int (iI index)] (W7 G a s) (fun _ : Unit => W7 G a s) (fun (z : Int) (_ : Unit) => z = (raZ (s.2 0) index ((s.2 0) 4).toNat) ∧ rg z) := by
  refine ZI.fn (w1 := fun u : Unit => W7 G a s) (fun z u hq => ?_) (c0_X7_runAt l G a s index (fun z => z = (raZ (s.2 0) index ((s.2 0) 4).toNat)) r_s r_index (sp_X7_runAt s index r_s r_index p0 p1 p2))
  obtain ⟨rz, ez⟩ := hq
  exact ⟨rfl, ⟨ez, rz⟩⟩
theorem hdX7_size : yX7_size.cls = RX7 ∧ yX7_size.cls ≠ "java/lang/invoke/MethodHandle" ∧ yX7_size.cls ≠ "java/lang/invoke/VarHandle" ∧ (parseMethodDescriptor yX7_size.desc).map (fun d => d.parameters.length) = some 1 := by decide +kernel
set_option maxRecDepth 100000 in
set_option maxHeartbeats 4000000 in
theorem c0_X7_size (l : Launch) (G : ZG) (a : Nat → Nat) (s : SS) (run : Int) (P : Int → Prop) (r_s : RG s) (r_run : rg run) (hwp : wp_X7_size s run P) : ZI l G yX7_size wsX7_size 3 65 [.ref (a 0), .int (iI run)] (W7 G a s) (fun u : Unit => W7 G a s) (fun (z : Int) (u : Unit) => rg z ∧ P z) := by
  unfold wp_X7_size at hwp
  refine zm_i (cc := cX7_size) (maxL := 2) (ret := some .int) (own := RX7) (lvs := [(0, .ref (a 0)), (1, .int (iI run))]) (by decide) rfl rfl (Nat.le_of_ble_eq_true rfl) rfl ?_
  intro p e sT m args below meth c ls A hx hb hr hml hown hts hlocks hK hP hD hS hA hl
  refine lv_aload_n hx hb dX7_size_0 rfl (lv_at hl 0 rfl) ?_
  refine lv_iload_n hx hb dX7_size_1 rfl (lv_at hl 1 rfl) ?_
  obtain ⟨b1, h2⟩ := hwp
  refine zc_vi (As := [.int (iI run)]) (rest := []) (w2 := fun u_3 => W7 G a s) (c_X7_isRun l G a s run r_s r_run b1) ⟨hx, hb, hml, hown, hts⟩ (cwV 1 hts gX7_size_X7_isRun rfl rfl rfl hdX7_isRun ⟨Nat.le_of_ble_eq_true rfl, Nat.le_of_ble_eq_true rfl⟩) hK hP hD hS hA (q0 := 0) rfl rfl [0, 1, 2, 3, 4, 5, 6] [] [0, 1, 2, 3, 4, 5, 6] rfl rfl rfl rfl (by decide) (fun _ => rfl) rfl rfl hl.1 rfl (Nat.le_of_ble_eq_true rfl) dX7_size_2 ⟨Nat.zero_le _, Nat.zero_le _⟩ (fun z4 u_3 H locs hw hP hD hS => ?_)
  obtain ⟨rfl, r5⟩ := hw
  have hP : va_P G.1 vwCl (W7 G a s) H := hP
  have hD : va_D A (W7 G a s) := hD
  refine zr_ifB_eq (tgt := 21)  hx hb dX7_size_5 (by decide) (fun c6 => ?_) (fun c6 => ?_)
  · have h9 := h2.2 c6
    refine lv_iconst (v := iI (-1)) hx hb dX7_size_21 rfl ?_
    exact zr_iret (z := (-1)) hx hb hr hlocks hK () hP hD hS dX7_size_22 ⟨rg_m1, h9⟩
  · have h10 := h2.1 c6
    refine lv_aload_n hx hb dX7_size_8 rfl (lv_at hl 0 rfl) ?_
    refine lv_bipush (v := iI 10) hx hb dX7_size_9 (by decide) ?_
    refine lv_iconst (v := iI 2) hx hb dX7_size_11 rfl ?_
    refine lv_iload_n hx hb dX7_size_12 rfl (lv_at hl 1 rfl) ?_
    refine zr_imul (x := 2) (y := run) hx hb dX7_size_13 ?_
    obtain ⟨r11, h12⟩ := h10
    refine zr_iadd (x := 10) (y := 2 * run) hx hb dX7_size_14 ?_
    obtain ⟨r13, h14⟩ := h12
    refine zc_vi (As := [.int (iI (10 + (2 * run)))]) (rest := []) (w2 := fun u_15 => W7 G a s) (c_X7_rowsAt l G a s (10 + (2 * run)) r_s r13 b1) ⟨hx, hb, hml, hown, hts⟩ (cwV 1 hts gX7_size_X7_rowsAt rfl rfl rfl hdX7_rowsAt ⟨Nat.le_of_ble_eq_true rfl, Nat.le_of_ble_eq_true rfl⟩) hK hP hD hS hA (q0 := 0) rfl rfl [0, 1, 2, 3, 4, 5, 6] [] [0, 1, 2, 3, 4, 5, 6] rfl rfl rfl rfl (by decide) (fun _ => rfl) rfl rfl hl.1 rfl (Nat.le_of_ble_eq_true rfl) dX7_size_15 ⟨Nat.zero_le _, Nat.zero_le _⟩ (fun z16 u_15 H locs hw hP hD hS => ?_)
    obtain ⟨rfl, r17⟩ := hw
    have hP : va_P G.1 vwCl (W7 G a s) H := hP
    have hD : va_D A (W7 G a s) := hD
    refine lv_goto (tgt := 22) hx hb dX7_size_18 (by decide) ?_
    exact zr_iret (z := rowsAt (s.2 0) (10 + (2 * run))) hx hb hr hlocks hK () hP hD hS dX7_size_22 ⟨r17, h14⟩
theorem c_X7_size (l : Launch) (G : ZG) (a : Nat → Nat) (s : SS) (run : Int)  (r_s : RG s) (r_run : rg run) (p0 : Vz (s.2 0)) (p1 : Bd (s.2 0) 50000) (p2 : 0 ≤ (s.1 2) ∧ (s.1 2) ≤ 4) : ZI l G yX7_size wsX7_size 3 65 [.ref (a 0), .int (iI run)] (W7 G a s) (fun _ : Unit => W7 G a s) (fun (z : Int) (_ : Unit) => z = (an_size (s.2 0) run) ∧ rg z) := by
  refine ZI.fn (w1 := fun u : Unit => W7 G a s) (fun z u hq => ?_) (c0_X7_size l G a s run (fun z => z = (an_size (s.2 0) run)) r_s r_run (sp_X7_size s run r_s r_run p0 p1 p2))
  obtain ⟨rz, ez⟩ := hq
  exact ⟨rfl, ⟨ez, rz⟩⟩
theorem imX7_count_X7 : ∀ w ∈ wsX70, w ∈ wsX7_count := fun _ h => (List.mem_cons_of_mem _ (List.mem_append_right _ h))
theorem hdX7_count : yX7_count.cls = RX7 ∧ yX7_count.cls ≠ "java/lang/invoke/MethodHandle" ∧ yX7_count.cls ≠ "java/lang/invoke/VarHandle" ∧ (parseMethodDescriptor yX7_count.desc).map (fun d => d.parameters.length) = some 1 := by decide +kernel
set_option maxRecDepth 100000 in
set_option maxHeartbeats 4000000 in
theorem c0_X7_count (l : Launch) (G : ZG) (a : Nat → Nat) (s : SS) (what : Int) (P : Int → Prop) (r_s : RG s) (r_what : rg what) (hwp : wp_X7_count s what P) : ZI l G yX7_count wsX7_count 2 43 [.ref (a 0), .int (iI what)] (W7 G a s) (fun u : Unit => W7 G a s) (fun (z : Int) (u : Unit) => rg z ∧ P z) := by
  unfold wp_X7_count at hwp
  refine zm_i (cc := cX7_count) (maxL := 2) (ret := some .int) (own := RX7) (lvs := [(0, .ref (a 0)), (1, .int (iI what))]) (by decide) rfl rfl (Nat.le_of_ble_eq_true rfl) rfl ?_
  intro p e sT m args below meth c ls A hx hb hr hml hown hts hlocks hK hP hD hS hA hl
  have k1 := hts (.fieldLink RX7 7 "GrantedSortModel" "z" "[I") (List.mem_of_getElem? (i := 1) rfl)
  refine lv_iload_n hx hb dX7_count_0 rfl (lv_at hl 1 rfl) ?_
  rcases (show what = 0 ∨ what = 1 ∨ what = 2 ∨ what = 3 ∨ what = 4 ∨ what = 5 ∨ what = 6 ∨ (what < 0 ∨ 6 < what) by omega) with c1 | c1 | c1 | c1 | c1 | c1 | c1 | c1
  · have h2 := hwp.1 c1
    refine zr_tsIn (x := what) (v := 0) (tgt := 44) hx hb r_what 0 c1 dX7_count_1 ⟨by decide, rfl⟩ (by decide) ?_
    refine lv_aload_n hx hb dX7_count_44 rfl (lv_at hl 0 rfl) ?_
    refine va_get (v := .ref (a 1)) (ci := 7) (C := RX7) (T := TX7) (N := 12) hx hb hts imX7_count_X7 hown hK hP 0 rfl rfl 0 (by decide) k1 (fun _ h9 => h9) rfl dX7_count_45 ?_
    refine lv_iconst (v := iI 3) hx hb dX7_count_48 rfl ?_
    refine zr_iald (n := 370) (f := (s.2 0)) (i := 3) hx hb hK hP 1 rfl rg_3 ⟨by decide, by decide⟩ dX7_count_49 ?_
    exact zr_iret (z := (s.2 0) 3) hx hb hr hlocks hK () hP hD hS dX7_count_50 ⟨((r_s.2 0) 3), h2⟩
  · have h3 := hwp.2.1 c1
    refine zr_tsIn (x := what) (v := 1) (tgt := 51) hx hb r_what 1 c1 dX7_count_1 ⟨by decide, rfl⟩ (by decide) ?_
    refine lv_aload_n hx hb dX7_count_51 rfl (lv_at hl 0 rfl) ?_
    obtain ⟨b4, h5⟩ := h3
    refine zc_vi (As := []) (rest := []) (w2 := fun u_6 => W7 G a s) (c_X7_rowsThere l G a s r_s b4) ⟨hx, hb, hml, hown, hts⟩ (cwV 0 hts gX7_count_X7_rowsThere rfl rfl rfl hdX7_rowsThere ⟨Nat.le_of_ble_eq_true rfl, Nat.le_of_ble_eq_true rfl⟩) hK hP hD hS hA (q0 := 0) rfl rfl [0, 1, 2, 3, 4, 5, 6] [] [0, 1, 2, 3, 4, 5, 6] rfl rfl rfl rfl (by decide) (fun _ => rfl) rfl rfl hl.1 rfl (Nat.le_of_ble_eq_true rfl) dX7_count_52 ⟨Nat.zero_le _, Nat.zero_le _⟩ (fun z7 u_6 H locs hw hP hD hS => ?_)
    obtain ⟨rfl, r8⟩ := hw
    have hP : va_P G.1 vwCl (W7 G a s) H := hP
    have hD : va_D A (W7 G a s) := hD
    exact zr_iret (z := sumI (fun r => pz (0 < (s.2 0) (250 + r))) ((s.2 0) 3).toNat) hx hb hr hlocks hK () hP hD hS dX7_count_55 ⟨r8, h5⟩
  · have h9 := hwp.2.2.1 c1
    refine zr_tsIn (x := what) (v := 2) (tgt := 56) hx hb r_what 2 c1 dX7_count_1 ⟨by decide, rfl⟩ (by decide) ?_
    refine lv_aload_n hx hb dX7_count_56 rfl (lv_at hl 0 rfl) ?_
    refine lv_sipush (v := iI 1000) hx hb dX7_count_57 (by decide) ?_
    obtain ⟨b10, h11⟩ := h9
    obtain ⟨b12, h13⟩ := h11
    refine zc_vi (As := [.int (iI 1000)]) (rest := []) (w2 := fun u_14 => W7 G a s) (c_X7_below l G a s 1000 r_s rg_1000 b10 b12) ⟨hx, hb, hml, hown, hts⟩ (cwV 1 hts gX7_count_X7_below rfl rfl rfl hdX7_below ⟨Nat.le_of_ble_eq_true rfl, Nat.le_of_ble_eq_true rfl⟩) hK hP hD hS hA (q0 := 0) rfl rfl [0, 1, 2, 3, 4, 5, 6] [] [0, 1, 2, 3, 4, 5, 6] rfl rfl rfl rfl (by decide) (fun _ => rfl) rfl rfl hl.1 rfl (Nat.le_of_ble_eq_true rfl) dX7_count_60 ⟨Nat.zero_le _, Nat.zero_le _⟩ (fun z15 u_14 H locs hw hP hD hS => ?_)
    obtain ⟨rfl, r16⟩ := hw
    have hP : va_P G.1 vwCl (W7 G a s) H := hP
    have hD : va_D A (W7 G a s) := hD
    exact zr_iret (z := sumI (fun r => if (s.2 0) (10 + r) < (1000 : Int) then (s.2 0) (130 + r) else 0) ((s.2 0) 3).toNat) hx hb hr hlocks hK () hP hD hS dX7_count_63 ⟨r16, h13⟩
  · have h17 := hwp.2.2.2.1 c1
    refine zr_tsIn (x := what) (v := 3) (tgt := 64) hx hb r_what 3 c1 dX7_count_1 ⟨by decide, rfl⟩ (by decide) ?_
    refine lv_aload_n hx hb dX7_count_64 rfl (lv_at hl 0 rfl) ?_
    refine va_get (v := .ref (a 1)) (ci := 7) (C := RX7) (T := TX7) (N := 12) hx hb hts imX7_count_X7 hown hK hP 0 rfl rfl 0 (by decide) k1 (fun _ h9 => h9) rfl dX7_count_65 ?_
    refine lv_bipush (v := iI 7) hx hb dX7_count_68 (by decide) ?_
    refine zr_iald (n := 370) (f := (s.2 0)) (i := 7) hx hb hK hP 1 rfl rg_7 ⟨by decide, by decide⟩ dX7_count_70 ?_
    exact zr_iret (z := (s.2 0) 7) hx hb hr hlocks hK () hP hD hS dX7_count_71 ⟨((r_s.2 0) 7), h17⟩
  · have h18 := hwp.2.2.2.2.1 c1
    refine zr_tsIn (x := what) (v := 4) (tgt := 72) hx hb r_what 4 c1 dX7_count_1 ⟨by decide, rfl⟩ (by decide) ?_
    refine lv_aload_n hx hb dX7_count_72 rfl (lv_at hl 0 rfl) ?_
    refine va_get (v := .ref (a 1)) (ci := 7) (C := RX7) (T := TX7) (N := 12) hx hb hts imX7_count_X7 hown hK hP 0 rfl rfl 0 (by decide) k1 (fun _ h9 => h9) rfl dX7_count_73 ?_
    refine lv_bipush (v := iI 8) hx hb dX7_count_76 (by decide) ?_
    refine zr_iald (n := 370) (f := (s.2 0)) (i := 8) hx hb hK hP 1 rfl rg_8 ⟨by decide, by decide⟩ dX7_count_78 ?_
    exact zr_iret (z := (s.2 0) 8) hx hb hr hlocks hK () hP hD hS dX7_count_79 ⟨((r_s.2 0) 8), h18⟩
  · have h19 := hwp.2.2.2.2.2.1 c1
    refine zr_tsIn (x := what) (v := 5) (tgt := 80) hx hb r_what 5 c1 dX7_count_1 ⟨by decide, rfl⟩ (by decide) ?_
    refine lv_aload_n hx hb dX7_count_80 rfl (lv_at hl 0 rfl) ?_
    refine va_get (v := .ref (a 1)) (ci := 7) (C := RX7) (T := TX7) (N := 12) hx hb hts imX7_count_X7 hown hK hP 0 rfl rfl 0 (by decide) k1 (fun _ h9 => h9) rfl dX7_count_81 ?_
    refine lv_bipush (v := iI 9) hx hb dX7_count_84 (by decide) ?_
    refine zr_iald (n := 370) (f := (s.2 0)) (i := 9) hx hb hK hP 1 rfl rg_9 ⟨by decide, by decide⟩ dX7_count_86 ?_
    exact zr_iret (z := (s.2 0) 9) hx hb hr hlocks hK () hP hD hS dX7_count_87 ⟨((r_s.2 0) 9), h19⟩
  · have h20 := hwp.2.2.2.2.2.2.1 c1
    refine zr_tsIn (x := what) (v := 6) (tgt := 88) hx hb r_what 6 c1 dX7_count_1 ⟨by decide, rfl⟩ (by decide) ?_
    refine lv_aload_n hx hb dX7_count_88 rfl (lv_at hl 0 rfl) ?_
    refine va_get (v := .ref (a 1)) (ci := 7) (C := RX7) (T := TX7) (N := 12) hx hb hts imX7_count_X7 hown hK hP 0 rfl rfl 0 (by decide) k1 (fun _ h9 => h9) rfl dX7_count_89 ?_
    refine lv_iconst (v := iI 4) hx hb dX7_count_92 rfl ?_
    refine zr_iald (n := 370) (f := (s.2 0)) (i := 4) hx hb hK hP 1 rfl rg_4 ⟨by decide, by decide⟩ dX7_count_93 ?_
    exact zr_iret (z := (s.2 0) 4) hx hb hr hlocks hK () hP hD hS dX7_count_94 ⟨((r_s.2 0) 4), h20⟩
  · have h21 := hwp.2.2.2.2.2.2.2 c1
    refine zr_tsOut (x := what) (tgt := 95) hx hb r_what c1 dX7_count_1 (by decide) ?_
    refine lv_bipush (v := iI (-2)) hx hb dX7_count_95 (by decide) ?_
    exact zr_iret (z := (-2)) hx hb hr hlocks hK () hP hD hS dX7_count_97 ⟨rg_m2, h21⟩
theorem c_X7_count (l : Launch) (G : ZG) (a : Nat → Nat) (s : SS) (what : Int)  (r_s : RG s) (r_what : rg what) (p0 : Vz (s.2 0)) (p1 : Bd (s.2 0) 50000) (p2 : 0 ≤ (s.1 2) ∧ (s.1 2) ≤ 4) : ZI l G yX7_count wsX7_count 2 43 [.ref (a 0), .int (iI what)] (W7 G a s) (fun _ : Unit => W7 G a s) (fun (z : Int) (_ : Unit) => z = (an_count (s.2 0) what) ∧ rg z) := by
  refine ZI.fn (w1 := fun u : Unit => W7 G a s) (fun z u hq => ?_) (c0_X7_count l G a s what (fun z => z = (an_count (s.2 0) what)) r_s r_what (sp_X7_count s what r_s r_what p0 p1 p2))
  obtain ⟨rz, ez⟩ := hq
  exact ⟨rfl, ⟨ez, rz⟩⟩
theorem hdX7_rank : yX7_rank.cls = RX7 ∧ yX7_rank.cls ≠ "java/lang/invoke/MethodHandle" ∧ yX7_rank.cls ≠ "java/lang/invoke/VarHandle" ∧ (parseMethodDescriptor yX7_rank.desc).map (fun d => d.parameters.length) = some 1 := by decide +kernel
set_option maxRecDepth 100000 in
set_option maxHeartbeats 4000000 in
theorem c0_X7_rank (l : Launch) (G : ZG) (a : Nat → Nat) (s : SS) (key : Int) (P : Int → Prop) (r_s : RG s) (r_key : rg key) (hwp : wp_X7_rank s key P) : ZI l G yX7_rank wsX7_rank 1 23 [.ref (a 0), .int (iI key)] (W7 G a s) (fun u : Unit => W7 G a s) (fun (z : Int) (u : Unit) => rg z ∧ P z) := by
  unfold wp_X7_rank at hwp
  refine zm_i (cc := cX7_rank) (maxL := 2) (ret := some .int) (own := RX7) (lvs := [(0, .ref (a 0)), (1, .int (iI key))]) (by decide) rfl rfl (Nat.le_of_ble_eq_true rfl) rfl ?_
  intro p e sT m args below meth c ls A hx hb hr hml hown hts hlocks hK hP hD hS hA hl
  refine lv_iload_n hx hb dX7_rank_0 rfl (lv_at hl 1 rfl) ?_
  refine lv_iconst (v := iI 0) hx hb dX7_rank_1 rfl ?_
  refine lv_sipush (v := iI 999) hx hb dX7_rank_2 (by decide) ?_
  refine zc_si (As := [.int (iI key), .int (iI 0), .int (iI 999)]) (rest := []) (c_X7_in l G key 0 999 r_key rg_0 rg_999) ⟨hx, hb, hml, hown, hts⟩ (va_cwS 3 hts gX7_rank_X7_in rfl rfl rfl hdX7_in ⟨Nat.le_of_ble_eq_true rfl, Nat.le_of_ble_eq_true rfl⟩) hK hP hD hS hA rfl hl.1 rfl (Nat.le_of_ble_eq_true rfl) dX7_rank_5 ⟨Nat.zero_le _, Nat.zero_le _⟩ (fun z2 H locs hw hP hD hS => ?_)
  obtain ⟨rfl, r3⟩ := hw
  have hP : va_P G.1 vwCl (W7 G a s) H := hP
  have hD : va_D A (W7 G a s) := hD
  refine zr_ifB_eq (tgt := 19)  hx hb dX7_rank_8 (by decide) (fun c4 => ?_) (fun c4 => ?_)
  · have h7 := hwp.2 c4
    refine lv_bipush (v := iI (-2)) hx hb dX7_rank_19 (by decide) ?_
    exact zr_iret (z := (-2)) hx hb hr hlocks hK () hP hD hS dX7_rank_21 ⟨rg_m2, h7⟩
  · have h8 := hwp.1 c4
    refine lv_aload_n hx hb dX7_rank_11 rfl (lv_at hl 0 rfl) ?_
    refine lv_iload_n hx hb dX7_rank_12 rfl (lv_at hl 1 rfl) ?_
    obtain ⟨b9, h10⟩ := h8
    obtain ⟨b11, h12⟩ := h10
    refine zc_vi (As := [.int (iI key)]) (rest := []) (w2 := fun u_13 => W7 G a s) (c_X7_below l G a s key r_s r_key b9 b11) ⟨hx, hb, hml, hown, hts⟩ (cwV 1 hts gX7_rank_X7_below rfl rfl rfl hdX7_below ⟨Nat.le_of_ble_eq_true rfl, Nat.le_of_ble_eq_true rfl⟩) hK hP hD hS hA (q0 := 0) rfl rfl [0, 1, 2, 3, 4, 5, 6] [] [0, 1, 2, 3, 4, 5, 6] rfl rfl rfl rfl (by decide) (fun _ => rfl) rfl rfl hl.1 rfl (Nat.le_of_ble_eq_true rfl) dX7_rank_13 ⟨Nat.zero_le _, Nat.zero_le _⟩ (fun z14 u_13 H locs hw hP hD hS => ?_)
    obtain ⟨rfl, r15⟩ := hw
    have hP : va_P G.1 vwCl (W7 G a s) H := hP
    have hD : va_D A (W7 G a s) := hD
    refine lv_goto (tgt := 21) hx hb dX7_rank_16 (by decide) ?_
    exact zr_iret (z := sumI (fun r => if (s.2 0) (10 + r) < key then (s.2 0) (130 + r) else 0) ((s.2 0) 3).toNat) hx hb hr hlocks hK () hP hD hS dX7_rank_21 ⟨r15, h12⟩
theorem c_X7_rank (l : Launch) (G : ZG) (a : Nat → Nat) (s : SS) (key : Int)  (r_s : RG s) (r_key : rg key) (p0 : Vz (s.2 0)) (p1 : Bd (s.2 0) 50000) (p2 : 0 ≤ (s.1 2) ∧ (s.1 2) ≤ 4) : ZI l G yX7_rank wsX7_rank 1 23 [.ref (a 0), .int (iI key)] (W7 G a s) (fun _ : Unit => W7 G a s) (fun (z : Int) (_ : Unit) => z = (an_rank (s.2 0) key) ∧ rg z) := by
  refine ZI.fn (w1 := fun u : Unit => W7 G a s) (fun z u hq => ?_) (c0_X7_rank l G a s key (fun z => z = (an_rank (s.2 0) key)) r_s r_key (sp_X7_rank s key r_s r_key p0 p1 p2))
  obtain ⟨rz, ez⟩ := hq
  exact ⟨rfl, ⟨ez, rz⟩⟩
theorem imX7_restore_X7 : ∀ w ∈ wsX70, w ∈ wsX7_restore := fun _ h => (List.mem_cons_of_mem _ (List.mem_append_right _ h))
theorem hdX7_restore : yX7_restore.cls = RX7 ∧ yX7_restore.cls ≠ "java/lang/invoke/MethodHandle" ∧ yX7_restore.cls ≠ "java/lang/invoke/VarHandle" ∧ (parseMethodDescriptor yX7_restore.desc).map (fun d => d.parameters.length) = some 0 := by decide +kernel
set_option maxRecDepth 100000 in
set_option maxHeartbeats 4000000 in
theorem c0_X7_restore (l : Launch) (G : ZG) (a : Nat → Nat) (s : SS)  (P : Int → SS → Prop) (r_s : RG s)  (hwp : wp_X7_restore s P) : ZI l G yX7_restore wsX7_restore 1 21 [.ref (a 0)] (W7 G a s) (fun u : SS => W7 G a u) (fun (z : Int) (u : SS) => rg z ∧ RG u ∧ P z u) := by
  unfold wp_X7_restore at hwp
  refine zm_i (cc := cX7_restore) (maxL := 2) (ret := some .int) (own := RX7) (lvs := [(0, .ref (a 0))]) (by decide) rfl rfl (Nat.le_of_ble_eq_true rfl) rfl ?_
  intro p e sT m args below meth c ls A hx hb hr hml hown hts hlocks hK hP hD hS hA hl
  have k1 := hts (.fieldLink RX7 33 "GrantedSortModel" "isKept" "Z") (List.mem_of_getElem? (i := 1) rfl)
  have k2 := hts (.fieldLink RX7 7 "GrantedSortModel" "z" "[I") (List.mem_of_getElem? (i := 2) rfl)
  have k3 := hts (.fieldLink RX7 16 "GrantedSortModel" "kept" "[I") (List.mem_of_getElem? (i := 3) rfl)
  refine lv_aload_n hx hb dX7_restore_0 rfl (lv_at hl 0 rfl) ?_
  refine va_get (v := .int (iI (s.1 4))) (ci := 7) (C := RX7) (T := TX7) (N := 12) hx hb hts imX7_restore_X7 hown hK hP 0 rfl rfl 4 (by decide) k1 (fun _ h9 => h9) rfl dX7_restore_1 ?_
  refine zr_if_ne (tgt := 10) (x := (s.1 4)) hx hb (r_s.1 4) dX7_restore_4 (by decide) (fun c1 => ?_) (fun c1 => ?_)
  · have h4 := hwp.2 c1
    refine lv_aload_n hx hb dX7_restore_10 rfl (lv_at hl 0 rfl) ?_
    obtain ⟨b5, h6⟩ := h4
    refine zc_vv (As := []) (rest := []) (w2 := fun u_8 => W7 G a (sS (sA s 1 (recP (s.2 1) (s.1 2) (s.2 0))) 2 (recN (s.1 2) + 1))) (c_X7_record l G a s r_s b5) ⟨hx, hb, hml, hown, hts⟩ (cwV 0 hts gX7_restore_X7_record rfl rfl rfl hdX7_record ⟨Nat.le_of_ble_eq_true rfl, Nat.le_of_ble_eq_true rfl⟩) hK hP hD hS hA (q0 := 0) rfl rfl [0, 1, 2, 3, 4, 5, 6] [] [0, 1, 2, 3, 4, 5, 6] rfl rfl rfl rfl (by decide) (fun _ => rfl) rfl rfl hl.1 rfl (Nat.le_of_ble_eq_true rfl) dX7_restore_11 ⟨Nat.zero_le _, Nat.zero_le _⟩ (fun u_8 H locs hw hP hD hS => ?_)
    have r7 := hw
    have hP : va_P G.1 vwCl (W7 G a (sS (sA s 1 (recP (s.2 1) (s.1 2) (s.2 0))) 2 (recN (s.1 2) + 1))) H := hP
    have hD : va_D A (W7 G a (sS (sA s 1 (recP (s.2 1) (s.1 2) (s.2 0))) 2 (recN (s.1 2) + 1))) := hD
    refine lv_iconst (v := iI 0) hx hb dX7_restore_14 rfl ?_
    refine lv_istore_n (lv' := [(1, .int (iI 0)), (0, .ref (a 0))]) hx hb dX7_restore_15 rfl hl (by decide) rfl (fun ls hl => ?_)
    obtain ⟨I11, μ12, h13, h14⟩ := h6
    refine zr_loop (G := G) (σ := Int × SS) (fun x_10 => (rg x_10.1 ∧ RG x_10.2) ∧ I11 x_10.1 x_10.2) (fun x_10 => μ12 x_10.1 x_10.2) (fun x_10 => W7 G a x_10.2) (fun x_10 => [(1, .int (iI x_10.1)), (0, .ref (a 0))]) ((0, sS (sA s 1 (recP (s.2 1) (s.1 2) (s.2 0))) 2 (recN (s.1 2) + 1))) ⟨⟨rg_0, (RG_S (RG_A r_s (r7.2 1)) (r7.1 2))⟩, h13⟩ hP hD hS (lv_sub hl [0, 1] rfl) ?_
    clear hP hD hS hl
    intro x_10 H locs ls ih15 h16 hP hD hS hl
    obtain ⟨x1_10, s0_10⟩ := x_10
    obtain ⟨⟨rx1_10, rs0_10⟩, h16⟩ := h16
    have h17 := h14 x1_10 s0_10 rx1_10 rs0_10 h16
    have hP : va_P G.1 vwCl (W7 G a s0_10) H := hP
    have hD : va_D A (W7 G a s0_10) := hD
    have hl : lv_has ls 2 [(1, .int (iI x1_10)), (0, .ref (a 0))] := hl
    refine lv_iload_n hx hb dX7_restore_16 rfl (lv_at hl 0 rfl) ?_
    refine lv_sipush (v := iI 370) hx hb dX7_restore_17 (by decide) ?_
    refine zr_icmp_ge (tgt := 41) (x := x1_10) (y := 370) hx hb rx1_10 rg_370 dX7_restore_20 (by decide) (fun c18 => ?_) (fun c18 => ?_)
    · have h21 := h17.2 c18
      refine lv_aload_n hx hb dX7_restore_41 rfl (lv_at hl 1 rfl) ?_
      refine va_get (v := .ref (a 1)) (ci := 7) (C := RX7) (T := TX7) (N := 12) hx hb hts imX7_restore_X7 hown hK hP 0 rfl rfl 0 (by decide) k2 (fun _ h9 => h9) rfl dX7_restore_42 ?_
      refine lv_iconst (v := iI 3) hx hb dX7_restore_45 rfl ?_
      refine zr_iald (n := 370) (f := (s0_10.2 0)) (i := 3) hx hb hK hP 1 rfl rg_3 ⟨by decide, by decide⟩ dX7_restore_46 ?_
      exact zr_iret (z := (s0_10.2 0) 3) hx hb hr hlocks hK (s0_10) hP hD hS dX7_restore_47 ⟨((rs0_10.2 0) 3), rs0_10, h21⟩
    · have h22 := h17.1 c18
      refine lv_aload_n hx hb dX7_restore_23 rfl (lv_at hl 1 rfl) ?_
      refine va_get (v := .ref (a 1)) (ci := 7) (C := RX7) (T := TX7) (N := 12) hx hb hts imX7_restore_X7 hown hK hP 0 rfl rfl 0 (by decide) k2 (fun _ h9 => h9) rfl dX7_restore_24 ?_
      refine lv_iload_n hx hb dX7_restore_27 rfl (lv_at hl 0 rfl) ?_
      refine lv_aload_n hx hb dX7_restore_28 rfl (lv_at hl 1 rfl) ?_
      refine va_get (v := .ref (a 3)) (ci := 7) (C := RX7) (T := TX7) (N := 12) hx hb hts imX7_restore_X7 hown hK hP 0 rfl rfl 3 (by decide) k3 (fun _ h9 => h9) rfl dX7_restore_29 ?_
      refine lv_iload_n hx hb dX7_restore_32 rfl (lv_at hl 0 rfl) ?_
      obtain ⟨b23, h24⟩ := h22
      refine zr_iald (n := 370) (f := (s0_10.2 3)) (i := x1_10) hx hb hK hP 3 rfl rx1_10 b23 dX7_restore_33 ?_
      refine zr_iast (n := 370) (f := (s0_10.2 0)) (i := x1_10) (x := (s0_10.2 3) x1_10) hx hb hK hP hD hS 1 rfl rx1_10 b23 dX7_restore_34 (fun H locs hP hD hS => ?_)
      have hP : va_P G.1 vwCl (W7 G a (sA s0_10 0 (uZ (s0_10.2 0) x1_10 ((s0_10.2 3) x1_10)))) H := hP
      have hD : va_D A (W7 G a (sA s0_10 0 (uZ (s0_10.2 0) x1_10 ((s0_10.2 3) x1_10)))) := hD
      obtain ⟨r25, h26⟩ := h24
      refine zr_iinc (x := x1_10) (lv' := [(1, .int (iI (x1_10 + 1))), (0, .ref (a 0))]) hx hb dX7_restore_35 hl (k := 0) rfl (by decide) rfl (fun ls hl => ?_)
      refine lv_goto (tgt := 16) hx hb dX7_restore_38 (by decide) ?_
      obtain ⟨h27, h28⟩ := h26
      exact ih15 ((x1_10 + 1, sA s0_10 0 (uZ (s0_10.2 0) x1_10 ((s0_10.2 3) x1_10)))) _ _ _ ⟨⟨r25, (RG_A rs0_10 (rgA_u (i := x1_10) (rs0_10.2 0) ((rs0_10.2 3) x1_10)))⟩, h27⟩ h28 hP hD hS (lv_sub hl [0, 1] rfl)
  · have h29 := hwp.1 c1
    refine lv_bipush (v := iI (-3)) hx hb dX7_restore_7 (by decide) ?_
    exact zr_iret (z := (-3)) hx hb hr hlocks hK (s) hP hD hS dX7_restore_9 ⟨rg_m3, r_s, h29⟩
theorem c_X7_restore (l : Launch) (G : ZG) (a : Nat → Nat) (s : SS)   (r_s : RG s)  (p0 : 0 ≤ (s.1 2) ∧ (s.1 2) ≤ 4) : ZI l G yX7_restore wsX7_restore 1 21 [.ref (a 0)] (W7 G a s) (fun _ : Unit => W7 G a (nx_restore s)) (fun (z : Int) (_ : Unit) => z = (if (s.1 4) = 0 then -3 else (s.2 3) 3) ∧ rg z ∧ RG (nx_restore s)) := by
  refine ZI.fn (w1 := fun u : SS => W7 G a u) (fun z u hq => ?_) (c0_X7_restore l G a s (fun z o0 => z = (if (s.1 4) = 0 then -3 else (s.2 3) 3) ∧ o0 = (nx_restore s)) r_s  (sp_X7_restore s r_s  p0))
  obtain ⟨rz, ro0, ⟨ez, eo0⟩⟩ := hq
  exact ⟨by rw [eo0], ⟨ez, rz, (by rw [← eo0]; exact ro0)⟩⟩
theorem imX7_append_X7 : ∀ w ∈ wsX70, w ∈ wsX7_append := fun _ h => (List.mem_cons_of_mem _ (List.mem_append_right _ h))
theorem hdX7_append : yX7_append.cls = RX7 ∧ yX7_append.cls ≠ "java/lang/invoke/MethodHandle" ∧ yX7_append.cls ≠ "java/lang/invoke/VarHandle" ∧ (parseMethodDescriptor yX7_append.desc).map (fun d => d.parameters.length) = some 1 := by decide +kernel
set_option maxRecDepth 100000 in
set_option maxHeartbeats 4000000 in
theorem c0_X7_append (l : Launch) (G : ZG) (a : Nat → Nat) (s : SS) (code : Int) (P : Int → SS → Prop) (r_s : RG s) (r_code : rg code) (hwp : wp_X7_append s code P) : ZI l G yX7_append wsX7_append 1 22 [.ref (a 0), .int (iI code)] (W7 G a s) (fun u : SS => W7 G a u) (fun (z : Int) (u : SS) => rg z ∧ RG u ∧ P z u) := by
  unfold wp_X7_append at hwp
  refine zm_i (cc := cX7_append) (maxL := 2) (ret := some .int) (own := RX7) (lvs := [(0, .ref (a 0)), (1, .int (iI code))]) (by decide) rfl rfl (Nat.le_of_ble_eq_true rfl) rfl ?_
  intro p e sT m args below meth c ls A hx hb hr hml hown hts hlocks hK hP hD hS hA hl
  have k1 := hts (.fieldLink RX7 139 "GrantedSortModel" "typed" "I") (List.mem_of_getElem? (i := 1) rfl)
  have k2 := hts (.fieldLink RX7 22 "GrantedSortModel" "buffer" "[C") (List.mem_of_getElem? (i := 2) rfl)
  refine lv_iload_n hx hb dX7_append_0 rfl (lv_at hl 1 rfl) ?_
  refine lv_bipush (v := iI 33) hx hb dX7_append_1 (by decide) ?_
  refine lv_bipush (v := iI 126) hx hb dX7_append_3 (by decide) ?_
  refine zc_si (As := [.int (iI code), .int (iI 33), .int (iI 126)]) (rest := []) (c_X7_in l G code 33 126 r_code rg_33 rg_126) ⟨hx, hb, hml, hown, hts⟩ (va_cwS 3 hts gX7_append_X7_in rfl rfl rfl hdX7_in ⟨Nat.le_of_ble_eq_true rfl, Nat.le_of_ble_eq_true rfl⟩) hK hP hD hS hA rfl hl.1 rfl (Nat.le_of_ble_eq_true rfl) dX7_append_5 ⟨Nat.zero_le _, Nat.zero_le _⟩ (fun z2 H locs hw hP hD hS => ?_)
  obtain ⟨rfl, r3⟩ := hw
  have hP : va_P G.1 vwCl (W7 G a s) H := hP
  have hD : va_D A (W7 G a s) := hD
  refine zr_ifB_ne (tgt := 14)  hx hb dX7_append_8 (by decide) (fun c4 => ?_) (fun c4 => ?_)
  · have h7 := hwp.1 c4
    refine lv_aload_n hx hb dX7_append_14 rfl (lv_at hl 0 rfl) ?_
    refine va_get (v := .int (iI (s.1 7))) (ci := 7) (C := RX7) (T := TX7) (N := 12) hx hb hts imX7_append_X7 hown hK hP 0 rfl rfl 7 (by decide) k1 (fun _ h9 => h9) rfl dX7_append_15 ?_
    refine lv_bipush (v := iI 80) hx hb dX7_append_18 (by decide) ?_
    refine zr_icmp_ne (tgt := 26) (x := (s.1 7)) (y := 80) hx hb (r_s.1 7) rg_80 dX7_append_20 (by decide) (fun c8 => ?_) (fun c8 => ?_)
    · have h11 := h7.2 c8
      refine lv_aload_n hx hb dX7_append_26 rfl (lv_at hl 0 rfl) ?_
      refine va_get (v := .ref (a 5)) (ci := 7) (C := RX7) (T := TX7) (N := 12) hx hb hts imX7_append_X7 hown hK hP 0 rfl rfl 6 (by decide) k2 (fun _ h9 => h9) rfl dX7_append_27 ?_
      refine lv_aload_n hx hb dX7_append_30 rfl (lv_at hl 0 rfl) ?_
      refine va_get (v := .int (iI (s.1 7))) (ci := 7) (C := RX7) (T := TX7) (N := 12) hx hb hts imX7_append_X7 hown hK hP 0 rfl rfl 7 (by decide) k1 (fun _ h9 => h9) rfl dX7_append_31 ?_
      refine lv_iload_n hx hb dX7_append_34 rfl (lv_at hl 1 rfl) ?_
      obtain ⟨b12, h13⟩ := h11
      refine zr_i2c (x := code) hx hb b12 dX7_append_35 ?_
      obtain ⟨b14, h15⟩ := h13
      refine zr_cast (n := 80) (f := (s.2 6)) (i := (s.1 7)) (x := code) hx hb hK hP hD hS 5 rfl (r_s.1 7) b14 b12 dX7_append_36 (fun H locs hP hD hS => ?_)
      have hP : va_P G.1 vwCl (W7 G a (sA s 6 (uZ (s.2 6) (s.1 7) code))) H := hP
      have hD : va_D A (W7 G a (sA s 6 (uZ (s.2 6) (s.1 7) code))) := hD
      refine lv_aload_n hx hb dX7_append_37 rfl (lv_at hl 0 rfl) ?_
      refine lv_dup hx hb dX7_append_38 rfl ?_
      refine va_get (v := .int (iI (s.1 7))) (ci := 7) (C := RX7) (T := TX7) (N := 12) hx hb hts imX7_append_X7 hown hK hP 0 rfl rfl 7 (by decide) k1 (fun _ h9 => h9) rfl dX7_append_39 ?_
      refine lv_iconst (v := iI 1) hx hb dX7_append_42 rfl ?_
      refine zr_iadd (x := (s.1 7)) (y := 1) hx hb dX7_append_43 ?_
      obtain ⟨r16, h17⟩ := h15
      refine va_put (v := .int (iI ((s.1 7) + 1))) (ty := .int) (ci := 7) (C := RX7) (T := TX7) (N := 12) hx hb hts imX7_append_X7 tyX7 tyX7_ok nmX7 hown hK hP hD hS 0 rfl rfl 7 (by decide) k1 (fun _ h9 => h9) rfl (tyX7_ok 7 (by decide)) rfl rfl (Nat.le_of_ble_eq_true rfl) dX7_append_44 (fun H locs hP hD hS => ?_)
      have hP : va_P G.1 vwCl (W7 G a (sS (sA s 6 (uZ (s.2 6) (s.1 7) code)) 7 ((s.1 7) + 1))) H := hP
      have hD : va_D A (W7 G a (sS (sA s 6 (uZ (s.2 6) (s.1 7) code)) 7 ((s.1 7) + 1))) := hD
      refine lv_aload_n hx hb dX7_append_47 rfl (lv_at hl 0 rfl) ?_
      refine va_get (v := .int (iI ((s.1 7) + 1))) (ci := 7) (C := RX7) (T := TX7) (N := 12) hx hb hts imX7_append_X7 hown hK hP 0 rfl rfl 7 (by decide) k1 (fun _ h9 => h9) rfl dX7_append_48 ?_
      exact zr_iret (z := (s.1 7) + 1) hx hb hr hlocks hK (sS (sA s 6 (uZ (s.2 6) (s.1 7) code)) 7 ((s.1 7) + 1)) hP hD hS dX7_append_51 ⟨r16, (RG_S (RG_A r_s (rgA_u (i := (s.1 7)) (r_s.2 6) r_code)) r16), h17⟩
    · have h18 := h7.1 c8
      refine lv_bipush (v := iI (-4)) hx hb dX7_append_23 (by decide) ?_
      exact zr_iret (z := (-4)) hx hb hr hlocks hK (s) hP hD hS dX7_append_25 ⟨rg_m4, r_s, h18⟩
  · have h19 := hwp.2 c4
    refine lv_bipush (v := iI (-2)) hx hb dX7_append_11 (by decide) ?_
    exact zr_iret (z := (-2)) hx hb hr hlocks hK (s) hP hD hS dX7_append_13 ⟨rg_m2, r_s, h19⟩
theorem c_X7_append (l : Launch) (G : ZG) (a : Nat → Nat) (s : SS) (code : Int)  (r_s : RG s) (r_code : rg code) (p0 : 0 ≤ (s.1 7) ∧ (s.1 7) ≤ 80) : ZI l G yX7_append wsX7_append 1 22 [.ref (a 0), .int (iI code)] (W7 G a s) (fun _ : Unit => W7 G a (nx_append s code)) (fun (z : Int) (_ : Unit) => z = (an_append s code) ∧ rg z ∧ RG (nx_append s code)) := by
  refine ZI.fn (w1 := fun u : SS => W7 G a u) (fun z u hq => ?_) (c0_X7_append l G a s code (fun z o0 => z = (an_append s code) ∧ o0 = (nx_append s code)) r_s r_code (sp_X7_append s code r_s r_code p0))
  obtain ⟨rz, ro0, ⟨ez, eo0⟩⟩ := hq
  exact ⟨by rw [eo0], ⟨ez, rz, (by rw [← eo0]; exact ro0)⟩⟩
theorem imX7_clearText_X7 : ∀ w ∈ wsX70, w ∈ wsX7_clearText := fun _ h => (List.mem_cons_of_mem _ (List.mem_append_right _ h))
theorem hdX7_clearText : yX7_clearText.cls = RX7 ∧ yX7_clearText.cls ≠ "java/lang/invoke/MethodHandle" ∧ yX7_clearText.cls ≠ "java/lang/invoke/VarHandle" ∧ (parseMethodDescriptor yX7_clearText.desc).map (fun d => d.parameters.length) = some 0 := by decide +kernel
set_option maxRecDepth 100000 in
set_option maxHeartbeats 4000000 in
theorem c0_X7_clearText (l : Launch) (G : ZG) (a : Nat → Nat) (s : SS)  (P : Int → SS → Prop) (r_s : RG s)  (hwp : wp_X7_clearText s P) : ZI l G yX7_clearText wsX7_clearText 0 0 [.ref (a 0)] (W7 G a s) (fun u : SS => W7 G a u) (fun (z : Int) (u : SS) => rg z ∧ RG u ∧ P z u) := by
  unfold wp_X7_clearText at hwp
  refine zm_i (cc := cX7_clearText) (maxL := 2) (ret := some .int) (own := RX7) (lvs := [(0, .ref (a 0))]) (by decide) rfl rfl (Nat.le_of_ble_eq_true rfl) rfl ?_
  intro p e sT m args below meth c ls A hx hb hr hml hown hts hlocks hK hP hD hS hA hl
  have k1 := hts (.fieldLink RX7 139 "GrantedSortModel" "typed" "I") (List.mem_of_getElem? (i := 1) rfl)
  refine lv_aload_n hx hb dX7_clearText_0 rfl (lv_at hl 0 rfl) ?_
  refine va_get (v := .int (iI (s.1 7))) (ci := 7) (C := RX7) (T := TX7) (N := 12) hx hb hts imX7_clearText_X7 hown hK hP 0 rfl rfl 7 (by decide) k1 (fun _ h9 => h9) rfl dX7_clearText_1 ?_
  refine lv_istore_n (lv' := [(1, .int (iI (s.1 7))), (0, .ref (a 0))]) hx hb dX7_clearText_4 rfl hl (by decide) rfl (fun ls hl => ?_)
  refine lv_aload_n hx hb dX7_clearText_5 rfl (lv_at hl 1 rfl) ?_
  refine lv_iconst (v := iI 0) hx hb dX7_clearText_6 rfl ?_
  refine va_put (v := .int (iI 0)) (ty := .int) (ci := 7) (C := RX7) (T := TX7) (N := 12) hx hb hts imX7_clearText_X7 tyX7 tyX7_ok nmX7 hown hK hP hD hS 0 rfl rfl 7 (by decide) k1 (fun _ h9 => h9) rfl (tyX7_ok 7 (by decide)) rfl rfl (Nat.le_of_ble_eq_true rfl) dX7_clearText_7 (fun H locs hP hD hS => ?_)
  have hP : va_P G.1 vwCl (W7 G a (sS s 7 0)) H := hP
  have hD : va_D A (W7 G a (sS s 7 0)) := hD
  refine lv_iload_n hx hb dX7_clearText_10 rfl (lv_at hl 0 rfl) ?_
  exact zr_iret (z := (s.1 7)) hx hb hr hlocks hK (sS s 7 0) hP hD hS dX7_clearText_11 ⟨(r_s.1 7), (RG_S r_s rg_0), hwp⟩
theorem c_X7_clearText (l : Launch) (G : ZG) (a : Nat → Nat) (s : SS)   (r_s : RG s)   : ZI l G yX7_clearText wsX7_clearText 0 0 [.ref (a 0)] (W7 G a s) (fun _ : Unit => W7 G a (sS s 7 0)) (fun (z : Int) (_ : Unit) => z = (s.1 7) ∧ rg z ∧ RG (sS s 7 0)) := by
  refine ZI.fn (w1 := fun u : SS => W7 G a u) (fun z u hq => ?_) (c0_X7_clearText l G a s (fun z o0 => z = (s.1 7) ∧ o0 = (sS s 7 0)) r_s  (sp_X7_clearText s r_s  ))
  obtain ⟨rz, ro0, ⟨ez, eo0⟩⟩ := hq
  exact ⟨by rw [eo0], ⟨ez, rz, (by rw [← eo0]; exact ro0)⟩⟩
theorem imX7_merge_X7 : ∀ w ∈ wsX70, w ∈ wsX7_merge := fun _ h => (List.mem_cons_of_mem _ (List.mem_append_right _ h))
theorem hdX7_merge : yX7_merge.cls = RX7 ∧ yX7_merge.cls ≠ "java/lang/invoke/MethodHandle" ∧ yX7_merge.cls ≠ "java/lang/invoke/VarHandle" ∧ (parseMethodDescriptor yX7_merge.desc).map (fun d => d.parameters.length) = some 0 := by decide +kernel
set_option maxRecDepth 100000 in
set_option maxHeartbeats 4000000 in
theorem c0_X7_merge (l : Launch) (G : ZG) (a : Nat → Nat) (s : SS)  (P : Int → SS → Prop) (r_s : RG s)  (hwp : wp_X7_merge s P) : ZI l G yX7_merge wsX7_merge 5 114 [.ref (a 0)] (W7 G a s) (fun u : SS => W7 G a u) (fun (z : Int) (u : SS) => rg z ∧ RG u ∧ P z u) := by
  unfold wp_X7_merge at hwp
  refine zm_i (cc := cX7_merge) (maxL := 1) (ret := some .int) (own := RX7) (lvs := [(0, .ref (a 0))]) (by decide) rfl rfl (Nat.le_of_ble_eq_true rfl) rfl ?_
  intro p e sT m args below meth c ls A hx hb hr hml hown hts hlocks hK hP hD hS hA hl
  have k1 := hts (.fieldLink RX7 7 "GrantedSortModel" "z" "[I") (List.mem_of_getElem? (i := 1) rfl)
  refine lv_aload_n hx hb dX7_merge_0 rfl (lv_at hl 0 rfl) ?_
  refine va_get (v := .ref (a 1)) (ci := 7) (C := RX7) (T := TX7) (N := 12) hx hb hts imX7_merge_X7 hown hK hP 0 rfl rfl 0 (by decide) k1 (fun _ h9 => h9) rfl dX7_merge_1 ?_
  refine lv_iconst (v := iI 2) hx hb dX7_merge_4 rfl ?_
  refine zr_iald (n := 370) (f := (s.2 0)) (i := 2) hx hb hK hP 1 rfl rg_2 ⟨by decide, by decide⟩ dX7_merge_5 ?_
  refine lv_iconst (v := iI 1) hx hb dX7_merge_6 rfl ?_
  refine zr_icmp_eq (tgt := 41) (x := (s.2 0) 2) (y := 1) hx hb ((r_s.2 0) 2) rg_1 dX7_merge_7 (by decide) (fun c1 => ?_) (fun c1 => ?_)
  · have h4 := hwp.1 c1
    refine lv_bipush (v := iI (-3)) hx hb dX7_merge_41 (by decide) ?_
    exact zr_iret (z := (-3)) hx hb hr hlocks hK (s) hP hD hS dX7_merge_43 ⟨rg_m3, r_s, h4⟩
  · have h5 := hwp.2 c1
    refine lv_aload_n hx hb dX7_merge_10 rfl (lv_at hl 0 rfl) ?_
    refine va_get (v := .ref (a 1)) (ci := 7) (C := RX7) (T := TX7) (N := 12) hx hb hts imX7_merge_X7 hown hK hP 0 rfl rfl 0 (by decide) k1 (fun _ h9 => h9) rfl dX7_merge_11 ?_
    refine lv_iconst (v := iI 5) hx hb dX7_merge_14 rfl ?_
    refine zr_iald (n := 370) (f := (s.2 0)) (i := 5) hx hb hK hP 1 rfl rg_5 ⟨by decide, by decide⟩ dX7_merge_15 ?_
    refine lv_iconst (v := iI 1) hx hb dX7_merge_16 rfl ?_
    refine zr_icmp_eq (tgt := 41) (x := (s.2 0) 5) (y := 1) hx hb ((r_s.2 0) 5) rg_1 dX7_merge_17 (by decide) (fun c6 => ?_) (fun c6 => ?_)
    · have h9 := h5.1 c6
      refine lv_bipush (v := iI (-3)) hx hb dX7_merge_41 (by decide) ?_
      exact zr_iret (z := (-3)) hx hb hr hlocks hK (s) hP hD hS dX7_merge_43 ⟨rg_m3, r_s, h9⟩
    · have h10 := h5.2 c6
      refine lv_aload_n hx hb dX7_merge_20 rfl (lv_at hl 0 rfl) ?_
      obtain ⟨b11, h12⟩ := h10
      refine zc_vi (As := []) (rest := []) (w2 := fun u_13 => W7 G a s) (c_X7_runMany l G a s r_s b11) ⟨hx, hb, hml, hown, hts⟩ (cwV 0 hts gX7_merge_X7_runMany rfl rfl rfl hdX7_runMany ⟨Nat.le_of_ble_eq_true rfl, Nat.le_of_ble_eq_true rfl⟩) hK hP hD hS hA (q0 := 0) rfl rfl [0, 1, 2, 3, 4, 5, 6] [] [0, 1, 2, 3, 4, 5, 6] rfl rfl rfl rfl (by decide) (fun _ => rfl) rfl rfl hl.1 rfl (Nat.le_of_ble_eq_true rfl) dX7_merge_21 ⟨Nat.zero_le _, Nat.zero_le _⟩ (fun z14 u_13 H locs hw hP hD hS => ?_)
      obtain ⟨rfl, r15⟩ := hw
      have hP : va_P G.1 vwCl (W7 G a s) H := hP
      have hD : va_D A (W7 G a s) := hD
      refine lv_iconst (v := iI 2) hx hb dX7_merge_24 rfl ?_
      refine zr_icmp_lt (tgt := 41) (x := manyZ (s.2 0) 0) (y := 2) hx hb r15 rg_2 dX7_merge_25 (by decide) (fun c16 => ?_) (fun c16 => ?_)
      · have h19 := h12.1 c16
        refine lv_bipush (v := iI (-3)) hx hb dX7_merge_41 (by decide) ?_
        exact zr_iret (z := (-3)) hx hb hr hlocks hK (s) hP hD hS dX7_merge_43 ⟨rg_m3, r_s, h19⟩
      · have h20 := h12.2 c16
        refine lv_aload_n hx hb dX7_merge_28 rfl (lv_at hl 0 rfl) ?_
        refine va_get (v := .ref (a 1)) (ci := 7) (C := RX7) (T := TX7) (N := 12) hx hb hts imX7_merge_X7 hown hK hP 0 rfl rfl 0 (by decide) k1 (fun _ h9 => h9) rfl dX7_merge_29 ?_
        refine lv_iconst (v := iI 0) hx hb dX7_merge_32 rfl ?_
        refine zr_iald (n := 370) (f := (s.2 0)) (i := 0) hx hb hK hP 1 rfl rg_0 ⟨by decide, by decide⟩ dX7_merge_33 ?_
        obtain ⟨b21, h22⟩ := h20
        refine zc_si (As := [.int (iI ((s.2 0) 0))]) (rest := []) (c_X7_waysOf l G ((s.2 0) 0) ((r_s.2 0) 0) b21) ⟨hx, hb, hml, hown, hts⟩ (va_cwS 1 hts gX7_merge_X7_waysOf rfl rfl rfl hdX7_waysOf ⟨Nat.le_of_ble_eq_true rfl, Nat.le_of_ble_eq_true rfl⟩) hK hP hD hS hA rfl hl.1 rfl (Nat.le_of_ble_eq_true rfl) dX7_merge_34 ⟨Nat.zero_le _, Nat.zero_le _⟩ (fun z24 H locs hw hP hD hS => ?_)
        obtain ⟨rfl, r25⟩ := hw
        have hP : va_P G.1 vwCl (W7 G a s) H := hP
        have hD : va_D A (W7 G a s) := hD
        refine lv_iconst (v := iI 2) hx hb dX7_merge_37 rfl ?_
        refine zr_icmp_ge (tgt := 44) (x := waysZ ((s.2 0) 0)) (y := 2) hx hb r25 rg_2 dX7_merge_38 (by decide) (fun c26 => ?_) (fun c26 => ?_)
        · have h29 := h22.2 c26
          refine lv_aload_n hx hb dX7_merge_44 rfl (lv_at hl 0 rfl) ?_
          obtain ⟨b30, h31⟩ := h29
          refine zc_vv (As := []) (rest := []) (w2 := fun u_33 => W7 G a (sS (sA s 1 (recP (s.2 1) (s.1 2) (s.2 0))) 2 (recN (s.1 2) + 1))) (c_X7_record l G a s r_s b30) ⟨hx, hb, hml, hown, hts⟩ (cwV 0 hts gX7_merge_X7_record rfl rfl rfl hdX7_record ⟨Nat.le_of_ble_eq_true rfl, Nat.le_of_ble_eq_true rfl⟩) hK hP hD hS hA (q0 := 0) rfl rfl [0, 1, 2, 3, 4, 5, 6] [] [0, 1, 2, 3, 4, 5, 6] rfl rfl rfl rfl (by decide) (fun _ => rfl) rfl rfl hl.1 rfl (Nat.le_of_ble_eq_true rfl) dX7_merge_45 ⟨Nat.zero_le _, Nat.zero_le _⟩ (fun u_33 H locs hw hP hD hS => ?_)
          have r32 := hw
          have hP : va_P G.1 vwCl (W7 G a (sS (sA s 1 (recP (s.2 1) (s.1 2) (s.2 0))) 2 (recN (s.1 2) + 1))) H := hP
          have hD : va_D A (W7 G a (sS (sA s 1 (recP (s.2 1) (s.1 2) (s.2 0))) 2 (recN (s.1 2) + 1))) := hD
          refine lv_aload_n hx hb dX7_merge_48 rfl (lv_at hl 0 rfl) ?_
          obtain ⟨b35, h36⟩ := h31
          obtain ⟨b37, h38⟩ := h36
          refine zc_vv (As := []) (rest := []) (w2 := fun u_40 => W7 G a (sS (sA (sA s 0 (begZ (s.2 0))) 1 (recP (s.2 1) (s.1 2) (s.2 0))) 2 (recN (s.1 2) + 1))) (c_X7_begins l G a (sS (sA s 1 (recP (s.2 1) (s.1 2) (s.2 0))) 2 (recN (s.1 2) + 1)) (RG_S (RG_A r_s (r32.2 1)) (r32.1 2)) b11 b35 b37) ⟨hx, hb, hml, hown, hts⟩ (cwV 0 hts gX7_merge_X7_begins rfl rfl rfl hdX7_begins ⟨Nat.le_of_ble_eq_true rfl, Nat.le_of_ble_eq_true rfl⟩) hK hP hD hS hA (q0 := 0) rfl rfl [0, 1, 2, 3, 4, 5, 6] [] [0, 1, 2, 3, 4, 5, 6] rfl rfl rfl rfl (by decide) (fun _ => rfl) rfl rfl hl.1 rfl (Nat.le_of_ble_eq_true rfl) dX7_merge_49 ⟨Nat.zero_le _, Nat.zero_le _⟩ (fun u_40 H locs hw hP hD hS => ?_)
          have r39 := hw
          have hP : va_P G.1 vwCl (W7 G a (sS (sA (sA s 0 (begZ (s.2 0))) 1 (recP (s.2 1) (s.1 2) (s.2 0))) 2 (recN (s.1 2) + 1))) H := hP
          have hD : va_D A (W7 G a (sS (sA (sA s 0 (begZ (s.2 0))) 1 (recP (s.2 1) (s.1 2) (s.2 0))) 2 (recN (s.1 2) + 1))) := hD
          refine lv_aload_n hx hb dX7_merge_52 rfl (lv_at hl 0 rfl) ?_
          refine va_get (v := .ref (a 1)) (ci := 7) (C := RX7) (T := TX7) (N := 12) hx hb hts imX7_merge_X7 hown hK hP 0 rfl rfl 0 (by decide) k1 (fun _ h9 => h9) rfl dX7_merge_53 ?_
          refine lv_bipush (v := iI 6) hx hb dX7_merge_56 (by decide) ?_
          refine zr_iald (n := 370) (f := begZ (s.2 0)) (i := 6) hx hb hK hP 1 rfl rg_6 ⟨by decide, by decide⟩ dX7_merge_58 ?_
          exact zr_iret (z := (begZ (s.2 0)) 6) hx hb hr hlocks hK (sS (sA (sA s 0 (begZ (s.2 0))) 1 (recP (s.2 1) (s.1 2) (s.2 0))) 2 (recN (s.1 2) + 1)) hP hD hS dX7_merge_59 ⟨((r39.2 0) 6), (RG_S (RG_A (RG_A r_s (r39.2 0)) (r32.2 1)) (r32.1 2)), h38⟩
        · have h42 := h22.1 c26
          refine lv_bipush (v := iI (-3)) hx hb dX7_merge_41 (by decide) ?_
          exact zr_iret (z := (-3)) hx hb hr hlocks hK (s) hP hD hS dX7_merge_43 ⟨rg_m3, r_s, h42⟩
theorem c_X7_merge (l : Launch) (G : ZG) (a : Nat → Nat) (s : SS)   (r_s : RG s)  (p0 : Vz (s.2 0)) (p1 : Bd (s.2 0) 50000) (p2 : 0 ≤ (s.1 2) ∧ (s.1 2) ≤ 4) : ZI l G yX7_merge wsX7_merge 5 114 [.ref (a 0)] (W7 G a s) (fun _ : Unit => W7 G a (if (s.2 0) 2 = 1 ∨ (s.2 0) 5 = 1 ∨ manyZ (s.2 0) 0 < 2 ∨ waysZ ((s.2 0) 0) < 2 then s else nxM s (begZ (s.2 0)))) (fun (z : Int) (_ : Unit) => z = (if (s.2 0) 2 = 1 ∨ (s.2 0) 5 = 1 ∨ manyZ (s.2 0) 0 < 2 ∨ waysZ ((s.2 0) 0) < 2 then -3 else begN (s.2 0)) ∧ rg z ∧ RG (if (s.2 0) 2 = 1 ∨ (s.2 0) 5 = 1 ∨ manyZ (s.2 0) 0 < 2 ∨ waysZ ((s.2 0) 0) < 2 then s else nxM s (begZ (s.2 0)))) := by
  refine ZI.fn (w1 := fun u : SS => W7 G a u) (fun z u hq => ?_) (c0_X7_merge l G a s (fun z o0 => z = (if (s.2 0) 2 = 1 ∨ (s.2 0) 5 = 1 ∨ manyZ (s.2 0) 0 < 2 ∨ waysZ ((s.2 0) 0) < 2 then -3 else begN (s.2 0)) ∧ o0 = (if (s.2 0) 2 = 1 ∨ (s.2 0) 5 = 1 ∨ manyZ (s.2 0) 0 < 2 ∨ waysZ ((s.2 0) 0) < 2 then s else nxM s (begZ (s.2 0)))) r_s  (sp_X7_merge s r_s  p0 p1 p2))
  obtain ⟨rz, ro0, ⟨ez, eo0⟩⟩ := hq
  exact ⟨by rw [eo0], ⟨ez, rz, (by rw [← eo0]; exact ro0)⟩⟩
