theorem imX5_resize_X4 : ∀ w ∈ wsX40, w ∈ wsX5_resize := fun _ h => (List.mem_cons_of_mem _ (List.mem_append_left _ (List.mem_append_right _ h)))
theorem imX5_resize_X5 : ∀ w ∈ wsX50, w ∈ wsX5_resize := fun _ h => (List.mem_cons_of_mem _ (List.mem_append_left _ (List.mem_append_left _ (List.mem_append_right _ h))))
theorem hdX5_resize : yX5_resize.cls = RX5 ∧ yX5_resize.cls ≠ "java/lang/invoke/MethodHandle" ∧ yX5_resize.cls ≠ "java/lang/invoke/VarHandle" ∧ (parseMethodDescriptor yX5_resize.desc).map (fun d => d.parameters.length) = some 1 := by decide +kernel
set_option maxRecDepth 100000 in
set_option maxHeartbeats 4000000 in
theorem c0_X5_resize (l : Launch) (G : ZG) (a : Nat → Nat) (s : SS) (size : Int) (P : Int → SS → Prop) (r_s : RG s) (r_size : rg size) (hwp : wp_X5_resize s size P) : ZI l G yX5_resize wsX5_resize 4 89 [.ref (a 0), .int (iI size)] (W5 G a s) (fun u : SS => W5 G a u) (fun (z : Int) (u : SS) => rg z ∧ RG u ∧ P z u) := by
  unfold wp_X5_resize at hwp
  refine zm_i (cc := cX5_resize) (maxL := 2) (ret := some .int) (own := RX5) (lvs := [(0, .ref (a 0)), (1, .int (iI size))]) (by decide) rfl rfl (Nat.le_of_ble_eq_true rfl) rfl ?_
  intro p e sT m args below meth c ls A hx hb hr hml hown hts hlocks hK hP hD hS hA hl
  have k1 := hts (.fieldLink RX5 29 "GrantedSort$SortState" "memorySize" "I") (List.mem_of_getElem? (i := 1) rfl)
  have k2 := hts (.fieldLink RX5 25 "GrantedSort$SortState" "isCollecting" "Z") (List.mem_of_getElem? (i := 2) rfl)
  have k3 := hts (.fieldLink RX5 56 "GrantedSort$SortState" "rowsInMemory" "I") (List.mem_of_getElem? (i := 3) rfl)
  have k4 := hts (.fieldLink RX5 37 "GrantedSort$SortState" "inputs" "LGrantedSort$RunList;") (List.mem_of_getElem? (i := 4) rfl)
  have k5 := hts (.fieldLink RX5 83 "GrantedSort$RunList" "total" "I") (List.mem_of_getElem? (i := 5) rfl)
  refine lv_aload_n hx hb dX5_resize_0 rfl (lv_at hl 0 rfl) ?_
  refine lv_iload_n hx hb dX5_resize_1 rfl (lv_at hl 1 rfl) ?_
  refine va_put (v := .int (iI size)) (ty := .int) (ci := 5) (C := RX5) (T := TX5) (N := 16) hx hb hts imX5_resize_X5 tyX5 tyX5_ok nmX5 hown hK hP hD hS 0 rfl rfl 4 (by decide) k1 (fun _ h9 => h9) rfl (tyX5_ok 4 (by decide)) rfl rfl (Nat.le_of_ble_eq_true rfl) dX5_resize_2 (fun H locs hP hD hS => ?_)
  have hP : va_P G.1 vwCl (W5 G a (sS s 4 size)) H := hP
  have hD : va_D A (W5 G a (sS s 4 size)) := hD
  refine lv_aload_n hx hb dX5_resize_5 rfl (lv_at hl 0 rfl) ?_
  refine va_get (v := .int (iI (s.1 3))) (ci := 5) (C := RX5) (T := TX5) (N := 16) hx hb hts imX5_resize_X5 hown hK hP 0 rfl rfl 3 (by decide) k2 (fun _ h9 => h9) rfl dX5_resize_6 ?_
  refine zr_if_eq (tgt := 27) (x := (s.1 3)) hx hb (r_s.1 3) dX5_resize_9 (by decide) (fun c1 => ?_) (fun c1 => ?_)
  · have h4 := hwp.1 c1
    refine lv_aload_n hx hb dX5_resize_27 rfl (lv_at hl 0 rfl) ?_
    refine va_get (v := .ref (a 10)) (ci := 5) (C := RX5) (T := TX5) (N := 16) hx hb hts imX5_resize_X5 hown hK hP 0 rfl rfl 7 (by decide) k4 (fun _ h9 => h9) rfl dX5_resize_28 ?_
    refine va_get (v := .int (iI (s.1 18))) (ci := 4) (C := RX4) (T := TX4) (N := 4) hx hb hts imX5_resize_X4 hown hK hP 10 rfl rfl 3 (by decide) k5 (fun _ h9 => h9) rfl dX5_resize_31 ?_
    refine lv_aload_n hx hb dX5_resize_34 rfl (lv_at hl 0 rfl) ?_
    obtain ⟨b5, h6⟩ := h4
    refine zc_vi (As := []) (rest := [.int (iI (s.1 18))]) (w2 := fun u_7 => W5 G a (sS s 4 size)) (c_X5_ways l G a (sS s 4 size) (RG_S r_s r_size) b5) ⟨hx, hb, hml, hown, hts⟩ (cwV 0 hts gX5_resize_X5_ways rfl rfl rfl hdX5_ways ⟨Nat.le_of_ble_eq_true rfl, Nat.le_of_ble_eq_true rfl⟩) hK hP hD hS hA (q0 := 0) rfl rfl [0, 1, 2, 3, 4, 5, 6, 7, 8, 9, 10, 11, 12, 13] [] [0, 1, 2, 3, 4, 5, 6, 7, 8, 9, 10, 11, 12, 13] rfl rfl rfl rfl (by decide) (fun _ => rfl) rfl rfl hl.1 rfl (Nat.le_of_ble_eq_true rfl) dX5_resize_35 ⟨Nat.zero_le _, Nat.zero_le _⟩ (fun z8 u_7 H locs hw hP hD hS => ?_)
    obtain ⟨rfl, r9⟩ := hw
    have hP : va_P G.1 vwCl (W5 G a (sS s 4 size)) H := hP
    have hD : va_D A (W5 G a (sS s 4 size)) := hD
    refine zr_icmp_le (tgt := 48) (x := (s.1 18)) (y := waysZ size) hx hb (r_s.1 18) r9 dX5_resize_38 (by decide) (fun c10 => ?_) (fun c10 => ?_)
    · have h13 := h6.2 c10
      refine lv_iconst (v := iI 0) hx hb dX5_resize_48 rfl ?_
      exact zr_iret (z := 0) hx hb hr hlocks hK (sS s 4 size) hP hD hS dX5_resize_49 ⟨rg_0, (RG_S r_s r_size), h13⟩
    · have h14 := h6.1 c10
      refine lv_aload_n hx hb dX5_resize_41 rfl (lv_at hl 0 rfl) ?_
      obtain ⟨g15, h16⟩ := h14
      obtain ⟨b17, h18⟩ := h16
      obtain ⟨b19, h20⟩ := h18
      obtain ⟨b21, h22⟩ := h20
      refine zc_vi (As := []) (rest := []) (w2 := fun u_24 => W5 G a u_24) (c_X5_cutShort l G a (sS s 4 size) g15 (RG_S r_s r_size) b17 b19 b21) ⟨hx, hb, hml, hown, hts⟩ (cwV 0 hts gX5_resize_X5_cutShort rfl rfl rfl hdX5_cutShort ⟨Nat.le_of_ble_eq_true rfl, Nat.le_of_ble_eq_true rfl⟩) hK hP hD hS hA (q0 := 0) rfl rfl [0, 1, 2, 3, 4, 5, 6, 7, 8, 9, 10, 11, 12, 13] [] [0, 1, 2, 3, 4, 5, 6, 7, 8, 9, 10, 11, 12, 13] rfl rfl rfl rfl (by decide) (fun _ => rfl) rfl rfl hl.1 rfl (Nat.le_of_ble_eq_true rfl) dX5_resize_42 ⟨Nat.zero_le _, Nat.zero_le _⟩ (fun z25 u_24 H locs hw hP hD hS => ?_)
      obtain ⟨u_s23, rfl⟩ : ∃ q, q = u_24 := ⟨_, rfl⟩
      obtain ⟨r27, ru_s23, h26⟩ := hw
      have h28 := h22 z25 u_s23 r27 ru_s23 h26
      have hP : va_P G.1 vwCl (W5 G a u_s23) H := hP
      have hD : va_D A (W5 G a u_s23) := hD
      refine lv_goto (tgt := 49) hx hb dX5_resize_45 (by decide) ?_
      exact zr_iret (z := z25) hx hb hr hlocks hK (u_s23) hP hD hS dX5_resize_49 ⟨r27, ru_s23, h28⟩
  · have h29 := hwp.2 c1
    refine lv_aload_n hx hb dX5_resize_12 rfl (lv_at hl 0 rfl) ?_
    refine va_get (v := .int (iI (s.1 6))) (ci := 5) (C := RX5) (T := TX5) (N := 16) hx hb hts imX5_resize_X5 hown hK hP 0 rfl rfl 6 (by decide) k3 (fun _ h9 => h9) rfl dX5_resize_13 ?_
    refine lv_iload_n hx hb dX5_resize_16 rfl (lv_at hl 1 rfl) ?_
    refine zr_icmp_le (tgt := 27) (x := (s.1 6)) (y := size) hx hb (r_s.1 6) r_size dX5_resize_17 (by decide) (fun c30 => ?_) (fun c30 => ?_)
    · have h33 := h29.2 c30
      refine lv_aload_n hx hb dX5_resize_27 rfl (lv_at hl 0 rfl) ?_
      refine va_get (v := .ref (a 10)) (ci := 5) (C := RX5) (T := TX5) (N := 16) hx hb hts imX5_resize_X5 hown hK hP 0 rfl rfl 7 (by decide) k4 (fun _ h9 => h9) rfl dX5_resize_28 ?_
      refine va_get (v := .int (iI (s.1 18))) (ci := 4) (C := RX4) (T := TX4) (N := 4) hx hb hts imX5_resize_X4 hown hK hP 10 rfl rfl 3 (by decide) k5 (fun _ h9 => h9) rfl dX5_resize_31 ?_
      refine lv_aload_n hx hb dX5_resize_34 rfl (lv_at hl 0 rfl) ?_
      obtain ⟨b34, h35⟩ := h33
      refine zc_vi (As := []) (rest := [.int (iI (s.1 18))]) (w2 := fun u_36 => W5 G a (sS s 4 size)) (c_X5_ways l G a (sS s 4 size) (RG_S r_s r_size) b34) ⟨hx, hb, hml, hown, hts⟩ (cwV 0 hts gX5_resize_X5_ways rfl rfl rfl hdX5_ways ⟨Nat.le_of_ble_eq_true rfl, Nat.le_of_ble_eq_true rfl⟩) hK hP hD hS hA (q0 := 0) rfl rfl [0, 1, 2, 3, 4, 5, 6, 7, 8, 9, 10, 11, 12, 13] [] [0, 1, 2, 3, 4, 5, 6, 7, 8, 9, 10, 11, 12, 13] rfl rfl rfl rfl (by decide) (fun _ => rfl) rfl rfl hl.1 rfl (Nat.le_of_ble_eq_true rfl) dX5_resize_35 ⟨Nat.zero_le _, Nat.zero_le _⟩ (fun z37 u_36 H locs hw hP hD hS => ?_)
      obtain ⟨rfl, r38⟩ := hw
      have hP : va_P G.1 vwCl (W5 G a (sS s 4 size)) H := hP
      have hD : va_D A (W5 G a (sS s 4 size)) := hD
      refine zr_icmp_le (tgt := 48) (x := (s.1 18)) (y := waysZ size) hx hb (r_s.1 18) r38 dX5_resize_38 (by decide) (fun c39 => ?_) (fun c39 => ?_)
      · have h42 := h35.2 c39
        refine lv_iconst (v := iI 0) hx hb dX5_resize_48 rfl ?_
        exact zr_iret (z := 0) hx hb hr hlocks hK (sS s 4 size) hP hD hS dX5_resize_49 ⟨rg_0, (RG_S r_s r_size), h42⟩
      · have h43 := h35.1 c39
        refine lv_aload_n hx hb dX5_resize_41 rfl (lv_at hl 0 rfl) ?_
        obtain ⟨g44, h45⟩ := h43
        obtain ⟨b46, h47⟩ := h45
        obtain ⟨b48, h49⟩ := h47
        obtain ⟨b50, h51⟩ := h49
        refine zc_vi (As := []) (rest := []) (w2 := fun u_53 => W5 G a u_53) (c_X5_cutShort l G a (sS s 4 size) g44 (RG_S r_s r_size) b46 b48 b50) ⟨hx, hb, hml, hown, hts⟩ (cwV 0 hts gX5_resize_X5_cutShort rfl rfl rfl hdX5_cutShort ⟨Nat.le_of_ble_eq_true rfl, Nat.le_of_ble_eq_true rfl⟩) hK hP hD hS hA (q0 := 0) rfl rfl [0, 1, 2, 3, 4, 5, 6, 7, 8, 9, 10, 11, 12, 13] [] [0, 1, 2, 3, 4, 5, 6, 7, 8, 9, 10, 11, 12, 13] rfl rfl rfl rfl (by decide) (fun _ => rfl) rfl rfl hl.1 rfl (Nat.le_of_ble_eq_true rfl) dX5_resize_42 ⟨Nat.zero_le _, Nat.zero_le _⟩ (fun z54 u_53 H locs hw hP hD hS => ?_)
        obtain ⟨u_s52, rfl⟩ : ∃ q, q = u_53 := ⟨_, rfl⟩
        obtain ⟨r56, ru_s52, h55⟩ := hw
        have h57 := h51 z54 u_s52 r56 ru_s52 h55
        have hP : va_P G.1 vwCl (W5 G a u_s52) H := hP
        have hD : va_D A (W5 G a u_s52) := hD
        refine lv_goto (tgt := 49) hx hb dX5_resize_45 (by decide) ?_
        exact zr_iret (z := z54) hx hb hr hlocks hK (u_s52) hP hD hS dX5_resize_49 ⟨r56, ru_s52, h57⟩
    · have h58 := h29.1 c30
      refine lv_aload_n hx hb dX5_resize_20 rfl (lv_at hl 0 rfl) ?_
      obtain ⟨g59, h60⟩ := h58
      obtain ⟨b61, h62⟩ := h60
      obtain ⟨b63, h64⟩ := h62
      obtain ⟨b65, h66⟩ := h64
      refine zc_vi (As := []) (rest := []) (w2 := fun u_68 => W5 G a u_68) (c_X5_writeMemory l G a (sS s 4 size) g59 (RG_S r_s r_size) b61 b63 b65) ⟨hx, hb, hml, hown, hts⟩ (cwV 0 hts gX5_resize_X5_writeMemory rfl rfl rfl hdX5_writeMemory ⟨Nat.le_of_ble_eq_true rfl, Nat.le_of_ble_eq_true rfl⟩) hK hP hD hS hA (q0 := 0) rfl rfl [0, 1, 2, 3, 4, 5, 6, 7, 8, 9, 10, 11, 12, 13] [] [0, 1, 2, 3, 4, 5, 6, 7, 8, 9, 10, 11, 12, 13] rfl rfl rfl rfl (by decide) (fun _ => rfl) rfl rfl hl.1 rfl (Nat.le_of_ble_eq_true rfl) dX5_resize_21 ⟨Nat.zero_le _, Nat.zero_le _⟩ (fun z69 u_68 H locs hw hP hD hS => ?_)
      obtain ⟨u_s67, rfl⟩ : ∃ q, q = u_68 := ⟨_, rfl⟩
      obtain ⟨r71, ru_s67, h70⟩ := hw
      have h72 := h66 z69 u_s67 r71 ru_s67 h70
      have hP : va_P G.1 vwCl (W5 G a u_s67) H := hP
      have hD : va_D A (W5 G a u_s67) := hD
      refine lv_pop hx hb dX5_resize_24 rfl ?_
      refine lv_iconst (v := iI 1) hx hb dX5_resize_25 rfl ?_
      exact zr_iret (z := 1) hx hb hr hlocks hK (u_s67) hP hD hS dX5_resize_26 ⟨rg_1, ru_s67, h72⟩
theorem c_X5_resize (l : Launch) (G : ZG) (a : Nat → Nat) (s : SS) (size : Int) (z : Int → Int) (r_s : RG s) (r_size : rg size) (p0 : Rep s z) (p1 : Vz z) (p2 : z 4 + 1 + manyZ z 1 ≤ 900000000) (p3 : rg (z 7 + rowsAt z 1)) (p4 : rg (z 9 + 1)) (p5 : 2 ≤ size ∧ size ≤ 20) : ZI l G yX5_resize wsX5_resize 4 89 [.ref (a 0), .int (iI size)] (W5 G a s) (fun u : SS => W5 G a u) (fun (zq : Int) (u : SS) => rg zq ∧ RG u ∧ (zq = graA z size ∧ Rep u (graZ z size))) :=
  c0_X5_resize l G a s size (fun r s' => r = graA z size ∧ Rep s' (graZ z size)) r_s r_size (sp_X5_resize s size z r_s r_size p0 p1 p2 p3 p4 p5)
