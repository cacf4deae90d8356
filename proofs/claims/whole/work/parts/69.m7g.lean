theorem imX7_readItem_X7 : ∀ w ∈ wsX70, w ∈ wsX7_readItem := fun _ h => (List.mem_cons_of_mem _ (List.mem_append_right _ h))
theorem hdX7_readItem : yX7_readItem.cls = RX7 ∧ yX7_readItem.cls ≠ "java/lang/invoke/MethodHandle" ∧ yX7_readItem.cls ≠ "java/lang/invoke/VarHandle" ∧ (parseMethodDescriptor yX7_readItem.desc).map (fun d => d.parameters.length) = some 0 := by decide +kernel
set_option maxRecDepth 100000 in
set_option maxHeartbeats 4000000 in
theorem c0_X7_readItem (l : Launch) (G : ZG) (a : Nat → Nat) (s : SS)  (P : SS → Prop) (r_s : RG s)  (hwp : wp_X7_readItem s P) : ZV l G yX7_readItem wsX7_readItem 3 66 [.ref (a 0)] (W7 G a s) (fun u : SS => W7 G a u) (fun (u : SS) => RG u ∧ P u) := by
  unfold wp_X7_readItem at hwp
  refine zm_v (cc := cX7_readItem) (maxL := 3) (ret := none) (own := RX7) (lvs := [(0, .ref (a 0))]) (by decide) rfl rfl (Nat.le_of_ble_eq_true rfl) rfl ?_
  intro p e sT m args below meth c ls A hx hb hr hml hown hts hlocks hK hP hD hS hA hl
  have k1 := hts (.fieldLink RX7 158 "GrantedSortModel" "toldMany" "I") (List.mem_of_getElem? (i := 1) rfl)
  have k2 := hts (.fieldLink RX7 26 "GrantedSortModel" "told" "[I") (List.mem_of_getElem? (i := 2) rfl)
  have k3 := hts (.fieldLink RX7 148 "GrantedSortModel" "wrong" "I") (List.mem_of_getElem? (i := 3) rfl)
  have k4 := hts (.fieldLink RX7 142 "GrantedSortModel" "spot" "I") (List.mem_of_getElem? (i := 4) rfl)
  refine lv_iconst (v := iI 3) hx hb dX7_readItem_0 rfl ?_
  refine lv_aload_n hx hb dX7_readItem_1 rfl (lv_at hl 0 rfl) ?_
  refine va_get (v := .int (iI (s.1 9))) (ci := 7) (C := RX7) (T := TX7) (N := 12) hx hb hts imX7_readItem_X7 hown hK hP 0 rfl rfl 9 (by decide) k1 (fun _ h9 => h9) rfl dX7_readItem_2 ?_
  refine zr_imul (x := 3) (y := (s.1 9)) hx hb dX7_readItem_5 ?_
  obtain ⟨r1, h2⟩ := hwp
  refine lv_istore_n (lv' := [(1, .int (iI (3 * (s.1 9)))), (0, .ref (a 0))]) hx hb dX7_readItem_6 rfl hl (by decide) rfl (fun ls hl => ?_)
  refine lv_aload_n hx hb dX7_readItem_7 rfl (lv_at hl 1 rfl) ?_
  obtain ⟨b3, h4⟩ := h2
  obtain ⟨b5, h6⟩ := h4
  obtain ⟨b7, h8⟩ := h6
  obtain ⟨b9, h10⟩ := h8
  obtain ⟨b11, h12⟩ := h10
  refine zc_vi (As := []) (rest := []) (w2 := fun u_14 => W7 G a u_14) (c_X7_key l G a s r_s b3 b5 b7 b9 b11) ⟨hx, hb, hml, hown, hts⟩ (cwV 0 hts gX7_readItem_X7_key rfl rfl rfl hdX7_key ⟨Nat.le_of_ble_eq_true rfl, Nat.le_of_ble_eq_true rfl⟩) hK hP hD hS hA (q0 := 0) rfl rfl [0, 1, 2, 3, 4, 5, 6] [] [0, 1, 2, 3, 4, 5, 6] rfl rfl rfl rfl (by decide) (fun _ => rfl) rfl rfl hl.1 rfl (Nat.le_of_ble_eq_true rfl) dX7_readItem_8 ⟨Nat.zero_le _, Nat.zero_le _⟩ (fun z15 u_14 H locs hw hP hD hS => ?_)
  obtain ⟨u_s13, rfl⟩ : ∃ q, q = u_14 := ⟨_, rfl⟩
  obtain ⟨r17, ru_s13, h16⟩ := hw
  have h18 := h12 z15 u_s13 r17 ru_s13 h16
  have hP : va_P G.1 vwCl (W7 G a u_s13) H := hP
  have hD : va_D A (W7 G a u_s13) := hD
  refine lv_istore_n (lv' := [(2, .int (iI z15)), (1, .int (iI (3 * (s.1 9)))), (0, .ref (a 0))]) hx hb dX7_readItem_11 rfl hl (by decide) rfl (fun ls hl => ?_)
  refine lv_aload_n hx hb dX7_readItem_12 rfl (lv_at hl 2 rfl) ?_
  refine va_get (v := .ref (a 6)) (ci := 7) (C := RX7) (T := TX7) (N := 12) hx hb hts imX7_readItem_X7 hown hK hP 0 rfl rfl 8 (by decide) k2 (fun _ h9 => h9) rfl dX7_readItem_13 ?_
  refine lv_iload_n hx hb dX7_readItem_16 rfl (lv_at hl 1 rfl) ?_
  refine lv_iload_n hx hb dX7_readItem_17 rfl (lv_at hl 0 rfl) ?_
  obtain ⟨b19, h20⟩ := h18
  refine zr_iast (n := 123) (f := (u_s13.2 8)) (i := 3 * (s.1 9)) (x := z15) hx hb hK hP hD hS 6 rfl r1 b19 dX7_readItem_18 (fun H locs hP hD hS => ?_)
  have hP : va_P G.1 vwCl (W7 G a (sA u_s13 8 (uZ (u_s13.2 8) (3 * (s.1 9)) z15))) H := hP
  have hD : va_D A (W7 G a (sA u_s13 8 (uZ (u_s13.2 8) (3 * (s.1 9)) z15))) := hD
  refine lv_aload_n hx hb dX7_readItem_19 rfl (lv_at hl 2 rfl) ?_
  refine va_get (v := .ref (a 6)) (ci := 7) (C := RX7) (T := TX7) (N := 12) hx hb hts imX7_readItem_X7 hown hK hP 0 rfl rfl 8 (by decide) k2 (fun _ h9 => h9) rfl dX7_readItem_20 ?_
  refine lv_iload_n hx hb dX7_readItem_23 rfl (lv_at hl 1 rfl) ?_
  refine lv_iconst (v := iI 1) hx hb dX7_readItem_24 rfl ?_
  refine zr_iadd (x := 3 * (s.1 9)) (y := 1) hx hb dX7_readItem_25 ?_
  obtain ⟨r21, h22⟩ := h20
  refine lv_iconst (v := iI 1) hx hb dX7_readItem_26 rfl ?_
  obtain ⟨b23, h24⟩ := h22
  refine zr_iast (n := 123) (f := uZ (u_s13.2 8) (3 * (s.1 9)) z15) (i := (3 * (s.1 9)) + 1) (x := 1) hx hb hK hP hD hS 6 rfl r21 b23 dX7_readItem_27 (fun H locs hP hD hS => ?_)
  have hP : va_P G.1 vwCl (W7 G a (sA u_s13 8 (uZ (uZ (u_s13.2 8) (3 * (s.1 9)) z15) ((3 * (s.1 9)) + 1) 1))) H := hP
  have hD : va_D A (W7 G a (sA u_s13 8 (uZ (uZ (u_s13.2 8) (3 * (s.1 9)) z15) ((3 * (s.1 9)) + 1) 1))) := hD
  refine lv_aload_n hx hb dX7_readItem_28 rfl (lv_at hl 2 rfl) ?_
  refine va_get (v := .ref (a 6)) (ci := 7) (C := RX7) (T := TX7) (N := 12) hx hb hts imX7_readItem_X7 hown hK hP 0 rfl rfl 8 (by decide) k2 (fun _ h9 => h9) rfl dX7_readItem_29 ?_
  refine lv_iload_n hx hb dX7_readItem_32 rfl (lv_at hl 1 rfl) ?_
  refine lv_iconst (v := iI 2) hx hb dX7_readItem_33 rfl ?_
  refine zr_iadd (x := 3 * (s.1 9)) (y := 2) hx hb dX7_readItem_34 ?_
  obtain ⟨r25, h26⟩ := h24
  refine lv_iconst (v := iI 0) hx hb dX7_readItem_35 rfl ?_
  obtain ⟨b27, h28⟩ := h26
  refine zr_iast (n := 123) (f := uZ (uZ (u_s13.2 8) (3 * (s.1 9)) z15) ((3 * (s.1 9)) + 1) 1) (i := (3 * (s.1 9)) + 2) (x := 0) hx hb hK hP hD hS 6 rfl r25 b27 dX7_readItem_36 (fun H locs hP hD hS => ?_)
  have hP : va_P G.1 vwCl (W7 G a (sA u_s13 8 (uZ (uZ (uZ (u_s13.2 8) (3 * (s.1 9)) z15) ((3 * (s.1 9)) + 1) 1) ((3 * (s.1 9)) + 2) 0))) H := hP
  have hD : va_D A (W7 G a (sA u_s13 8 (uZ (uZ (uZ (u_s13.2 8) (3 * (s.1 9)) z15) ((3 * (s.1 9)) + 1) 1) ((3 * (s.1 9)) + 2) 0))) := hD
  refine lv_aload_n hx hb dX7_readItem_37 rfl (lv_at hl 2 rfl) ?_
  refine va_get (v := .int (iI (u_s13.1 11))) (ci := 7) (C := RX7) (T := TX7) (N := 12) hx hb hts imX7_readItem_X7 hown hK hP 0 rfl rfl 11 (by decide) k3 (fun _ h9 => h9) rfl dX7_readItem_38 ?_
  refine lv_bipush (v := iI (-6)) hx hb dX7_readItem_41 (by decide) ?_
  refine zr_icmp_ne (tgt := 80) (x := (u_s13.1 11)) (y := (-6)) hx hb (ru_s13.1 11) rg_m6 dX7_readItem_43 (by decide) (fun c29 => ?_) (fun c29 => ?_)
  · have h32 := h28.2 c29
    refine lv_aload_n hx hb dX7_readItem_80 rfl (lv_at hl 2 rfl) ?_
    refine va_get (v := .int (iI (u_s13.1 11))) (ci := 7) (C := RX7) (T := TX7) (N := 12) hx hb hts imX7_readItem_X7 hown hK hP 0 rfl rfl 11 (by decide) k3 (fun _ h9 => h9) rfl dX7_readItem_81 ?_
    refine lv_bipush (v := iI (-6)) hx hb dX7_readItem_84 (by decide) ?_
    refine zr_icmp_ne (tgt := 149) (x := (u_s13.1 11)) (y := (-6)) hx hb (ru_s13.1 11) rg_m6 dX7_readItem_86 (by decide) (fun _ => ?_) (fun c => absurd c c29)
    refine lv_aload_n hx hb dX7_readItem_149 rfl (lv_at hl 2 rfl) ?_
    refine lv_dup hx hb dX7_readItem_150 rfl ?_
    refine va_get (v := .int (iI (u_s13.1 9))) (ci := 7) (C := RX7) (T := TX7) (N := 12) hx hb hts imX7_readItem_X7 hown hK hP 0 rfl rfl 9 (by decide) k1 (fun _ h9 => h9) rfl dX7_readItem_151 ?_
    refine lv_iconst (v := iI 1) hx hb dX7_readItem_154 rfl ?_
    refine zr_iadd (x := (u_s13.1 9)) (y := 1) hx hb dX7_readItem_155 ?_
    obtain ⟨r33, h34⟩ := h32
    refine va_put (v := .int (iI ((u_s13.1 9) + 1))) (ty := .int) (ci := 7) (C := RX7) (T := TX7) (N := 12) hx hb hts imX7_readItem_X7 tyX7 tyX7_ok nmX7 hown hK hP hD hS 0 rfl rfl 9 (by decide) k1 (fun _ h9 => h9) rfl (tyX7_ok 9 (by decide)) rfl rfl (Nat.le_of_ble_eq_true rfl) dX7_readItem_156 (fun H locs hP hD hS => ?_)
    have hP : va_P G.1 vwCl (W7 G a (sS (sA u_s13 8 (uZ (uZ (uZ (u_s13.2 8) (3 * (s.1 9)) z15) ((3 * (s.1 9)) + 1) 1) ((3 * (s.1 9)) + 2) 0)) 9 ((u_s13.1 9) + 1))) H := hP
    have hD : va_D A (W7 G a (sS (sA u_s13 8 (uZ (uZ (uZ (u_s13.2 8) (3 * (s.1 9)) z15) ((3 * (s.1 9)) + 1) 1) ((3 * (s.1 9)) + 2) 0)) 9 ((u_s13.1 9) + 1))) := hD
    exact zr_vret hx hb hr hlocks hK (sS (sA u_s13 8 (uZ (uZ (uZ (u_s13.2 8) (3 * (s.1 9)) z15) ((3 * (s.1 9)) + 1) 1) ((3 * (s.1 9)) + 2) 0)) 9 ((u_s13.1 9) + 1)) hP hD hS dX7_readItem_159 ⟨(RG_S (RG_A ru_s13 (rgA_u (i := (3 * (s.1 9)) + 2) (rgA_u (i := (3 * (s.1 9)) + 1) (rgA_u (i := 3 * (s.1 9)) (ru_s13.2 8) r17) rg_1) rg_0)) r33), h34⟩
  · have h35 := h28.1 c29
    refine lv_aload_n hx hb dX7_readItem_46 rfl (lv_at hl 2 rfl) ?_
    obtain ⟨b36, h37⟩ := h35
    obtain ⟨b38, h39⟩ := h37
    refine zc_vi (As := []) (rest := []) (w2 := fun u_40 => W7 G a (sA u_s13 8 (uZ (uZ (uZ (u_s13.2 8) (3 * (s.1 9)) z15) ((3 * (s.1 9)) + 1) 1) ((3 * (s.1 9)) + 2) 0))) (c_X7_letter l G a (sA u_s13 8 (uZ (uZ (uZ (u_s13.2 8) (3 * (s.1 9)) z15) ((3 * (s.1 9)) + 1) 1) ((3 * (s.1 9)) + 2) 0)) (RG_A ru_s13 (rgA_u (i := (3 * (s.1 9)) + 2) (rgA_u (i := (3 * (s.1 9)) + 1) (rgA_u (i := 3 * (s.1 9)) (ru_s13.2 8) r17) rg_1) rg_0)) b36 b38) ⟨hx, hb, hml, hown, hts⟩ (cwV 0 hts gX7_readItem_X7_letter rfl rfl rfl hdX7_letter ⟨Nat.le_of_ble_eq_true rfl, Nat.le_of_ble_eq_true rfl⟩) hK hP hD hS hA (q0 := 0) rfl rfl [0, 1, 2, 3, 4, 5, 6] [] [0, 1, 2, 3, 4, 5, 6] rfl rfl rfl rfl (by decide) (fun _ => rfl) rfl rfl hl.1 rfl (Nat.le_of_ble_eq_true rfl) dX7_readItem_47 ⟨Nat.zero_le _, Nat.zero_le _⟩ (fun z41 u_40 H locs hw hP hD hS => ?_)
    obtain ⟨rfl, r42⟩ := hw
    have hP : va_P G.1 vwCl (W7 G a (sA u_s13 8 (uZ (uZ (uZ (u_s13.2 8) (3 * (s.1 9)) z15) ((3 * (s.1 9)) + 1) 1) ((3 * (s.1 9)) + 2) 0))) H := hP
    have hD : va_D A (W7 G a (sA u_s13 8 (uZ (uZ (uZ (u_s13.2 8) (3 * (s.1 9)) z15) ((3 * (s.1 9)) + 1) 1) ((3 * (s.1 9)) + 2) 0))) := hD
    refine lv_bipush (v := iI 120) hx hb dX7_readItem_50 (by decide) ?_
    refine zr_icmp_ne (tgt := 80) (x := letZ (sA u_s13 8 (uZ (uZ (uZ (u_s13.2 8) (3 * (s.1 9)) z15) ((3 * (s.1 9)) + 1) 1) ((3 * (s.1 9)) + 2) 0))) (y := 120) hx hb r42 rg_120 dX7_readItem_52 (by decide) (fun c43 => ?_) (fun c43 => ?_)
    · have h46 := h39.2 c43
      refine lv_aload_n hx hb dX7_readItem_80 rfl (lv_at hl 2 rfl) ?_
      refine va_get (v := .int (iI (u_s13.1 11))) (ci := 7) (C := RX7) (T := TX7) (N := 12) hx hb hts imX7_readItem_X7 hown hK hP 0 rfl rfl 11 (by decide) k3 (fun _ h9 => h9) rfl dX7_readItem_81 ?_
      refine lv_bipush (v := iI (-6)) hx hb dX7_readItem_84 (by decide) ?_
      refine zr_icmp_ne (tgt := 149) (x := (u_s13.1 11)) (y := (-6)) hx hb (ru_s13.1 11) rg_m6 dX7_readItem_86 (by decide) (fun c => absurd c29 c) (fun _ => ?_)
      refine lv_aload_n hx hb dX7_readItem_89 rfl (lv_at hl 2 rfl) ?_
      refine zc_vi (As := []) (rest := []) (w2 := fun u_47 => W7 G a (sA u_s13 8 (uZ (uZ (uZ (u_s13.2 8) (3 * (s.1 9)) z15) ((3 * (s.1 9)) + 1) 1) ((3 * (s.1 9)) + 2) 0))) (c_X7_letter l G a (sA u_s13 8 (uZ (uZ (uZ (u_s13.2 8) (3 * (s.1 9)) z15) ((3 * (s.1 9)) + 1) 1) ((3 * (s.1 9)) + 2) 0)) (RG_A ru_s13 (rgA_u (i := (3 * (s.1 9)) + 2) (rgA_u (i := (3 * (s.1 9)) + 1) (rgA_u (i := 3 * (s.1 9)) (ru_s13.2 8) r17) rg_1) rg_0)) b36 b38) ⟨hx, hb, hml, hown, hts⟩ (cwV 0 hts gX7_readItem_X7_letter rfl rfl rfl hdX7_letter ⟨Nat.le_of_ble_eq_true rfl, Nat.le_of_ble_eq_true rfl⟩) hK hP hD hS hA (q0 := 0) rfl rfl [0, 1, 2, 3, 4, 5, 6] [] [0, 1, 2, 3, 4, 5, 6] rfl rfl rfl rfl (by decide) (fun _ => rfl) rfl rfl hl.1 rfl (Nat.le_of_ble_eq_true rfl) dX7_readItem_90 ⟨Nat.zero_le _, Nat.zero_le _⟩ (fun z48 u_47 H locs hw hP hD hS => ?_)
      obtain ⟨rfl, r49⟩ := hw
      have hP : va_P G.1 vwCl (W7 G a (sA u_s13 8 (uZ (uZ (uZ (u_s13.2 8) (3 * (s.1 9)) z15) ((3 * (s.1 9)) + 1) 1) ((3 * (s.1 9)) + 2) 0))) H := hP
      have hD : va_D A (W7 G a (sA u_s13 8 (uZ (uZ (uZ (u_s13.2 8) (3 * (s.1 9)) z15) ((3 * (s.1 9)) + 1) 1) ((3 * (s.1 9)) + 2) 0))) := hD
      refine lv_bipush (v := iI 45) hx hb dX7_readItem_93 (by decide) ?_
      refine zr_icmp_ne (tgt := 149) (x := letZ (sA u_s13 8 (uZ (uZ (uZ (u_s13.2 8) (3 * (s.1 9)) z15) ((3 * (s.1 9)) + 1) 1) ((3 * (s.1 9)) + 2) 0))) (y := 45) hx hb r49 rg_45 dX7_readItem_95 (by decide) (fun c50 => ?_) (fun c50 => ?_)
      · have h53 := h46.2 c50
        refine lv_aload_n hx hb dX7_readItem_149 rfl (lv_at hl 2 rfl) ?_
        refine lv_dup hx hb dX7_readItem_150 rfl ?_
        refine va_get (v := .int (iI (u_s13.1 9))) (ci := 7) (C := RX7) (T := TX7) (N := 12) hx hb hts imX7_readItem_X7 hown hK hP 0 rfl rfl 9 (by decide) k1 (fun _ h9 => h9) rfl dX7_readItem_151 ?_
        refine lv_iconst (v := iI 1) hx hb dX7_readItem_154 rfl ?_
        refine zr_iadd (x := (u_s13.1 9)) (y := 1) hx hb dX7_readItem_155 ?_
        obtain ⟨r54, h55⟩ := h53
        refine va_put (v := .int (iI ((u_s13.1 9) + 1))) (ty := .int) (ci := 7) (C := RX7) (T := TX7) (N := 12) hx hb hts imX7_readItem_X7 tyX7 tyX7_ok nmX7 hown hK hP hD hS 0 rfl rfl 9 (by decide) k1 (fun _ h9 => h9) rfl (tyX7_ok 9 (by decide)) rfl rfl (Nat.le_of_ble_eq_true rfl) dX7_readItem_156 (fun H locs hP hD hS => ?_)
        have hP : va_P G.1 vwCl (W7 G a (sS (sA u_s13 8 (uZ (uZ (uZ (u_s13.2 8) (3 * (s.1 9)) z15) ((3 * (s.1 9)) + 1) 1) ((3 * (s.1 9)) + 2) 0)) 9 ((u_s13.1 9) + 1))) H := hP
        have hD : va_D A (W7 G a (sS (sA u_s13 8 (uZ (uZ (uZ (u_s13.2 8) (3 * (s.1 9)) z15) ((3 * (s.1 9)) + 1) 1) ((3 * (s.1 9)) + 2) 0)) 9 ((u_s13.1 9) + 1))) := hD
        exact zr_vret hx hb hr hlocks hK (sS (sA u_s13 8 (uZ (uZ (uZ (u_s13.2 8) (3 * (s.1 9)) z15) ((3 * (s.1 9)) + 1) 1) ((3 * (s.1 9)) + 2) 0)) 9 ((u_s13.1 9) + 1)) hP hD hS dX7_readItem_159 ⟨(RG_S (RG_A ru_s13 (rgA_u (i := (3 * (s.1 9)) + 2) (rgA_u (i := (3 * (s.1 9)) + 1) (rgA_u (i := 3 * (s.1 9)) (ru_s13.2 8) r17) rg_1) rg_0)) r54), h55⟩
      · have h56 := h46.1 c50
        refine lv_aload_n hx hb dX7_readItem_98 rfl (lv_at hl 2 rfl) ?_
        refine lv_iload_n hx hb dX7_readItem_99 rfl (lv_at hl 0 rfl) ?_
        refine lv_sipush (v := iI 999) hx hb dX7_readItem_100 (by decide) ?_
        refine zr_icmp_ge (tgt := 110) (x := z15) (y := 999) hx hb r17 rg_999 dX7_readItem_103 (by decide) (fun c57 => ?_) (fun c57 => ?_)
        · have h60 := h56.2 c57
          refine lv_iconst (v := iI 0) hx hb dX7_readItem_110 rfl ?_
          obtain ⟨b61, h62⟩ := h60
          obtain ⟨b63, h64⟩ := h62
          refine zc_vv (As := [.int (iI 0)]) (rest := []) (w2 := fun u_66 => W7 G a (sS (sS (sA u_s13 8 (uZ (uZ (uZ (u_s13.2 8) (3 * (s.1 9)) z15) ((3 * (s.1 9)) + 1) 1) ((3 * (s.1 9)) + 2) 0)) 10 ((u_s13.1 10) + 1)) 11 (u_s13.1 10))) (c_X7_wants0 l G a (sA u_s13 8 (uZ (uZ (uZ (u_s13.2 8) (3 * (s.1 9)) z15) ((3 * (s.1 9)) + 1) 1) ((3 * (s.1 9)) + 2) 0)) (RG_A ru_s13 (rgA_u (i := (3 * (s.1 9)) + 2) (rgA_u (i := (3 * (s.1 9)) + 1) (rgA_u (i := 3 * (s.1 9)) (ru_s13.2 8) r17) rg_1) rg_0)) b61 b63) ⟨hx, hb, hml, hown, hts⟩ (cwV 1 hts gX7_readItem_X7_wants rfl rfl rfl hdX7_wants ⟨Nat.le_of_ble_eq_true rfl, Nat.le_of_ble_eq_true rfl⟩) hK hP hD hS hA (q0 := 0) rfl rfl [0, 1, 2, 3, 4, 5, 6] [] [0, 1, 2, 3, 4, 5, 6] rfl rfl rfl rfl (by decide) (fun _ => rfl) rfl rfl hl.1 rfl (Nat.le_of_ble_eq_true rfl) dX7_readItem_111 ⟨Nat.zero_le _, Nat.zero_le _⟩ (fun u_66 H locs hw hP hD hS => ?_)
          have r65 := hw
          have hP : va_P G.1 vwCl (W7 G a (sS (sS (sA u_s13 8 (uZ (uZ (uZ (u_s13.2 8) (3 * (s.1 9)) z15) ((3 * (s.1 9)) + 1) 1) ((3 * (s.1 9)) + 2) 0)) 10 ((u_s13.1 10) + 1)) 11 (u_s13.1 10))) H := hP
          have hD : va_D A (W7 G a (sS (sS (sA u_s13 8 (uZ (uZ (uZ (u_s13.2 8) (3 * (s.1 9)) z15) ((3 * (s.1 9)) + 1) 1) ((3 * (s.1 9)) + 2) 0)) 10 ((u_s13.1 10) + 1)) 11 (u_s13.1 10))) := hD
          refine lv_aload_n hx hb dX7_readItem_114 rfl (lv_at hl 2 rfl) ?_
          refine va_get (v := .int (iI (u_s13.1 10))) (ci := 7) (C := RX7) (T := TX7) (N := 12) hx hb hts imX7_readItem_X7 hown hK hP 0 rfl rfl 11 (by decide) k3 (fun _ h9 => h9) rfl dX7_readItem_115 ?_
          refine lv_bipush (v := iI (-6)) hx hb dX7_readItem_118 (by decide) ?_
          refine zr_icmp_ne (tgt := 149) (x := (u_s13.1 10)) (y := (-6)) hx hb (r65.1 11) rg_m6 dX7_readItem_120 (by decide) (fun c68 => ?_) (fun c68 => ?_)
          · have h71 := h64.2 c68
            refine lv_aload_n hx hb dX7_readItem_149 rfl (lv_at hl 2 rfl) ?_
            refine lv_dup hx hb dX7_readItem_150 rfl ?_
            refine va_get (v := .int (iI (u_s13.1 9))) (ci := 7) (C := RX7) (T := TX7) (N := 12) hx hb hts imX7_readItem_X7 hown hK hP 0 rfl rfl 9 (by decide) k1 (fun _ h9 => h9) rfl dX7_readItem_151 ?_
            refine lv_iconst (v := iI 1) hx hb dX7_readItem_154 rfl ?_
            refine zr_iadd (x := (u_s13.1 9)) (y := 1) hx hb dX7_readItem_155 ?_
            obtain ⟨r72, h73⟩ := h71
            refine va_put (v := .int (iI ((u_s13.1 9) + 1))) (ty := .int) (ci := 7) (C := RX7) (T := TX7) (N := 12) hx hb hts imX7_readItem_X7 tyX7 tyX7_ok nmX7 hown hK hP hD hS 0 rfl rfl 9 (by decide) k1 (fun _ h9 => h9) rfl (tyX7_ok 9 (by decide)) rfl rfl (Nat.le_of_ble_eq_true rfl) dX7_readItem_156 (fun H locs hP hD hS => ?_)
            have hP : va_P G.1 vwCl (W7 G a (sS (sS (sS (sA u_s13 8 (uZ (uZ (uZ (u_s13.2 8) (3 * (s.1 9)) z15) ((3 * (s.1 9)) + 1) 1) ((3 * (s.1 9)) + 2) 0)) 9 ((u_s13.1 9) + 1)) 10 ((u_s13.1 10) + 1)) 11 (u_s13.1 10))) H := hP
            have hD : va_D A (W7 G a (sS (sS (sS (sA u_s13 8 (uZ (uZ (uZ (u_s13.2 8) (3 * (s.1 9)) z15) ((3 * (s.1 9)) + 1) 1) ((3 * (s.1 9)) + 2) 0)) 9 ((u_s13.1 9) + 1)) 10 ((u_s13.1 10) + 1)) 11 (u_s13.1 10))) := hD
            exact zr_vret hx hb hr hlocks hK (sS (sS (sS (sA u_s13 8 (uZ (uZ (uZ (u_s13.2 8) (3 * (s.1 9)) z15) ((3 * (s.1 9)) + 1) 1) ((3 * (s.1 9)) + 2) 0)) 9 ((u_s13.1 9) + 1)) 10 ((u_s13.1 10) + 1)) 11 (u_s13.1 10)) hP hD hS dX7_readItem_159 ⟨(RG_S (RG_S (RG_S (RG_A ru_s13 (rgA_u (i := (3 * (s.1 9)) + 2) (rgA_u (i := (3 * (s.1 9)) + 1) (rgA_u (i := 3 * (s.1 9)) (ru_s13.2 8) r17) rg_1) rg_0)) r72) (r65.1 10)) (r65.1 11)), h73⟩
          · have h74 := h64.1 c68
            refine lv_aload_n hx hb dX7_readItem_123 rfl (lv_at hl 2 rfl) ?_
            refine va_get (v := .ref (a 6)) (ci := 7) (C := RX7) (T := TX7) (N := 12) hx hb hts imX7_readItem_X7 hown hK hP 0 rfl rfl 8 (by decide) k2 (fun _ h9 => h9) rfl dX7_readItem_124 ?_
            refine lv_iload_n hx hb dX7_readItem_127 rfl (lv_at hl 1 rfl) ?_
            refine lv_iconst (v := iI 1) hx hb dX7_readItem_128 rfl ?_
            refine zr_iadd (x := 3 * (s.1 9)) (y := 1) hx hb dX7_readItem_129 ?_
            refine lv_aload_n hx hb dX7_readItem_130 rfl (lv_at hl 2 rfl) ?_
            refine lv_iload_n hx hb dX7_readItem_131 rfl (lv_at hl 0 rfl) ?_
            obtain ⟨b75, h76⟩ := h74
            obtain ⟨b77, h78⟩ := h76
            obtain ⟨b79, h80⟩ := h78
            obtain ⟨b81, h82⟩ := h80
            obtain ⟨b83, h84⟩ := h82
            refine zc_vi (As := [.int (iI z15)]) (rest := [.int (iI ((3 * (s.1 9)) + 1)), .ref (a 6)]) (w2 := fun u_86 => W7 G a u_86) (c_X7_greater l G a (sS (sS (sA u_s13 8 (uZ (uZ (uZ (u_s13.2 8) (3 * (s.1 9)) z15) ((3 * (s.1 9)) + 1) 1) ((3 * (s.1 9)) + 2) 0)) 10 ((u_s13.1 10) + 1)) 11 (u_s13.1 10)) z15 (RG_S (RG_S (RG_A ru_s13 (rgA_u (i := (3 * (s.1 9)) + 2) (rgA_u (i := (3 * (s.1 9)) + 1) (rgA_u (i := 3 * (s.1 9)) (ru_s13.2 8) r17) rg_1) rg_0)) (r65.1 10)) (r65.1 11)) r17 b36 b75 b77 b79 b81 b83) ⟨hx, hb, hml, hown, hts⟩ (cwV 1 hts gX7_readItem_X7_greater rfl rfl rfl hdX7_greater ⟨Nat.le_of_ble_eq_true rfl, Nat.le_of_ble_eq_true rfl⟩) hK hP hD hS hA (q0 := 0) rfl rfl [0, 1, 2, 3, 4, 5, 6] [] [0, 1, 2, 3, 4, 5, 6] rfl rfl rfl rfl (by decide) (fun _ => rfl) rfl rfl hl.1 rfl (Nat.le_of_ble_eq_true rfl) dX7_readItem_132 ⟨Nat.zero_le _, Nat.zero_le _⟩ (fun z87 u_86 H locs hw hP hD hS => ?_)
            obtain ⟨u_s85, rfl⟩ : ∃ q, q = u_86 := ⟨_, rfl⟩
            obtain ⟨r89, ru_s85, h88⟩ := hw
            have h90 := h84 z87 u_s85 r89 ru_s85 h88
            have hP : va_P G.1 vwCl (W7 G a u_s85) H := hP
            have hD : va_D A (W7 G a u_s85) := hD
            refine lv_iload_n hx hb dX7_readItem_135 rfl (lv_at hl 0 rfl) ?_
            refine zr_isub (x := z87) (y := z15) hx hb dX7_readItem_136 ?_
            obtain ⟨r91, h92⟩ := h90
            refine lv_iconst (v := iI 1) hx hb dX7_readItem_137 rfl ?_
            refine zr_iadd (x := z87 - z15) (y := 1) hx hb dX7_readItem_138 ?_
            obtain ⟨r93, h94⟩ := h92
            refine zr_iast (n := 123) (f := (u_s85.2 8)) (i := (3 * (s.1 9)) + 1) (x := (z87 - z15) + 1) hx hb hK hP hD hS 6 rfl r21 b23 dX7_readItem_139 (fun H locs hP hD hS => ?_)
            have hP : va_P G.1 vwCl (W7 G a (sA u_s85 8 (uZ (u_s85.2 8) ((3 * (s.1 9)) + 1) ((z87 - z15) + 1)))) H := hP
            have hD : va_D A (W7 G a (sA u_s85 8 (uZ (u_s85.2 8) ((3 * (s.1 9)) + 1) ((z87 - z15) + 1)))) := hD
            refine lv_aload_n hx hb dX7_readItem_140 rfl (lv_at hl 2 rfl) ?_
            refine va_get (v := .ref (a 6)) (ci := 7) (C := RX7) (T := TX7) (N := 12) hx hb hts imX7_readItem_X7 hown hK hP 0 rfl rfl 8 (by decide) k2 (fun _ h9 => h9) rfl dX7_readItem_141 ?_
            refine lv_iload_n hx hb dX7_readItem_144 rfl (lv_at hl 1 rfl) ?_
            refine lv_iconst (v := iI 2) hx hb dX7_readItem_145 rfl ?_
            refine zr_iadd (x := 3 * (s.1 9)) (y := 2) hx hb dX7_readItem_146 ?_
            refine lv_iconst (v := iI 1) hx hb dX7_readItem_147 rfl ?_
            refine zr_iast (n := 123) (f := uZ (u_s85.2 8) ((3 * (s.1 9)) + 1) ((z87 - z15) + 1)) (i := (3 * (s.1 9)) + 2) (x := 1) hx hb hK hP hD hS 6 rfl r25 b27 dX7_readItem_148 (fun H locs hP hD hS => ?_)
            have hP : va_P G.1 vwCl (W7 G a (sA u_s85 8 (uZ (uZ (u_s85.2 8) ((3 * (s.1 9)) + 1) ((z87 - z15) + 1)) ((3 * (s.1 9)) + 2) 1))) H := hP
            have hD : va_D A (W7 G a (sA u_s85 8 (uZ (uZ (u_s85.2 8) ((3 * (s.1 9)) + 1) ((z87 - z15) + 1)) ((3 * (s.1 9)) + 2) 1))) := hD
            refine lv_aload_n hx hb dX7_readItem_149 rfl (lv_at hl 2 rfl) ?_
            refine lv_dup hx hb dX7_readItem_150 rfl ?_
            refine va_get (v := .int (iI (u_s85.1 9))) (ci := 7) (C := RX7) (T := TX7) (N := 12) hx hb hts imX7_readItem_X7 hown hK hP 0 rfl rfl 9 (by decide) k1 (fun _ h9 => h9) rfl dX7_readItem_151 ?_
            refine lv_iconst (v := iI 1) hx hb dX7_readItem_154 rfl ?_
            refine zr_iadd (x := (u_s85.1 9)) (y := 1) hx hb dX7_readItem_155 ?_
            obtain ⟨r95, h96⟩ := h94
            refine va_put (v := .int (iI ((u_s85.1 9) + 1))) (ty := .int) (ci := 7) (C := RX7) (T := TX7) (N := 12) hx hb hts imX7_readItem_X7 tyX7 tyX7_ok nmX7 hown hK hP hD hS 0 rfl rfl 9 (by decide) k1 (fun _ h9 => h9) rfl (tyX7_ok 9 (by decide)) rfl rfl (Nat.le_of_ble_eq_true rfl) dX7_readItem_156 (fun H locs hP hD hS => ?_)
            have hP : va_P G.1 vwCl (W7 G a (sS (sA u_s85 8 (uZ (uZ (u_s85.2 8) ((3 * (s.1 9)) + 1) ((z87 - z15) + 1)) ((3 * (s.1 9)) + 2) 1)) 9 ((u_s85.1 9) + 1))) H := hP
            have hD : va_D A (W7 G a (sS (sA u_s85 8 (uZ (uZ (u_s85.2 8) ((3 * (s.1 9)) + 1) ((z87 - z15) + 1)) ((3 * (s.1 9)) + 2) 1)) 9 ((u_s85.1 9) + 1))) := hD
            exact zr_vret hx hb hr hlocks hK (sS (sA u_s85 8 (uZ (uZ (u_s85.2 8) ((3 * (s.1 9)) + 1) ((z87 - z15) + 1)) ((3 * (s.1 9)) + 2) 1)) 9 ((u_s85.1 9) + 1)) hP hD hS dX7_readItem_159 ⟨(RG_S (RG_A ru_s85 (rgA_u (i := (3 * (s.1 9)) + 2) (rgA_u (i := (3 * (s.1 9)) + 1) (ru_s85.2 8) r93) rg_1)) r95), h96⟩
        · have h97 := h56.1 c57
          refine lv_iconst (v := iI 1) hx hb dX7_readItem_106 rfl ?_
          refine lv_goto (tgt := 111) hx hb dX7_readItem_107 (by decide) ?_
          obtain ⟨b98, h99⟩ := h97
          obtain ⟨b100, h101⟩ := h99
          refine zc_vv (As := [.int (iI 1)]) (rest := []) (w2 := fun u_103 => W7 G a (sS (sS (sA u_s13 8 (uZ (uZ (uZ (u_s13.2 8) (3 * (s.1 9)) z15) ((3 * (s.1 9)) + 1) 1) ((3 * (s.1 9)) + 2) 0)) 10 ((u_s13.1 10) + 1)) 11 (-6))) (c_X7_wants1 l G a (sA u_s13 8 (uZ (uZ (uZ (u_s13.2 8) (3 * (s.1 9)) z15) ((3 * (s.1 9)) + 1) 1) ((3 * (s.1 9)) + 2) 0)) (RG_A ru_s13 (rgA_u (i := (3 * (s.1 9)) + 2) (rgA_u (i := (3 * (s.1 9)) + 1) (rgA_u (i := 3 * (s.1 9)) (ru_s13.2 8) r17) rg_1) rg_0)) b98 b100) ⟨hx, hb, hml, hown, hts⟩ (cwV 1 hts gX7_readItem_X7_wants rfl rfl rfl hdX7_wants ⟨Nat.le_of_ble_eq_true rfl, Nat.le_of_ble_eq_true rfl⟩) hK hP hD hS hA (q0 := 0) rfl rfl [0, 1, 2, 3, 4, 5, 6] [] [0, 1, 2, 3, 4, 5, 6] rfl rfl rfl rfl (by decide) (fun _ => rfl) rfl rfl hl.1 rfl (Nat.le_of_ble_eq_true rfl) dX7_readItem_111 ⟨Nat.zero_le _, Nat.zero_le _⟩ (fun u_103 H locs hw hP hD hS => ?_)
          have r102 := hw
          have hP : va_P G.1 vwCl (W7 G a (sS (sS (sA u_s13 8 (uZ (uZ (uZ (u_s13.2 8) (3 * (s.1 9)) z15) ((3 * (s.1 9)) + 1) 1) ((3 * (s.1 9)) + 2) 0)) 10 ((u_s13.1 10) + 1)) 11 (-6))) H := hP
          have hD : va_D A (W7 G a (sS (sS (sA u_s13 8 (uZ (uZ (uZ (u_s13.2 8) (3 * (s.1 9)) z15) ((3 * (s.1 9)) + 1) 1) ((3 * (s.1 9)) + 2) 0)) 10 ((u_s13.1 10) + 1)) 11 (-6))) := hD
          refine lv_aload_n hx hb dX7_readItem_114 rfl (lv_at hl 2 rfl) ?_
          refine va_get (v := .int (iI (-6))) (ci := 7) (C := RX7) (T := TX7) (N := 12) hx hb hts imX7_readItem_X7 hown hK hP 0 rfl rfl 11 (by decide) k3 (fun _ h9 => h9) rfl dX7_readItem_115 ?_
          refine lv_bipush (v := iI (-6)) hx hb dX7_readItem_118 (by decide) ?_
          refine zr_icmp_ne (tgt := 149) (x := (-6)) (y := (-6)) hx hb (r102.1 11) rg_m6 dX7_readItem_120 (by decide) (fun c105 => ?_) (fun c105 => ?_)
          · have h108 := h101.2 c105
            refine lv_aload_n hx hb dX7_readItem_149 rfl (lv_at hl 2 rfl) ?_
            refine lv_dup hx hb dX7_readItem_150 rfl ?_
            refine va_get (v := .int (iI (u_s13.1 9))) (ci := 7) (C := RX7) (T := TX7) (N := 12) hx hb hts imX7_readItem_X7 hown hK hP 0 rfl rfl 9 (by decide) k1 (fun _ h9 => h9) rfl dX7_readItem_151 ?_
            refine lv_iconst (v := iI 1) hx hb dX7_readItem_154 rfl ?_
            refine zr_iadd (x := (u_s13.1 9)) (y := 1) hx hb dX7_readItem_155 ?_
            obtain ⟨r109, h110⟩ := h108
            refine va_put (v := .int (iI ((u_s13.1 9) + 1))) (ty := .int) (ci := 7) (C := RX7) (T := TX7) (N := 12) hx hb hts imX7_readItem_X7 tyX7 tyX7_ok nmX7 hown hK hP hD hS 0 rfl rfl 9 (by decide) k1 (fun _ h9 => h9) rfl (tyX7_ok 9 (by decide)) rfl rfl (Nat.le_of_ble_eq_true rfl) dX7_readItem_156 (fun H locs hP hD hS => ?_)
            have hP : va_P G.1 vwCl (W7 G a (sS (sS (sS (sA u_s13 8 (uZ (uZ (uZ (u_s13.2 8) (3 * (s.1 9)) z15) ((3 * (s.1 9)) + 1) 1) ((3 * (s.1 9)) + 2) 0)) 9 ((u_s13.1 9) + 1)) 10 ((u_s13.1 10) + 1)) 11 (-6))) H := hP
            have hD : va_D A (W7 G a (sS (sS (sS (sA u_s13 8 (uZ (uZ (uZ (u_s13.2 8) (3 * (s.1 9)) z15) ((3 * (s.1 9)) + 1) 1) ((3 * (s.1 9)) + 2) 0)) 9 ((u_s13.1 9) + 1)) 10 ((u_s13.1 10) + 1)) 11 (-6))) := hD
            exact zr_vret hx hb hr hlocks hK (sS (sS (sS (sA u_s13 8 (uZ (uZ (uZ (u_s13.2 8) (3 * (s.1 9)) z15) ((3 * (s.1 9)) + 1) 1) ((3 * (s.1 9)) + 2) 0)) 9 ((u_s13.1 9) + 1)) 10 ((u_s13.1 10) + 1)) 11 (-6)) hP hD hS dX7_readItem_159 ⟨(RG_S (RG_S (RG_S (RG_A ru_s13 (rgA_u (i := (3 * (s.1 9)) + 2) (rgA_u (i := (3 * (s.1 9)) + 1) (rgA_u (i := 3 * (s.1 9)) (ru_s13.2 8) r17) rg_1) rg_0)) r109) (r102.1 10)) (r102.1 11)), h110⟩
          · have h111 := h101.1 c105
            refine lv_aload_n hx hb dX7_readItem_123 rfl (lv_at hl 2 rfl) ?_
            refine va_get (v := .ref (a 6)) (ci := 7) (C := RX7) (T := TX7) (N := 12) hx hb hts imX7_readItem_X7 hown hK hP 0 rfl rfl 8 (by decide) k2 (fun _ h9 => h9) rfl dX7_readItem_124 ?_
            refine lv_iload_n hx hb dX7_readItem_127 rfl (lv_at hl 1 rfl) ?_
            refine lv_iconst (v := iI 1) hx hb dX7_readItem_128 rfl ?_
            refine zr_iadd (x := 3 * (s.1 9)) (y := 1) hx hb dX7_readItem_129 ?_
            refine lv_aload_n hx hb dX7_readItem_130 rfl (lv_at hl 2 rfl) ?_
            refine lv_iload_n hx hb dX7_readItem_131 rfl (lv_at hl 0 rfl) ?_
            obtain ⟨b112, h113⟩ := h111
            obtain ⟨b114, h115⟩ := h113
            obtain ⟨b116, h117⟩ := h115
            obtain ⟨b118, h119⟩ := h117
            obtain ⟨b120, h121⟩ := h119
            refine zc_vi (As := [.int (iI z15)]) (rest := [.int (iI ((3 * (s.1 9)) + 1)), .ref (a 6)]) (w2 := fun u_123 => W7 G a u_123) (c_X7_greater l G a (sS (sS (sA u_s13 8 (uZ (uZ (uZ (u_s13.2 8) (3 * (s.1 9)) z15) ((3 * (s.1 9)) + 1) 1) ((3 * (s.1 9)) + 2) 0)) 10 ((u_s13.1 10) + 1)) 11 (-6)) z15 (RG_S (RG_S (RG_A ru_s13 (rgA_u (i := (3 * (s.1 9)) + 2) (rgA_u (i := (3 * (s.1 9)) + 1) (rgA_u (i := 3 * (s.1 9)) (ru_s13.2 8) r17) rg_1) rg_0)) (r102.1 10)) (r102.1 11)) r17 b36 b112 b114 b116 b118 b120) ⟨hx, hb, hml, hown, hts⟩ (cwV 1 hts gX7_readItem_X7_greater rfl rfl rfl hdX7_greater ⟨Nat.le_of_ble_eq_true rfl, Nat.le_of_ble_eq_true rfl⟩) hK hP hD hS hA (q0 := 0) rfl rfl [0, 1, 2, 3, 4, 5, 6] [] [0, 1, 2, 3, 4, 5, 6] rfl rfl rfl rfl (by decide) (fun _ => rfl) rfl rfl hl.1 rfl (Nat.le_of_ble_eq_true rfl) dX7_readItem_132 ⟨Nat.zero_le _, Nat.zero_le _⟩ (fun z124 u_123 H locs hw hP hD hS => ?_)
            obtain ⟨u_s122, rfl⟩ : ∃ q, q = u_123 := ⟨_, rfl⟩
            obtain ⟨r126, ru_s122, h125⟩ := hw
            have h127 := h121 z124 u_s122 r126 ru_s122 h125
            have hP : va_P G.1 vwCl (W7 G a u_s122) H := hP
            have hD : va_D A (W7 G a u_s122) := hD
            refine lv_iload_n hx hb dX7_readItem_135 rfl (lv_at hl 0 rfl) ?_
            refine zr_isub (x := z124) (y := z15) hx hb dX7_readItem_136 ?_
            obtain ⟨r128, h129⟩ := h127
            refine lv_iconst (v := iI 1) hx hb dX7_readItem_137 rfl ?_
            refine zr_iadd (x := z124 - z15) (y := 1) hx hb dX7_readItem_138 ?_
            obtain ⟨r130, h131⟩ := h129
            refine zr_iast (n := 123) (f := (u_s122.2 8)) (i := (3 * (s.1 9)) + 1) (x := (z124 - z15) + 1) hx hb hK hP hD hS 6 rfl r21 b23 dX7_readItem_139 (fun H locs hP hD hS => ?_)
            have hP : va_P G.1 vwCl (W7 G a (sA u_s122 8 (uZ (u_s122.2 8) ((3 * (s.1 9)) + 1) ((z124 - z15) + 1)))) H := hP
            have hD : va_D A (W7 G a (sA u_s122 8 (uZ (u_s122.2 8) ((3 * (s.1 9)) + 1) ((z124 - z15) + 1)))) := hD
            refine lv_aload_n hx hb dX7_readItem_140 rfl (lv_at hl 2 rfl) ?_
            refine va_get (v := .ref (a 6)) (ci := 7) (C := RX7) (T := TX7) (N := 12) hx hb hts imX7_readItem_X7 hown hK hP 0 rfl rfl 8 (by decide) k2 (fun _ h9 => h9) rfl dX7_readItem_141 ?_
            refine lv_iload_n hx hb dX7_readItem_144 rfl (lv_at hl 1 rfl) ?_
            refine lv_iconst (v := iI 2) hx hb dX7_readItem_145 rfl ?_
            refine zr_iadd (x := 3 * (s.1 9)) (y := 2) hx hb dX7_readItem_146 ?_
            refine lv_iconst (v := iI 1) hx hb dX7_readItem_147 rfl ?_
            refine zr_iast (n := 123) (f := uZ (u_s122.2 8) ((3 * (s.1 9)) + 1) ((z124 - z15) + 1)) (i := (3 * (s.1 9)) + 2) (x := 1) hx hb hK hP hD hS 6 rfl r25 b27 dX7_readItem_148 (fun H locs hP hD hS => ?_)
            have hP : va_P G.1 vwCl (W7 G a (sA u_s122 8 (uZ (uZ (u_s122.2 8) ((3 * (s.1 9)) + 1) ((z124 - z15) + 1)) ((3 * (s.1 9)) + 2) 1))) H := hP
            have hD : va_D A (W7 G a (sA u_s122 8 (uZ (uZ (u_s122.2 8) ((3 * (s.1 9)) + 1) ((z124 - z15) + 1)) ((3 * (s.1 9)) + 2) 1))) := hD
            refine lv_aload_n hx hb dX7_readItem_149 rfl (lv_at hl 2 rfl) ?_
            refine lv_dup hx hb dX7_readItem_150 rfl ?_
            refine va_get (v := .int (iI (u_s122.1 9))) (ci := 7) (C := RX7) (T := TX7) (N := 12) hx hb hts imX7_readItem_X7 hown hK hP 0 rfl rfl 9 (by decide) k1 (fun _ h9 => h9) rfl dX7_readItem_151 ?_
            refine lv_iconst (v := iI 1) hx hb dX7_readItem_154 rfl ?_
            refine zr_iadd (x := (u_s122.1 9)) (y := 1) hx hb dX7_readItem_155 ?_
            obtain ⟨r132, h133⟩ := h131
            refine va_put (v := .int (iI ((u_s122.1 9) + 1))) (ty := .int) (ci := 7) (C := RX7) (T := TX7) (N := 12) hx hb hts imX7_readItem_X7 tyX7 tyX7_ok nmX7 hown hK hP hD hS 0 rfl rfl 9 (by decide) k1 (fun _ h9 => h9) rfl (tyX7_ok 9 (by decide)) rfl rfl (Nat.le_of_ble_eq_true rfl) dX7_readItem_156 (fun H locs hP hD hS => ?_)
            have hP : va_P G.1 vwCl (W7 G a (sS (sA u_s122 8 (uZ (uZ (u_s122.2 8) ((3 * (s.1 9)) + 1) ((z124 - z15) + 1)) ((3 * (s.1 9)) + 2) 1)) 9 ((u_s122.1 9) + 1))) H := hP
            have hD : va_D A (W7 G a (sS (sA u_s122 8 (uZ (uZ (u_s122.2 8) ((3 * (s.1 9)) + 1) ((z124 - z15) + 1)) ((3 * (s.1 9)) + 2) 1)) 9 ((u_s122.1 9) + 1))) := hD
            exact zr_vret hx hb hr hlocks hK (sS (sA u_s122 8 (uZ (uZ (u_s122.2 8) ((3 * (s.1 9)) + 1) ((z124 - z15) + 1)) ((3 * (s.1 9)) + 2) 1)) 9 ((u_s122.1 9) + 1)) hP hD hS dX7_readItem_159 ⟨(RG_S (RG_A ru_s122 (rgA_u (i := (3 * (s.1 9)) + 2) (rgA_u (i := (3 * (s.1 9)) + 1) (ru_s122.2 8) r130) rg_1)) r132), h133⟩
    · have h134 := h39.1 c43
      refine lv_aload_n hx hb dX7_readItem_55 rfl (lv_at hl 2 rfl) ?_
      refine lv_dup hx hb dX7_readItem_56 rfl ?_
      refine va_get (v := .int (iI (u_s13.1 10))) (ci := 7) (C := RX7) (T := TX7) (N := 12) hx hb hts imX7_readItem_X7 hown hK hP 0 rfl rfl 10 (by decide) k4 (fun _ h9 => h9) rfl dX7_readItem_57 ?_
      refine lv_iconst (v := iI 1) hx hb dX7_readItem_60 rfl ?_
      refine zr_iadd (x := (u_s13.1 10)) (y := 1) hx hb dX7_readItem_61 ?_
      obtain ⟨r135, h136⟩ := h134
      refine va_put (v := .int (iI ((u_s13.1 10) + 1))) (ty := .int) (ci := 7) (C := RX7) (T := TX7) (N := 12) hx hb hts imX7_readItem_X7 tyX7 tyX7_ok nmX7 hown hK hP hD hS 0 rfl rfl 10 (by decide) k4 (fun _ h9 => h9) rfl (tyX7_ok 10 (by decide)) rfl rfl (Nat.le_of_ble_eq_true rfl) dX7_readItem_62 (fun H locs hP hD hS => ?_)
      have hP : va_P G.1 vwCl (W7 G a (sS (sA u_s13 8 (uZ (uZ (uZ (u_s13.2 8) (3 * (s.1 9)) z15) ((3 * (s.1 9)) + 1) 1) ((3 * (s.1 9)) + 2) 0)) 10 ((u_s13.1 10) + 1))) H := hP
      have hD : va_D A (W7 G a (sS (sA u_s13 8 (uZ (uZ (uZ (u_s13.2 8) (3 * (s.1 9)) z15) ((3 * (s.1 9)) + 1) 1) ((3 * (s.1 9)) + 2) 0)) 10 ((u_s13.1 10) + 1))) := hD
      refine lv_aload_n hx hb dX7_readItem_65 rfl (lv_at hl 2 rfl) ?_
      refine va_get (v := .ref (a 6)) (ci := 7) (C := RX7) (T := TX7) (N := 12) hx hb hts imX7_readItem_X7 hown hK hP 0 rfl rfl 8 (by decide) k2 (fun _ h9 => h9) rfl dX7_readItem_66 ?_
      refine lv_iload_n hx hb dX7_readItem_69 rfl (lv_at hl 1 rfl) ?_
      refine lv_iconst (v := iI 1) hx hb dX7_readItem_70 rfl ?_
      refine zr_iadd (x := 3 * (s.1 9)) (y := 1) hx hb dX7_readItem_71 ?_
      refine lv_aload_n hx hb dX7_readItem_72 rfl (lv_at hl 2 rfl) ?_
      obtain ⟨g137, h138⟩ := h136
      obtain ⟨b139, h140⟩ := h138
      obtain ⟨b141, h142⟩ := h140
      obtain ⟨b143, h144⟩ := h142
      obtain ⟨b145, h146⟩ := h144
      refine zc_vi (As := []) (rest := [.int (iI ((3 * (s.1 9)) + 1)), .ref (a 6)]) (w2 := fun u_148 => W7 G a u_148) (c_X7_number l G a (sS (sA u_s13 8 (uZ (uZ (uZ (u_s13.2 8) (3 * (s.1 9)) z15) ((3 * (s.1 9)) + 1) 1) ((3 * (s.1 9)) + 2) 0)) 10 ((u_s13.1 10) + 1)) g137 (RG_S (RG_A ru_s13 (rgA_u (i := (3 * (s.1 9)) + 2) (rgA_u (i := (3 * (s.1 9)) + 1) (rgA_u (i := 3 * (s.1 9)) (ru_s13.2 8) r17) rg_1) rg_0)) r135) b36 b139 b141 b143 b145) ⟨hx, hb, hml, hown, hts⟩ (cwV 0 hts gX7_readItem_X7_number rfl rfl rfl hdX7_number ⟨Nat.le_of_ble_eq_true rfl, Nat.le_of_ble_eq_true rfl⟩) hK hP hD hS hA (q0 := 0) rfl rfl [0, 1, 2, 3, 4, 5, 6] [] [0, 1, 2, 3, 4, 5, 6] rfl rfl rfl rfl (by decide) (fun _ => rfl) rfl rfl hl.1 rfl (Nat.le_of_ble_eq_true rfl) dX7_readItem_73 ⟨Nat.zero_le _, Nat.zero_le _⟩ (fun z149 u_148 H locs hw hP hD hS => ?_)
      obtain ⟨u_s147, rfl⟩ : ∃ q, q = u_148 := ⟨_, rfl⟩
      obtain ⟨r151, ru_s147, h150⟩ := hw
      have h152 := h146 z149 u_s147 r151 ru_s147 h150
      have hP : va_P G.1 vwCl (W7 G a u_s147) H := hP
      have hD : va_D A (W7 G a u_s147) := hD
      refine zr_iast (n := 123) (f := (u_s147.2 8)) (i := (3 * (s.1 9)) + 1) (x := z149) hx hb hK hP hD hS 6 rfl r21 b23 dX7_readItem_76 (fun H locs hP hD hS => ?_)
      have hP : va_P G.1 vwCl (W7 G a (sA u_s147 8 (uZ (u_s147.2 8) ((3 * (s.1 9)) + 1) z149))) H := hP
      have hD : va_D A (W7 G a (sA u_s147 8 (uZ (u_s147.2 8) ((3 * (s.1 9)) + 1) z149))) := hD
      refine lv_goto (tgt := 149) hx hb dX7_readItem_77 (by decide) ?_
      refine lv_aload_n hx hb dX7_readItem_149 rfl (lv_at hl 2 rfl) ?_
      refine lv_dup hx hb dX7_readItem_150 rfl ?_
      refine va_get (v := .int (iI (u_s147.1 9))) (ci := 7) (C := RX7) (T := TX7) (N := 12) hx hb hts imX7_readItem_X7 hown hK hP 0 rfl rfl 9 (by decide) k1 (fun _ h9 => h9) rfl dX7_readItem_151 ?_
      refine lv_iconst (v := iI 1) hx hb dX7_readItem_154 rfl ?_
      refine zr_iadd (x := (u_s147.1 9)) (y := 1) hx hb dX7_readItem_155 ?_
      obtain ⟨r153, h154⟩ := h152
      refine va_put (v := .int (iI ((u_s147.1 9) + 1))) (ty := .int) (ci := 7) (C := RX7) (T := TX7) (N := 12) hx hb hts imX7_readItem_X7 tyX7 tyX7_ok nmX7 hown hK hP hD hS 0 rfl rfl 9 (by decide) k1 (fun _ h9 => h9) rfl (tyX7_ok 9 (by decide)) rfl rfl (Nat.le_of_ble_eq_true rfl) dX7_readItem_156 (fun H locs hP hD hS => ?_)
      have hP : va_P G.1 vwCl (W7 G a (sS (sA u_s147 8 (uZ (u_s147.2 8) ((3 * (s.1 9)) + 1) z149)) 9 ((u_s147.1 9) + 1))) H := hP
      have hD : va_D A (W7 G a (sS (sA u_s147 8 (uZ (u_s147.2 8) ((3 * (s.1 9)) + 1) z149)) 9 ((u_s147.1 9) + 1))) := hD
      exact zr_vret hx hb hr hlocks hK (sS (sA u_s147 8 (uZ (u_s147.2 8) ((3 * (s.1 9)) + 1) z149)) 9 ((u_s147.1 9) + 1)) hP hD hS dX7_readItem_159 ⟨(RG_S (RG_A ru_s147 (rgA_u (i := (3 * (s.1 9)) + 1) (ru_s147.2 8) r151)) r153), h154⟩
theorem c_X7_readItem (l : Launch) (G : ZG) (a : Nat → Nat) (s : SS)   (r_s : RG s)  (p0 : 0 ≤ (s.1 7) ∧ (s.1 7) ≤ 80) (p1 : Bf s) (p2 : (s.1 11) = -6) (p3 : 0 ≤ (s.1 10) ∧ (s.1 10) ≤ (s.1 7)) (p4 : StA (s.2 6) (s.1 10) (0, 0, 0, 0)) (p5 : 0 ≤ (s.1 9) ∧ 2 * (s.1 9) ≤ (s.1 10)) : ZV l G yX7_readItem wsX7_readItem 3 66 [.ref (a 0)] (W7 G a s) (fun u : SS => W7 G a u) (fun (u : SS) => RG u ∧ (rdA s u)) :=
  c0_X7_readItem l G a s (fun s' => rdA s s') r_s  (sp_X7_readItem s  r_s  p0 p1 p2 p3 p4 p5)
theorem imX7_errorPosition_X7 : ∀ w ∈ wsX70, w ∈ wsX7_errorPosition := fun _ h => (List.mem_cons_of_mem _ (List.mem_append_right _ h))
theorem hdX7_errorPosition : yX7_errorPosition.cls = RX7 ∧ yX7_errorPosition.cls ≠ "java/lang/invoke/MethodHandle" ∧ yX7_errorPosition.cls ≠ "java/lang/invoke/VarHandle" ∧ (parseMethodDescriptor yX7_errorPosition.desc).map (fun d => d.parameters.length) = some 0 := by decide +kernel
set_option maxRecDepth 100000 in
set_option maxHeartbeats 4000000 in
theorem c0_X7_errorPosition (l : Launch) (G : ZG) (a : Nat → Nat) (s : SS)  (P : Int → SS → Prop) (r_s : RG s)  (hwp : wp_X7_errorPosition s P) : ZI l G yX7_errorPosition wsX7_errorPosition 4 88 [.ref (a 0)] (W7 G a s) (fun u : SS => W7 G a u) (fun (z : Int) (u : SS) => rg z ∧ RG u ∧ P z u) := by
  unfold wp_X7_errorPosition at hwp
  refine zm_i (cc := cX7_errorPosition) (maxL := 2) (ret := some .int) (own := RX7) (lvs := [(0, .ref (a 0))]) (by decide) rfl rfl (Nat.le_of_ble_eq_true rfl) rfl ?_
  intro p e sT m args below meth c ls A hx hb hr hml hown hts hlocks hK hP hD hS hA hl
  have k1 := hts (.fieldLink RX7 158 "GrantedSortModel" "toldMany" "I") (List.mem_of_getElem? (i := 1) rfl)
  have k2 := hts (.fieldLink RX7 142 "GrantedSortModel" "spot" "I") (List.mem_of_getElem? (i := 2) rfl)
  have k3 := hts (.fieldLink RX7 148 "GrantedSortModel" "wrong" "I") (List.mem_of_getElem? (i := 3) rfl)
  have k4 := hts (.fieldLink RX7 139 "GrantedSortModel" "typed" "I") (List.mem_of_getElem? (i := 4) rfl)
  refine lv_aload_n hx hb dX7_errorPosition_0 rfl (lv_at hl 0 rfl) ?_
  refine lv_iconst (v := iI 0) hx hb dX7_errorPosition_1 rfl ?_
  refine va_put (v := .int (iI 0)) (ty := .int) (ci := 7) (C := RX7) (T := TX7) (N := 12) hx hb hts imX7_errorPosition_X7 tyX7 tyX7_ok nmX7 hown hK hP hD hS 0 rfl rfl 9 (by decide) k1 (fun _ h9 => h9) rfl (tyX7_ok 9 (by decide)) rfl rfl (Nat.le_of_ble_eq_true rfl) dX7_errorPosition_2 (fun H locs hP hD hS => ?_)
  have hP : va_P G.1 vwCl (W7 G a (sS s 9 0)) H := hP
  have hD : va_D A (W7 G a (sS s 9 0)) := hD
  refine lv_aload_n hx hb dX7_errorPosition_5 rfl (lv_at hl 0 rfl) ?_
  refine lv_iconst (v := iI 0) hx hb dX7_errorPosition_6 rfl ?_
  refine va_put (v := .int (iI 0)) (ty := .int) (ci := 7) (C := RX7) (T := TX7) (N := 12) hx hb hts imX7_errorPosition_X7 tyX7 tyX7_ok nmX7 hown hK hP hD hS 0 rfl rfl 10 (by decide) k2 (fun _ h9 => h9) rfl (tyX7_ok 10 (by decide)) rfl rfl (Nat.le_of_ble_eq_true rfl) dX7_errorPosition_7 (fun H locs hP hD hS => ?_)
  have hP : va_P G.1 vwCl (W7 G a (sS (sS s 9 0) 10 0)) H := hP
  have hD : va_D A (W7 G a (sS (sS s 9 0) 10 0)) := hD
  refine lv_aload_n hx hb dX7_errorPosition_10 rfl (lv_at hl 0 rfl) ?_
  refine lv_bipush (v := iI (-6)) hx hb dX7_errorPosition_11 (by decide) ?_
  refine va_put (v := .int (iI (-6))) (ty := .int) (ci := 7) (C := RX7) (T := TX7) (N := 12) hx hb hts imX7_errorPosition_X7 tyX7 tyX7_ok nmX7 hown hK hP hD hS 0 rfl rfl 11 (by decide) k3 (fun _ h9 => h9) rfl (tyX7_ok 11 (by decide)) rfl rfl (Nat.le_of_ble_eq_true rfl) dX7_errorPosition_13 (fun H locs hP hD hS => ?_)
  have hP : va_P G.1 vwCl (W7 G a (sS (sS (sS s 9 0) 10 0) 11 (-6))) H := hP
  have hD : va_D A (W7 G a (sS (sS (sS s 9 0) 10 0) 11 (-6))) := hD
  refine lv_iconst (v := iI 1) hx hb dX7_errorPosition_16 rfl ?_
  refine lv_istore_n (lv' := [(1, .int (iI 1)), (0, .ref (a 0))]) hx hb dX7_errorPosition_17 rfl hl (by decide) rfl (fun ls hl => ?_)
  obtain ⟨I2, μ3, h4, h5⟩ := hwp
  refine zr_loop (G := G) (σ := Int × SS) (fun x_1 => (rg x_1.1 ∧ RG x_1.2) ∧ I2 x_1.1 x_1.2) (fun x_1 => μ3 x_1.1 x_1.2) (fun x_1 => W7 G a x_1.2) (fun x_1 => [(1, .int (iI x_1.1)), (0, .ref (a 0))]) ((1, sS (sS (sS s 9 0) 10 0) 11 (-6))) ⟨⟨rg_1, (RG_S (RG_S (RG_S r_s rg_0) rg_0) rg_m6)⟩, h4⟩ hP hD hS (lv_sub hl [0, 1] rfl) ?_
  clear hP hD hS hl
  intro x_1 H locs ls ih6 h7 hP hD hS hl
  obtain ⟨x1_1, s0_1⟩ := x_1
  obtain ⟨⟨rx1_1, rs0_1⟩, h7⟩ := h7
  have h8 := h5 x1_1 s0_1 rx1_1 rs0_1 h7
  have hP : va_P G.1 vwCl (W7 G a s0_1) H := hP
  have hD : va_D A (W7 G a s0_1) := hD
  have hl : lv_has ls 2 [(1, .int (iI x1_1)), (0, .ref (a 0))] := hl
  refine lv_iload_n hx hb dX7_errorPosition_18 rfl (lv_at hl 0 rfl) ?_
  refine zr_if_eq (tgt := 92) (x := x1_1) hx hb rx1_1 dX7_errorPosition_19 (by decide) (fun c9 => ?_) (fun c9 => ?_)
  · have h12 := h8.1 c9
    refine lv_aload_n hx hb dX7_errorPosition_92 rfl (lv_at hl 1 rfl) ?_
    refine va_get (v := .int (iI (s0_1.1 11))) (ci := 7) (C := RX7) (T := TX7) (N := 12) hx hb hts imX7_errorPosition_X7 hown hK hP 0 rfl rfl 11 (by decide) k3 (fun _ h9 => h9) rfl dX7_errorPosition_93 ?_
    exact zr_iret (z := (s0_1.1 11)) hx hb hr hlocks hK (s0_1) hP hD hS dX7_errorPosition_96 ⟨(rs0_1.1 11), rs0_1, h12⟩
  · have h13 := h8.2 c9
    refine lv_aload_n hx hb dX7_errorPosition_22 rfl (lv_at hl 1 rfl) ?_
    obtain ⟨b14, h15⟩ := h13
    obtain ⟨b16, h17⟩ := h15
    obtain ⟨b18, h19⟩ := h17
    obtain ⟨b20, h21⟩ := h19
    obtain ⟨b22, h23⟩ := h21
    obtain ⟨b24, h25⟩ := h23
    refine zc_vv (As := []) (rest := []) (w2 := fun u_27 => W7 G a u_27) (c_X7_readItem l G a s0_1 rs0_1 b14 b16 b18 b20 b22 b24) ⟨hx, hb, hml, hown, hts⟩ (cwV 0 hts gX7_errorPosition_X7_readItem rfl rfl rfl hdX7_readItem ⟨Nat.le_of_ble_eq_true rfl, Nat.le_of_ble_eq_true rfl⟩) hK hP hD hS hA (q0 := 0) rfl rfl [0, 1, 2, 3, 4, 5, 6] [] [0, 1, 2, 3, 4, 5, 6] rfl rfl rfl rfl (by decide) (fun _ => rfl) rfl rfl hl.1 rfl (Nat.le_of_ble_eq_true rfl) dX7_errorPosition_23 ⟨Nat.zero_le _, Nat.zero_le _⟩ (fun u_27 H locs hw hP hD hS => ?_)
    obtain ⟨u_s26, rfl⟩ : ∃ q, q = u_27 := ⟨_, rfl⟩
    obtain ⟨ru_s26, h29⟩ := hw
    have h30 := h25 u_s26 ru_s26 h29
    have hP : va_P G.1 vwCl (W7 G a u_s26) H := hP
    have hD : va_D A (W7 G a u_s26) := hD
    refine lv_aload_n hx hb dX7_errorPosition_26 rfl (lv_at hl 1 rfl) ?_
    refine va_get (v := .int (iI (u_s26.1 11))) (ci := 7) (C := RX7) (T := TX7) (N := 12) hx hb hts imX7_errorPosition_X7 hown hK hP 0 rfl rfl 11 (by decide) k3 (fun _ h9 => h9) rfl dX7_errorPosition_27 ?_
    refine lv_bipush (v := iI (-6)) hx hb dX7_errorPosition_30 (by decide) ?_
    refine zr_icmp_ne (tgt := 50) (x := (u_s26.1 11)) (y := (-6)) hx hb (ru_s26.1 11) rg_m6 dX7_errorPosition_32 (by decide) (fun c31 => ?_) (fun c31 => ?_)
    · have h34 := h30.2 c31
      refine lv_iconst (v := iI 0) hx hb dX7_errorPosition_50 rfl ?_
      refine lv_istore_n (lv' := [(1, .int (iI 0)), (0, .ref (a 0))]) hx hb dX7_errorPosition_51 rfl hl (by decide) rfl (fun ls hl => ?_)
      refine lv_iload_n hx hb dX7_errorPosition_52 rfl (lv_at hl 0 rfl) ?_
      refine zr_if_eq (tgt := 18) (x := 0) hx hb rg_0 dX7_errorPosition_53 (by decide) (fun _ => ?_) (fun c => absurd (by decide) c)
      obtain ⟨h35, h36⟩ := h34
      exact ih6 ((0, u_s26)) _ _ _ ⟨⟨rg_0, ru_s26⟩, h35⟩ h36 hP hD hS (lv_sub hl [0, 1] rfl)
    · have h37 := h30.1 c31
      refine lv_aload_n hx hb dX7_errorPosition_35 rfl (lv_at hl 1 rfl) ?_
      refine va_get (v := .int (iI (u_s26.1 10))) (ci := 7) (C := RX7) (T := TX7) (N := 12) hx hb hts imX7_errorPosition_X7 hown hK hP 0 rfl rfl 10 (by decide) k2 (fun _ h9 => h9) rfl dX7_errorPosition_36 ?_
      refine lv_aload_n hx hb dX7_errorPosition_39 rfl (lv_at hl 1 rfl) ?_
      refine va_get (v := .int (iI (u_s26.1 7))) (ci := 7) (C := RX7) (T := TX7) (N := 12) hx hb hts imX7_errorPosition_X7 hown hK hP 0 rfl rfl 7 (by decide) k4 (fun _ h9 => h9) rfl dX7_errorPosition_40 ?_
      refine zr_icmp_ge (tgt := 50) (x := (u_s26.1 10)) (y := (u_s26.1 7)) hx hb (ru_s26.1 10) (ru_s26.1 7) dX7_errorPosition_43 (by decide) (fun c38 => ?_) (fun c38 => ?_)
      · have h41 := h37.2 c38
        refine lv_iconst (v := iI 0) hx hb dX7_errorPosition_50 rfl ?_
        refine lv_istore_n (lv' := [(1, .int (iI 0)), (0, .ref (a 0))]) hx hb dX7_errorPosition_51 rfl hl (by decide) rfl (fun ls hl => ?_)
        refine lv_iload_n hx hb dX7_errorPosition_52 rfl (lv_at hl 0 rfl) ?_
        refine zr_if_eq (tgt := 18) (x := 0) hx hb rg_0 dX7_errorPosition_53 (by decide) (fun _ => ?_) (fun c => absurd (by decide) c)
        obtain ⟨h42, h43⟩ := h41
        exact ih6 ((0, u_s26)) _ _ _ ⟨⟨rg_0, ru_s26⟩, h42⟩ h43 hP hD hS (lv_sub hl [0, 1] rfl)
      · have h44 := h37.1 c38
        refine lv_iconst (v := iI 1) hx hb dX7_errorPosition_46 rfl ?_
        refine lv_goto (tgt := 51) hx hb dX7_errorPosition_47 (by decide) ?_
        refine lv_istore_n (lv' := [(1, .int (iI 1)), (0, .ref (a 0))]) hx hb dX7_errorPosition_51 rfl hl (by decide) rfl (fun ls hl => ?_)
        refine lv_iload_n hx hb dX7_errorPosition_52 rfl (lv_at hl 0 rfl) ?_
        refine zr_if_eq (tgt := 18) (x := 1) hx hb rg_1 dX7_errorPosition_53 (by decide) (fun c => absurd c (by decide)) (fun _ => ?_)
        refine lv_aload_n hx hb dX7_errorPosition_56 rfl (lv_at hl 1 rfl) ?_
        refine lv_aload_n hx hb dX7_errorPosition_57 rfl (lv_at hl 1 rfl) ?_
        obtain ⟨b45, h46⟩ := h44
        obtain ⟨b47, h48⟩ := h46
        refine zc_vi (As := []) (rest := [.ref (a 0)]) (w2 := fun u_49 => W7 G a u_s26) (c_X7_letter l G a u_s26 ru_s26 b45 b47) ⟨hx, hb, hml, hown, hts⟩ (cwV 0 hts gX7_errorPosition_X7_letter rfl rfl rfl hdX7_letter ⟨Nat.le_of_ble_eq_true rfl, Nat.le_of_ble_eq_true rfl⟩) hK hP hD hS hA (q0 := 0) rfl rfl [0, 1, 2, 3, 4, 5, 6] [] [0, 1, 2, 3, 4, 5, 6] rfl rfl rfl rfl (by decide) (fun _ => rfl) rfl rfl hl.1 rfl (Nat.le_of_ble_eq_true rfl) dX7_errorPosition_58 ⟨Nat.zero_le _, Nat.zero_le _⟩ (fun z50 u_49 H locs hw hP hD hS => ?_)
        obtain ⟨rfl, r51⟩ := hw
        have hP : va_P G.1 vwCl (W7 G a u_s26) H := hP
        have hD : va_D A (W7 G a u_s26) := hD
        refine lv_bipush (v := iI 44) hx hb dX7_errorPosition_61 (by decide) ?_
        refine zr_icmp_ne (tgt := 70) (x := letZ u_s26) (y := 44) hx hb r51 rg_44 dX7_errorPosition_63 (by decide) (fun c52 => ?_) (fun c52 => ?_)
        · have h55 := h48.2 c52
          refine lv_iconst (v := iI 0) hx hb dX7_errorPosition_70 rfl ?_
          obtain ⟨b56, h57⟩ := h55
          obtain ⟨b58, h59⟩ := h57
          refine zc_vv (As := [.int (iI 0)]) (rest := []) (w2 := fun u_61 => W7 G a (sS (sS u_s26 10 ((u_s26.1 10) + 1)) 11 (u_s26.1 10))) (c_X7_wants0 l G a u_s26 ru_s26 b56 b58) ⟨hx, hb, hml, hown, hts⟩ (cwV 1 hts gX7_errorPosition_X7_wants rfl rfl rfl hdX7_wants ⟨Nat.le_of_ble_eq_true rfl, Nat.le_of_ble_eq_true rfl⟩) hK hP hD hS hA (q0 := 0) rfl rfl [0, 1, 2, 3, 4, 5, 6] [] [0, 1, 2, 3, 4, 5, 6] rfl rfl rfl rfl (by decide) (fun _ => rfl) rfl rfl hl.1 rfl (Nat.le_of_ble_eq_true rfl) dX7_errorPosition_71 ⟨Nat.zero_le _, Nat.zero_le _⟩ (fun u_61 H locs hw hP hD hS => ?_)
          have r60 := hw
          have hP : va_P G.1 vwCl (W7 G a (sS (sS u_s26 10 ((u_s26.1 10) + 1)) 11 (u_s26.1 10))) H := hP
          have hD : va_D A (W7 G a (sS (sS u_s26 10 ((u_s26.1 10) + 1)) 11 (u_s26.1 10))) := hD
          refine lv_aload_n hx hb dX7_errorPosition_74 rfl (lv_at hl 1 rfl) ?_
          refine va_get (v := .int (iI (u_s26.1 10))) (ci := 7) (C := RX7) (T := TX7) (N := 12) hx hb hts imX7_errorPosition_X7 hown hK hP 0 rfl rfl 11 (by decide) k3 (fun _ h9 => h9) rfl dX7_errorPosition_75 ?_
          refine lv_bipush (v := iI (-6)) hx hb dX7_errorPosition_78 (by decide) ?_
          refine zr_icmp_ne (tgt := 87) (x := (u_s26.1 10)) (y := (-6)) hx hb (r60.1 11) rg_m6 dX7_errorPosition_80 (by decide) (fun c63 => ?_) (fun c63 => ?_)
          · have h66 := h59.2 c63
            refine lv_iconst (v := iI 0) hx hb dX7_errorPosition_87 rfl ?_
            refine lv_istore_n (lv' := [(1, .int (iI 0)), (0, .ref (a 0))]) hx hb dX7_errorPosition_88 rfl hl (by decide) rfl (fun ls hl => ?_)
            refine lv_goto (tgt := 18) hx hb dX7_errorPosition_89 (by decide) ?_
            obtain ⟨h67, h68⟩ := h66
            exact ih6 ((0, sS (sS u_s26 10 ((u_s26.1 10) + 1)) 11 (u_s26.1 10))) _ _ _ ⟨⟨rg_0, (RG_S (RG_S ru_s26 (r60.1 10)) (r60.1 11))⟩, h67⟩ h68 hP hD hS (lv_sub hl [0, 1] rfl)
          · have h69 := h59.1 c63
            refine lv_iconst (v := iI 1) hx hb dX7_errorPosition_83 rfl ?_
            refine lv_goto (tgt := 88) hx hb dX7_errorPosition_84 (by decide) ?_
            refine lv_istore_n (lv' := [(1, .int (iI 1)), (0, .ref (a 0))]) hx hb dX7_errorPosition_88 rfl hl (by decide) rfl (fun ls hl => ?_)
            refine lv_goto (tgt := 18) hx hb dX7_errorPosition_89 (by decide) ?_
            obtain ⟨h70, h71⟩ := h69
            exact ih6 ((1, sS (sS u_s26 10 ((u_s26.1 10) + 1)) 11 (u_s26.1 10))) _ _ _ ⟨⟨rg_1, (RG_S (RG_S ru_s26 (r60.1 10)) (r60.1 11))⟩, h70⟩ h71 hP hD hS (lv_sub hl [0, 1] rfl)
        · have h72 := h48.1 c52
          refine lv_iconst (v := iI 1) hx hb dX7_errorPosition_66 rfl ?_
          refine lv_goto (tgt := 71) hx hb dX7_errorPosition_67 (by decide) ?_
          obtain ⟨b73, h74⟩ := h72
          obtain ⟨b75, h76⟩ := h74
          refine zc_vv (As := [.int (iI 1)]) (rest := []) (w2 := fun u_78 => W7 G a (sS (sS u_s26 10 ((u_s26.1 10) + 1)) 11 (-6))) (c_X7_wants1 l G a u_s26 ru_s26 b73 b75) ⟨hx, hb, hml, hown, hts⟩ (cwV 1 hts gX7_errorPosition_X7_wants rfl rfl rfl hdX7_wants ⟨Nat.le_of_ble_eq_true rfl, Nat.le_of_ble_eq_true rfl⟩) hK hP hD hS hA (q0 := 0) rfl rfl [0, 1, 2, 3, 4, 5, 6] [] [0, 1, 2, 3, 4, 5, 6] rfl rfl rfl rfl (by decide) (fun _ => rfl) rfl rfl hl.1 rfl (Nat.le_of_ble_eq_true rfl) dX7_errorPosition_71 ⟨Nat.zero_le _, Nat.zero_le _⟩ (fun u_78 H locs hw hP hD hS => ?_)
          have r77 := hw
          have hP : va_P G.1 vwCl (W7 G a (sS (sS u_s26 10 ((u_s26.1 10) + 1)) 11 (-6))) H := hP
          have hD : va_D A (W7 G a (sS (sS u_s26 10 ((u_s26.1 10) + 1)) 11 (-6))) := hD
          refine lv_aload_n hx hb dX7_errorPosition_74 rfl (lv_at hl 1 rfl) ?_
          refine va_get (v := .int (iI (-6))) (ci := 7) (C := RX7) (T := TX7) (N := 12) hx hb hts imX7_errorPosition_X7 hown hK hP 0 rfl rfl 11 (by decide) k3 (fun _ h9 => h9) rfl dX7_errorPosition_75 ?_
          refine lv_bipush (v := iI (-6)) hx hb dX7_errorPosition_78 (by decide) ?_
          refine zr_icmp_ne (tgt := 87) (x := (-6)) (y := (-6)) hx hb (r77.1 11) rg_m6 dX7_errorPosition_80 (by decide) (fun c80 => ?_) (fun c80 => ?_)
          · have h83 := h76.2 c80
            refine lv_iconst (v := iI 0) hx hb dX7_errorPosition_87 rfl ?_
            refine lv_istore_n (lv' := [(1, .int (iI 0)), (0, .ref (a 0))]) hx hb dX7_errorPosition_88 rfl hl (by decide) rfl (fun ls hl => ?_)
            refine lv_goto (tgt := 18) hx hb dX7_errorPosition_89 (by decide) ?_
            obtain ⟨h84, h85⟩ := h83
            exact ih6 ((0, sS (sS u_s26 10 ((u_s26.1 10) + 1)) 11 (-6))) _ _ _ ⟨⟨rg_0, (RG_S (RG_S ru_s26 (r77.1 10)) (r77.1 11))⟩, h84⟩ h85 hP hD hS (lv_sub hl [0, 1] rfl)
          · have h86 := h76.1 c80
            refine lv_iconst (v := iI 1) hx hb dX7_errorPosition_83 rfl ?_
            refine lv_goto (tgt := 88) hx hb dX7_errorPosition_84 (by decide) ?_
            refine lv_istore_n (lv' := [(1, .int (iI 1)), (0, .ref (a 0))]) hx hb dX7_errorPosition_88 rfl hl (by decide) rfl (fun ls hl => ?_)
            refine lv_goto (tgt := 18) hx hb dX7_errorPosition_89 (by decide) ?_
            obtain ⟨h87, h88⟩ := h86
            exact ih6 ((1, sS (sS u_s26 10 ((u_s26.1 10) + 1)) 11 (-6))) _ _ _ ⟨⟨rg_1, (RG_S (RG_S ru_s26 (r77.1 10)) (r77.1 11))⟩, h87⟩ h88 hP hD hS (lv_sub hl [0, 1] rfl)
theorem c_X7_errorPosition (l : Launch) (G : ZG) (a : Nat → Nat) (s : SS)   (r_s : RG s)  (p0 : 0 ≤ (s.1 7) ∧ (s.1 7) ≤ 80) (p1 : Bf s) : ZI l G yX7_errorPosition wsX7_errorPosition 4 88 [.ref (a 0)] (W7 G a s) (fun u : SS => W7 G a u) (fun (zq : Int) (u : SS) => rg zq ∧ RG u ∧ (epA s u zq)) :=
  c0_X7_errorPosition l G a s (fun r s' => epA s s' r) r_s  (sp_X7_errorPosition s  r_s  p0 p1)
