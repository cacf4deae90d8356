theorem imX5_beginMerge_X4 : ∀ w ∈ wsX40, w ∈ wsX5_beginMerge := fun _ h => (List.mem_cons_of_mem _ (List.mem_append_right _ h))
theorem imX5_beginMerge_X5 : ∀ w ∈ wsX50, w ∈ wsX5_beginMerge := fun _ h => (List.mem_cons_of_mem _ (List.mem_append_left _ (List.mem_append_right _ h)))
theorem hdX5_beginMerge : yX5_beginMerge.cls = RX5 ∧ yX5_beginMerge.cls ≠ "java/lang/invoke/MethodHandle" ∧ yX5_beginMerge.cls ≠ "java/lang/invoke/VarHandle" ∧ (parseMethodDescriptor yX5_beginMerge.desc).map (fun d => d.parameters.length) = some 0 := by decide +kernel
set_option maxRecDepth 100000 in
set_option maxHeartbeats 4000000 in
theorem c0_X5_beginMerge (l : Launch) (G : ZG) (a : Nat → Nat) (s : SS)  (P : Int → SS → Prop) (r_s : RG s)  (hwp : wp_X5_beginMerge s P) : ZI l G yX5_beginMerge wsX5_beginMerge 2 62 [.ref (a 0)] (W5 G a s) (fun u : SS => W5 G a u) (fun (z : Int) (u : SS) => rg z ∧ RG u ∧ P z u) := by
  unfold wp_X5_beginMerge at hwp
  refine zm_i (cc := cX5_beginMerge) (maxL := 4) (ret := some .int) (own := RX5) (lvs := [(0, .ref (a 0))]) (by decide) rfl rfl (Nat.le_of_ble_eq_true rfl) rfl ?_
  intro p e sT m args below meth c ls A hx hb hr hml hown hts hlocks hK hP hD hS hA hl
  have k1 := hts (.fieldLink RX5 21 "GrantedSort$SortState" "disk" "LGrantedSort$RunList;") (List.mem_of_getElem? (i := 1) rfl)
  have k2 := hts (.fieldLink RX5 83 "GrantedSort$RunList" "total" "I") (List.mem_of_getElem? (i := 2) rfl)
  have k3 := hts (.methodLink RX5 90 Lib.Math.min.name) (List.mem_of_getElem? (i := 3) rfl)
  have k4 := hts (.static Lib.Math.min.name) (List.mem_of_getElem? (i := 4) rfl)
  have k5 := hts (.initialized "java/lang/Math") (List.mem_of_getElem? (i := 5) rfl)
  have k6 := hts (.code Lib.Math.min.name Lib.Math.min.code 2 (some .int)) (List.mem_of_getElem? (i := 6) rfl)
  have k7 := hts (.fieldLink RX5 37 "GrantedSort$SortState" "inputs" "LGrantedSort$RunList;") (List.mem_of_getElem? (i := 7) rfl)
  have k8 := hts (.fieldLink RX5 59 "GrantedSort$SortState" "inputsAtBegin" "I") (List.mem_of_getElem? (i := 8) rfl)
  have k9 := hts (.fieldLink RX5 74 "GrantedSort$SortState" "mergesBegun" "I") (List.mem_of_getElem? (i := 9) rfl)
  refine lv_aload_n hx hb dX5_beginMerge_0 rfl (lv_at hl 0 rfl) ?_
  obtain ⟨b1, h2⟩ := hwp
  refine zc_vi (As := []) (rest := []) (w2 := fun u_3 => W5 G a s) (c_X5_ways l G a s r_s b1) ⟨hx, hb, hml, hown, hts⟩ (cwV 0 hts gX5_beginMerge_X5_ways rfl rfl rfl hdX5_ways ⟨Nat.le_of_ble_eq_true rfl, Nat.le_of_ble_eq_true rfl⟩) hK hP hD hS hA (q0 := 0) rfl rfl [0, 1, 2, 3, 4, 5, 6, 7, 8, 9, 10, 11, 12, 13] [] [0, 1, 2, 3, 4, 5, 6, 7, 8, 9, 10, 11, 12, 13] rfl rfl rfl rfl (by decide) (fun _ => rfl) rfl rfl hl.1 rfl (Nat.le_of_ble_eq_true rfl) dX5_beginMerge_1 ⟨Nat.zero_le _, Nat.zero_le _⟩ (fun z4 u_3 H locs hw hP hD hS => ?_)
  obtain ⟨rfl, r5⟩ := hw
  have hP : va_P G.1 vwCl (W5 G a s) H := hP
  have hD : va_D A (W5 G a s) := hD
  refine lv_aload_n hx hb dX5_beginMerge_4 rfl (lv_at hl 0 rfl) ?_
  refine va_get (v := .ref (a 5)) (ci := 5) (C := RX5) (T := TX5) (N := 16) hx hb hts imX5_beginMerge_X5 hown hK hP 0 rfl rfl 1 (by decide) k1 (fun _ h9 => h9) rfl dX5_beginMerge_5 ?_
  refine va_get (v := .int (iI (s.1 17))) (ci := 4) (C := RX4) (T := TX4) (N := 4) hx hb hts imX5_beginMerge_X4 hown hK hP 5 rfl rfl 3 (by decide) k2 (fun _ h9 => h9) rfl dX5_beginMerge_8 ?_
  refine zr_mmin (x := waysZ (s.1 4)) (y := (s.1 17)) r5 (r_s.1 17) hx hb (hml.trans hl.1.symm) hown k3 k4 k5 k6 (Nat.le_of_ble_eq_true rfl) (Nat.le_of_ble_eq_true rfl) (Nat.zero_le _) (Nat.zero_le _) dX5_beginMerge_11 ?_
  refine lv_istore_n (lv' := [(1, .int (iI (min (waysZ (s.1 4)) (s.1 17)))), (0, .ref (a 0))]) hx hb dX5_beginMerge_14 rfl hl (by decide) rfl (fun ls hl => ?_)
  refine lv_iconst (v := iI 0) hx hb dX5_beginMerge_15 rfl ?_
  refine lv_istore_n (lv' := [(2, .int (iI 0)), (1, .int (iI (min (waysZ (s.1 4)) (s.1 17)))), (0, .ref (a 0))]) hx hb dX5_beginMerge_16 rfl hl (by decide) rfl (fun ls hl => ?_)
  obtain ⟨I7, μ8, h9, h10⟩ := h2
  refine zr_loop (G := G) (σ := Int × SS) (fun x_6 => (rg x_6.1 ∧ RG x_6.2) ∧ I7 x_6.1 x_6.2) (fun x_6 => μ8 x_6.1 x_6.2) (fun x_6 => W5 G a x_6.2) (fun x_6 => [(2, .int (iI x_6.1)), (1, .int (iI (min (waysZ (s.1 4)) (s.1 17)))), (0, .ref (a 0))]) ((0, s)) ⟨⟨rg_0, r_s⟩, h9⟩ hP hD hS (lv_sub hl [0, 1, 2] rfl) ?_
  clear hP hD hS hl
  intro x_6 H locs ls ih11 h12 hP hD hS hl
  obtain ⟨x2_6, s0_6⟩ := x_6
  obtain ⟨⟨rx2_6, rs0_6⟩, h12⟩ := h12
  have h13 := h10 x2_6 s0_6 rx2_6 rs0_6 h12
  have hP : va_P G.1 vwCl (W5 G a s0_6) H := hP
  have hD : va_D A (W5 G a s0_6) := hD
  have hl : lv_has ls 4 [(2, .int (iI x2_6)), (1, .int (iI (min (waysZ (s.1 4)) (s.1 17)))), (0, .ref (a 0))] := hl
  refine lv_iload_n hx hb dX5_beginMerge_17 rfl (lv_at hl 0 rfl) ?_
  refine lv_iload_n hx hb dX5_beginMerge_18 rfl (lv_at hl 1 rfl) ?_
  refine zr_icmp_ge (tgt := 75) (x := x2_6) (y := min (waysZ (s.1 4)) (s.1 17)) hx hb rx2_6 (rg_min r5 (r_s.1 17)) dX5_beginMerge_19 (by decide) (fun c14 => ?_) (fun c14 => ?_)
  · have h17 := h13.2 c14
    refine lv_aload_n hx hb dX5_beginMerge_75 rfl (lv_at hl 2 rfl) ?_
    refine lv_aload_n hx hb dX5_beginMerge_76 rfl (lv_at hl 2 rfl) ?_
    refine va_get (v := .ref (a 10)) (ci := 5) (C := RX5) (T := TX5) (N := 16) hx hb hts imX5_beginMerge_X5 hown hK hP 0 rfl rfl 7 (by decide) k7 (fun _ h9 => h9) rfl dX5_beginMerge_77 ?_
    refine va_get (v := .int (iI (s0_6.1 18))) (ci := 4) (C := RX4) (T := TX4) (N := 4) hx hb hts imX5_beginMerge_X4 hown hK hP 10 rfl rfl 3 (by decide) k2 (fun _ h9 => h9) rfl dX5_beginMerge_80 ?_
    refine va_put (v := .int (iI (s0_6.1 18))) (ty := .int) (ci := 5) (C := RX5) (T := TX5) (N := 16) hx hb hts imX5_beginMerge_X5 tyX5 tyX5_ok nmX5 hown hK hP hD hS 0 rfl rfl 8 (by decide) k8 (fun _ h9 => h9) rfl (tyX5_ok 8 (by decide)) rfl rfl (Nat.le_of_ble_eq_true rfl) dX5_beginMerge_83 (fun H locs hP hD hS => ?_)
    have hP : va_P G.1 vwCl (W5 G a (sS s0_6 8 (s0_6.1 18))) H := hP
    have hD : va_D A (W5 G a (sS s0_6 8 (s0_6.1 18))) := hD
    refine lv_aload_n hx hb dX5_beginMerge_86 rfl (lv_at hl 2 rfl) ?_
    refine lv_dup hx hb dX5_beginMerge_87 rfl ?_
    refine va_get (v := .int (iI (s0_6.1 13))) (ci := 5) (C := RX5) (T := TX5) (N := 16) hx hb hts imX5_beginMerge_X5 hown hK hP 0 rfl rfl 13 (by decide) k9 (fun _ h9 => h9) rfl dX5_beginMerge_88 ?_
    refine lv_iconst (v := iI 1) hx hb dX5_beginMerge_91 rfl ?_
    refine zr_iadd (x := (s0_6.1 13)) (y := 1) hx hb dX5_beginMerge_92 ?_
    obtain ⟨r18, h19⟩ := h17
    refine va_put (v := .int (iI ((s0_6.1 13) + 1))) (ty := .int) (ci := 5) (C := RX5) (T := TX5) (N := 16) hx hb hts imX5_beginMerge_X5 tyX5 tyX5_ok nmX5 hown hK hP hD hS 0 rfl rfl 13 (by decide) k9 (fun _ h9 => h9) rfl (tyX5_ok 13 (by decide)) rfl rfl (Nat.le_of_ble_eq_true rfl) dX5_beginMerge_93 (fun H locs hP hD hS => ?_)
    have hP : va_P G.1 vwCl (W5 G a (sS (sS s0_6 8 (s0_6.1 18)) 13 ((s0_6.1 13) + 1))) H := hP
    have hD : va_D A (W5 G a (sS (sS s0_6 8 (s0_6.1 18)) 13 ((s0_6.1 13) + 1))) := hD
    refine lv_aload_n hx hb dX5_beginMerge_96 rfl (lv_at hl 2 rfl) ?_
    refine va_get (v := .int (iI (s0_6.1 18))) (ci := 5) (C := RX5) (T := TX5) (N := 16) hx hb hts imX5_beginMerge_X5 hown hK hP 0 rfl rfl 8 (by decide) k8 (fun _ h9 => h9) rfl dX5_beginMerge_97 ?_
    exact zr_iret (z := (s0_6.1 18)) hx hb hr hlocks hK (sS (sS s0_6 8 (s0_6.1 18)) 13 ((s0_6.1 13) + 1)) hP hD hS dX5_beginMerge_100 ⟨(rs0_6.1 18), (RG_S (RG_S rs0_6 (rs0_6.1 18)) r18), h19⟩
  · have h20 := h13.1 c14
    refine lv_aload_n hx hb dX5_beginMerge_22 rfl (lv_at hl 2 rfl) ?_
    refine va_get (v := .ref (a 5)) (ci := 5) (C := RX5) (T := TX5) (N := 16) hx hb hts imX5_beginMerge_X5 hown hK hP 0 rfl rfl 1 (by decide) k1 (fun _ h9 => h9) rfl dX5_beginMerge_23 ?_
    obtain ⟨b21, h22⟩ := h20
    refine zc_vi (As := []) (rest := []) (w2 := fun u_23 => W5 G a s0_6) (c_X4_placeOfShortest l G (a 5) (a 6) (a 7) (a 8) (s0_6.2 3) (s0_6.2 4) (s0_6.2 5) (s0_6.1 17) (rs0_6.2 3) (rs0_6.2 4) (rs0_6.2 5) (rs0_6.1 17) b21) ⟨hx, hb, hml, hown, hts⟩ (cwV 0 hts gX5_beginMerge_X4_placeOfShortest rfl rfl rfl hdX4_placeOfShortest ⟨Nat.le_of_ble_eq_true rfl, Nat.le_of_ble_eq_true rfl⟩) hK hP hD hS hA (q0 := 5) rfl rfl [5, 6, 7, 8] [0, 1, 2, 3, 4, 9, 10, 11, 12, 13] [0, 1, 2, 3, 4, 10, 11, 12, 13, 5, 6, 7, 8, 9] rfl rfl rfl rfl (by decide) (fun _ => rfl) rfl rfl hl.1 rfl (Nat.le_of_ble_eq_true rfl) dX5_beginMerge_26 ⟨Nat.zero_le _, Nat.zero_le _⟩ (fun z24 u_23 H locs hw hP hD hS => ?_)
    obtain ⟨r26, h25⟩ := hw
    have h27 := h22 z24 r26 h25
    have hP : va_P G.1 vwCl (W5 G a s0_6) H := hP
    have hD : va_D A (W5 G a s0_6) := hD
    refine lv_istore_n (lv' := [(3, .int (iI z24)), (2, .int (iI x2_6)), (1, .int (iI (min (waysZ (s.1 4)) (s.1 17)))), (0, .ref (a 0))]) hx hb dX5_beginMerge_29 rfl hl (by decide) rfl (fun ls hl => ?_)
    refine lv_aload_n hx hb dX5_beginMerge_30 rfl (lv_at hl 3 rfl) ?_
    refine va_get (v := .ref (a 10)) (ci := 5) (C := RX5) (T := TX5) (N := 16) hx hb hts imX5_beginMerge_X5 hown hK hP 0 rfl rfl 7 (by decide) k7 (fun _ h9 => h9) rfl dX5_beginMerge_31 ?_
    refine lv_aload_n hx hb dX5_beginMerge_34 rfl (lv_at hl 3 rfl) ?_
    refine va_get (v := .ref (a 5)) (ci := 5) (C := RX5) (T := TX5) (N := 16) hx hb hts imX5_beginMerge_X5 hown hK hP 0 rfl rfl 1 (by decide) k1 (fun _ h9 => h9) rfl dX5_beginMerge_35 ?_
    refine lv_iload_n hx hb dX5_beginMerge_38 rfl (lv_at hl 0 rfl) ?_
    obtain ⟨b28, h29⟩ := h27
    refine zc_vi (As := [.int (iI z24)]) (rest := [.ref (a 10)]) (w2 := fun u_30 => W5 G a s0_6) (c_X4_numberAt l G (a 5) (a 6) (a 7) (a 8) (s0_6.2 3) (s0_6.2 4) (s0_6.2 5) (s0_6.1 17) z24 (rs0_6.2 3) (rs0_6.2 4) (rs0_6.2 5) (rs0_6.1 17) r26 b28) ⟨hx, hb, hml, hown, hts⟩ (cwV 1 hts gX5_beginMerge_X4_numberAt rfl rfl rfl hdX4_numberAt ⟨Nat.le_of_ble_eq_true rfl, Nat.le_of_ble_eq_true rfl⟩) hK hP hD hS hA (q0 := 5) rfl rfl [5, 6, 7, 8] [0, 1, 2, 3, 4, 9, 10, 11, 12, 13] [0, 1, 2, 3, 4, 10, 11, 12, 13, 5, 6, 7, 8, 9] rfl rfl rfl rfl (by decide) (fun _ => rfl) rfl rfl hl.1 rfl (Nat.le_of_ble_eq_true rfl) dX5_beginMerge_39 ⟨Nat.zero_le _, Nat.zero_le _⟩ (fun z31 u_30 H locs hw hP hD hS => ?_)
    obtain ⟨rfl, r32⟩ := hw
    have hP : va_P G.1 vwCl (W5 G a s0_6) H := hP
    have hD : va_D A (W5 G a s0_6) := hD
    refine lv_aload_n hx hb dX5_beginMerge_42 rfl (lv_at hl 3 rfl) ?_
    refine va_get (v := .ref (a 5)) (ci := 5) (C := RX5) (T := TX5) (N := 16) hx hb hts imX5_beginMerge_X5 hown hK hP 0 rfl rfl 1 (by decide) k1 (fun _ h9 => h9) rfl dX5_beginMerge_43 ?_
    refine lv_iload_n hx hb dX5_beginMerge_46 rfl (lv_at hl 0 rfl) ?_
    refine zc_vi (As := [.int (iI z24)]) (rest := [.int (iI ((s0_6.2 3) z24)), .ref (a 10)]) (w2 := fun u_33 => W5 G a s0_6) (c_X4_firstAt l G (a 5) (a 6) (a 7) (a 8) (s0_6.2 3) (s0_6.2 4) (s0_6.2 5) (s0_6.1 17) z24 (rs0_6.2 3) (rs0_6.2 4) (rs0_6.2 5) (rs0_6.1 17) r26 b28) ⟨hx, hb, hml, hown, hts⟩ (cwV 1 hts gX5_beginMerge_X4_firstAt rfl rfl rfl hdX4_firstAt ⟨Nat.le_of_ble_eq_true rfl, Nat.le_of_ble_eq_true rfl⟩) hK hP hD hS hA (q0 := 5) rfl rfl [5, 6, 7, 8] [0, 1, 2, 3, 4, 9, 10, 11, 12, 13] [0, 1, 2, 3, 4, 10, 11, 12, 13, 5, 6, 7, 8, 9] rfl rfl rfl rfl (by decide) (fun _ => rfl) rfl rfl hl.1 rfl (Nat.le_of_ble_eq_true rfl) dX5_beginMerge_47 ⟨Nat.zero_le _, Nat.zero_le _⟩ (fun z34 u_33 H locs hw hP hD hS => ?_)
    obtain ⟨rfl, r35⟩ := hw
    have hP : va_P G.1 vwCl (W5 G a s0_6) H := hP
    have hD : va_D A (W5 G a s0_6) := hD
    refine lv_aload_n hx hb dX5_beginMerge_50 rfl (lv_at hl 3 rfl) ?_
    refine va_get (v := .ref (a 5)) (ci := 5) (C := RX5) (T := TX5) (N := 16) hx hb hts imX5_beginMerge_X5 hown hK hP 0 rfl rfl 1 (by decide) k1 (fun _ h9 => h9) rfl dX5_beginMerge_51 ?_
    refine lv_iload_n hx hb dX5_beginMerge_54 rfl (lv_at hl 0 rfl) ?_
    refine zc_vi (As := [.int (iI z24)]) (rest := [.int (iI ((s0_6.2 4) z24)), .int (iI ((s0_6.2 3) z24)), .ref (a 10)]) (w2 := fun u_36 => W5 G a s0_6) (c_X4_lengthAt l G (a 5) (a 6) (a 7) (a 8) (s0_6.2 3) (s0_6.2 4) (s0_6.2 5) (s0_6.1 17) z24 (rs0_6.2 3) (rs0_6.2 4) (rs0_6.2 5) (rs0_6.1 17) r26) ⟨hx, hb, hml, hown, hts⟩ (cwV 1 hts gX5_beginMerge_X4_lengthAt rfl rfl rfl hdX4_lengthAt ⟨Nat.le_of_ble_eq_true rfl, Nat.le_of_ble_eq_true rfl⟩) hK hP hD hS hA (q0 := 5) rfl rfl [5, 6, 7, 8] [0, 1, 2, 3, 4, 9, 10, 11, 12, 13] [0, 1, 2, 3, 4, 10, 11, 12, 13, 5, 6, 7, 8, 9] rfl rfl rfl rfl (by decide) (fun _ => rfl) rfl rfl hl.1 rfl (Nat.le_of_ble_eq_true rfl) dX5_beginMerge_55 ⟨Nat.zero_le _, Nat.zero_le _⟩ (fun z37 u_36 H locs hw hP hD hS => ?_)
    obtain ⟨rfl, r38⟩ := hw
    have hP : va_P G.1 vwCl (W5 G a s0_6) H := hP
    have hD : va_D A (W5 G a s0_6) := hD
    obtain ⟨b39, h40⟩ := h29
    refine zc_vv (As := [.int (iI ((s0_6.2 3) z24)), .int (iI ((s0_6.2 4) z24)), .int (iI (if 0 ≤ z24 ∧ z24 < 120 then (s0_6.2 5) z24 else 0))]) (rest := []) (w2 := fun u_45 => W5 G a (sS (sA (sA (sA s0_6 6 u_45.1) 7 u_45.2.1) 8 u_45.2.2.1) 18 u_45.2.2.2)) (c_X4_insert l G (a 10) (a 11) (a 12) (a 13) (s0_6.2 6) (s0_6.2 7) (s0_6.2 8) (s0_6.1 18) ((s0_6.2 3) z24) ((s0_6.2 4) z24) (if 0 ≤ z24 ∧ z24 < 120 then (s0_6.2 5) z24 else 0) (rs0_6.2 6) (rs0_6.2 7) (rs0_6.2 8) (rs0_6.1 18) r32 r35 r38 b39) ⟨hx, hb, hml, hown, hts⟩ (cwV 3 hts gX5_beginMerge_X4_insert rfl rfl rfl hdX4_insert ⟨Nat.le_of_ble_eq_true rfl, Nat.le_of_ble_eq_true rfl⟩) hK hP hD hS hA (q0 := 10) rfl rfl [10, 11, 12, 13] [0, 1, 2, 3, 4, 5, 6, 7, 8, 9] [0, 1, 2, 3, 4, 5, 6, 7, 8, 9, 10, 11, 12, 13] rfl rfl rfl rfl (by decide) (fun _ => rfl) rfl rfl hl.1 rfl (Nat.le_of_ble_eq_true rfl) dX5_beginMerge_58 ⟨Nat.zero_le _, Nat.zero_le _⟩ (fun u_45 H locs hw hP hD hS => ?_)
    obtain ⟨u_nu41, u_fi42, u_le43, u_to44⟩ := u_45
    obtain ⟨ru_nu41, ru_fi42, ru_le43, ru_to44, h47⟩ := hw
    have h48 := h40 u_nu41 u_fi42 u_le43 u_to44 ru_nu41 ru_fi42 ru_le43 ru_to44 h47
    have hP : va_P G.1 vwCl (W5 G a (sS (sA (sA (sA s0_6 6 u_nu41) 7 u_fi42) 8 u_le43) 18 u_to44)) H := hP
    have hD : va_D A (W5 G a (sS (sA (sA (sA s0_6 6 u_nu41) 7 u_fi42) 8 u_le43) 18 u_to44)) := hD
    refine lv_aload_n hx hb dX5_beginMerge_61 rfl (lv_at hl 3 rfl) ?_
    refine va_get (v := .ref (a 5)) (ci := 5) (C := RX5) (T := TX5) (N := 16) hx hb hts imX5_beginMerge_X5 hown hK hP 0 rfl rfl 1 (by decide) k1 (fun _ h9 => h9) rfl dX5_beginMerge_62 ?_
    refine lv_iload_n hx hb dX5_beginMerge_65 rfl (lv_at hl 0 rfl) ?_
    obtain ⟨b49, h50⟩ := h48
    refine zc_vv (As := [.int (iI z24)]) (rest := []) (w2 := fun u_55 => W5 G a (sS (sS (sA (sA (sA (sA (sA (sA s0_6 3 (cI (s0_6.2 3) (s0_6.2 3) (z24 + 1) z24 ((s0_6.1 17) - z24 - 1))) 4 (cI (s0_6.2 4) (s0_6.2 4) (z24 + 1) z24 ((s0_6.1 17) - z24 - 1))) 5 (cI (s0_6.2 5) (s0_6.2 5) (z24 + 1) z24 ((s0_6.1 17) - z24 - 1))) 6 u_nu41) 7 u_fi42) 8 u_le43) 17 ((s0_6.1 17) - 1)) 18 u_to44)) (c_X4_remove l G (a 5) (a 6) (a 7) (a 8) (s0_6.2 3) (s0_6.2 4) (s0_6.2 5) (s0_6.1 17) z24 (rs0_6.2 3) (rs0_6.2 4) (rs0_6.2 5) (rs0_6.1 17) r26 b49) ⟨hx, hb, hml, hown, hts⟩ (cwV 1 hts gX5_beginMerge_X4_remove rfl rfl rfl hdX4_remove ⟨Nat.le_of_ble_eq_true rfl, Nat.le_of_ble_eq_true rfl⟩) hK hP hD hS hA (q0 := 5) rfl rfl [5, 6, 7, 8] [0, 1, 2, 3, 4, 9, 10, 11, 12, 13] [0, 1, 2, 3, 4, 10, 11, 12, 13, 5, 6, 7, 8, 9] rfl rfl rfl rfl (by decide) (fun _ => rfl) rfl rfl hl.1 rfl (Nat.le_of_ble_eq_true rfl) dX5_beginMerge_66 ⟨Nat.zero_le _, Nat.zero_le _⟩ (fun u_55 H locs hw hP hD hS => ?_)
    obtain ⟨r51, r52, r53, r54⟩ := hw
    have hP : va_P G.1 vwCl (W5 G a (sS (sS (sA (sA (sA (sA (sA (sA s0_6 3 (cI (s0_6.2 3) (s0_6.2 3) (z24 + 1) z24 ((s0_6.1 17) - z24 - 1))) 4 (cI (s0_6.2 4) (s0_6.2 4) (z24 + 1) z24 ((s0_6.1 17) - z24 - 1))) 5 (cI (s0_6.2 5) (s0_6.2 5) (z24 + 1) z24 ((s0_6.1 17) - z24 - 1))) 6 u_nu41) 7 u_fi42) 8 u_le43) 17 ((s0_6.1 17) - 1)) 18 u_to44)) H := hP
    have hD : va_D A (W5 G a (sS (sS (sA (sA (sA (sA (sA (sA s0_6 3 (cI (s0_6.2 3) (s0_6.2 3) (z24 + 1) z24 ((s0_6.1 17) - z24 - 1))) 4 (cI (s0_6.2 4) (s0_6.2 4) (z24 + 1) z24 ((s0_6.1 17) - z24 - 1))) 5 (cI (s0_6.2 5) (s0_6.2 5) (z24 + 1) z24 ((s0_6.1 17) - z24 - 1))) 6 u_nu41) 7 u_fi42) 8 u_le43) 17 ((s0_6.1 17) - 1)) 18 u_to44)) := hD
    obtain ⟨r57, h58⟩ := h50
    refine zr_iinc (x := x2_6) (lv' := [(2, .int (iI (x2_6 + 1))), (3, .int (iI z24)), (1, .int (iI (min (waysZ (s.1 4)) (s.1 17)))), (0, .ref (a 0))]) hx hb dX5_beginMerge_69 hl (k := 1) rfl (by decide) rfl (fun ls hl => ?_)
    refine lv_goto (tgt := 17) hx hb dX5_beginMerge_72 (by decide) ?_
    obtain ⟨h59, h60⟩ := h58
    exact ih11 ((x2_6 + 1, sS (sS (sA (sA (sA (sA (sA (sA s0_6 3 (cI (s0_6.2 3) (s0_6.2 3) (z24 + 1) z24 ((s0_6.1 17) - z24 - 1))) 4 (cI (s0_6.2 4) (s0_6.2 4) (z24 + 1) z24 ((s0_6.1 17) - z24 - 1))) 5 (cI (s0_6.2 5) (s0_6.2 5) (z24 + 1) z24 ((s0_6.1 17) - z24 - 1))) 6 u_nu41) 7 u_fi42) 8 u_le43) 17 ((s0_6.1 17) - 1)) 18 u_to44)) _ _ _ ⟨⟨r57, (RG_S (RG_S (RG_A (RG_A (RG_A (RG_A (RG_A (RG_A rs0_6 r51) r52) r53) ru_nu41) ru_fi42) ru_le43) r54) ru_to44)⟩, h59⟩ h60 hP hD hS (lv_sub hl [0, 2, 3] rfl)
theorem c_X5_beginMerge (l : Launch) (G : ZG) (a : Nat → Nat) (s : SS)  (z : Int → Int) (r_s : RG s)  (p0 : Rep s z) (p1 : Vb z) (p2 : 2 ≤ z 0 ∧ z 0 ≤ 20) (p3 : rg (z 8 + 1)) (p4 : riZ z = 0) : ZI l G yX5_beginMerge wsX5_beginMerge 2 62 [.ref (a 0)] (W5 G a s) (fun u : SS => W5 G a u) (fun (zq : Int) (u : SS) => rg zq ∧ RG u ∧ (zq = begN z ∧ Rep u (begZ z))) :=
  c0_X5_beginMerge l G a s (fun r s' => r = begN z ∧ Rep s' (begZ z)) r_s  (sp_X5_beginMerge s z r_s  p0 p1 p2 p3 p4)
