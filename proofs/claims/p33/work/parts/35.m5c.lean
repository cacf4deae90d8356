theorem imX5_cutShort_X4 : ∀ w ∈ wsX40, w ∈ wsX5_cutShort := fun _ h => (List.mem_cons_of_mem _ (List.mem_append_right _ h))
theorem imX5_cutShort_X5 : ∀ w ∈ wsX50, w ∈ wsX5_cutShort := fun _ h => (List.mem_cons_of_mem _ (List.mem_append_left _ (List.mem_append_right _ h)))
theorem hdX5_cutShort : yX5_cutShort.cls = RX5 ∧ yX5_cutShort.cls ≠ "java/lang/invoke/MethodHandle" ∧ yX5_cutShort.cls ≠ "java/lang/invoke/VarHandle" ∧ (parseMethodDescriptor yX5_cutShort.desc).map (fun d => d.parameters.length) = some 0 := by decide +kernel
set_option maxRecDepth 100000 in
set_option maxHeartbeats 4000000 in
theorem c0_X5_cutShort (l : Launch) (G : ZG) (a : Nat → Nat) (s : SS)  (P : Int → SS → Prop) (r_s : RG s)  (hwp : wp_X5_cutShort s P) : ZI l G yX5_cutShort wsX5_cutShort 3 67 [.ref (a 0)] (W5 G a s) (fun u : SS => W5 G a u) (fun (z : Int) (u : SS) => rg z ∧ RG u ∧ P z u) := by
  unfold wp_X5_cutShort at hwp
  refine zm_i (cc := cX5_cutShort) (maxL := 3) (ret := some .int) (own := RX5) (lvs := [(0, .ref (a 0))]) (by decide) rfl rfl (Nat.le_of_ble_eq_true rfl) rfl ?_
  intro p e sT m args below meth c ls A hx hb hr hml hown hts hlocks hK hP hD hS hA hl
  have k1 := hts (.fieldLink RX5 80 "GrantedSort$SortState" "runsNumbered" "I") (List.mem_of_getElem? (i := 1) rfl)
  have k2 := hts (.fieldLink RX5 37 "GrantedSort$SortState" "inputs" "LGrantedSort$RunList;") (List.mem_of_getElem? (i := 2) rfl)
  have k3 := hts (.fieldLink RX5 83 "GrantedSort$RunList" "total" "I") (List.mem_of_getElem? (i := 3) rfl)
  have k4 := hts (.fieldLink RX5 77 "GrantedSort$SortState" "mergesCut" "I") (List.mem_of_getElem? (i := 4) rfl)
  refine lv_aload_n hx hb dX5_cutShort_0 rfl (lv_at hl 0 rfl) ?_
  refine va_get (v := .int (iI (s.1 15))) (ci := 5) (C := RX5) (T := TX5) (N := 16) hx hb hts imX5_cutShort_X5 hown hK hP 0 rfl rfl 15 (by decide) k1 (fun _ h9 => h9) rfl dX5_cutShort_1 ?_
  refine lv_istore_n (lv' := [(1, .int (iI (s.1 15))), (0, .ref (a 0))]) hx hb dX5_cutShort_4 rfl hl (by decide) rfl (fun ls hl => ?_)
  refine lv_aload_n hx hb dX5_cutShort_5 rfl (lv_at hl 1 rfl) ?_
  obtain ⟨g1, h2⟩ := hwp
  obtain ⟨b3, h4⟩ := h2
  obtain ⟨b5, h6⟩ := h4
  refine zc_vv (As := []) (rest := []) (w2 := fun u_8 => W5 G a u_8) (c_X5_closeOutput l G a s g1 r_s b3 b5) ⟨hx, hb, hml, hown, hts⟩ (cwV 0 hts gX5_cutShort_X5_closeOutput rfl rfl rfl hdX5_closeOutput ⟨Nat.le_of_ble_eq_true rfl, Nat.le_of_ble_eq_true rfl⟩) hK hP hD hS hA (q0 := 0) rfl rfl [0, 1, 2, 3, 4, 5, 6, 7, 8, 9, 10, 11, 12, 13] [] [0, 1, 2, 3, 4, 5, 6, 7, 8, 9, 10, 11, 12, 13] rfl rfl rfl rfl (by decide) (fun _ => rfl) rfl rfl hl.1 rfl (Nat.le_of_ble_eq_true rfl) dX5_cutShort_6 ⟨Nat.zero_le _, Nat.zero_le _⟩ (fun u_8 H locs hw hP hD hS => ?_)
  obtain ⟨u_s7, rfl⟩ : ∃ q, q = u_8 := ⟨_, rfl⟩
  obtain ⟨ru_s7, h10⟩ := hw
  have h11 := h6 u_s7 ru_s7 h10
  have hP : va_P G.1 vwCl (W5 G a u_s7) H := hP
  have hD : va_D A (W5 G a u_s7) := hD
  refine lv_iconst (v := iI 0) hx hb dX5_cutShort_9 rfl ?_
  refine lv_istore_n (lv' := [(2, .int (iI 0)), (1, .int (iI (s.1 15))), (0, .ref (a 0))]) hx hb dX5_cutShort_10 rfl hl (by decide) rfl (fun ls hl => ?_)
  obtain ⟨I13, μ14, h15, h16⟩ := h11
  refine zr_loop (G := G) (σ := Int × SS) (fun x_12 => (rg x_12.1 ∧ RG x_12.2) ∧ I13 x_12.1 x_12.2) (fun x_12 => μ14 x_12.1 x_12.2) (fun x_12 => W5 G a x_12.2) (fun x_12 => [(2, .int (iI x_12.1)), (1, .int (iI (s.1 15))), (0, .ref (a 0))]) ((0, u_s7)) ⟨⟨rg_0, ru_s7⟩, h15⟩ hP hD hS (lv_sub hl [0, 1, 2] rfl) ?_
  clear hP hD hS hl
  intro x_12 H locs ls ih17 h18 hP hD hS hl
  obtain ⟨x2_12, s0_12⟩ := x_12
  obtain ⟨⟨rx2_12, rs0_12⟩, h18⟩ := h18
  have h19 := h16 x2_12 s0_12 rx2_12 rs0_12 h18
  have hP : va_P G.1 vwCl (W5 G a s0_12) H := hP
  have hD : va_D A (W5 G a s0_12) := hD
  have hl : lv_has ls 3 [(2, .int (iI x2_12)), (1, .int (iI (s.1 15))), (0, .ref (a 0))] := hl
  refine lv_iload_n hx hb dX5_cutShort_11 rfl (lv_at hl 0 rfl) ?_
  refine lv_aload_n hx hb dX5_cutShort_12 rfl (lv_at hl 2 rfl) ?_
  refine va_get (v := .ref (a 10)) (ci := 5) (C := RX5) (T := TX5) (N := 16) hx hb hts imX5_cutShort_X5 hown hK hP 0 rfl rfl 7 (by decide) k2 (fun _ h9 => h9) rfl dX5_cutShort_13 ?_
  refine va_get (v := .int (iI (s0_12.1 18))) (ci := 4) (C := RX4) (T := TX4) (N := 4) hx hb hts imX5_cutShort_X4 hown hK hP 10 rfl rfl 3 (by decide) k3 (fun _ h9 => h9) rfl dX5_cutShort_16 ?_
  refine zr_icmp_ge (tgt := 49) (x := x2_12) (y := (s0_12.1 18)) hx hb rx2_12 (rs0_12.1 18) dX5_cutShort_19 (by decide) (fun c20 => ?_) (fun c20 => ?_)
  · have h23 := h19.2 c20
    refine lv_aload_n hx hb dX5_cutShort_49 rfl (lv_at hl 2 rfl) ?_
    refine va_get (v := .ref (a 10)) (ci := 5) (C := RX5) (T := TX5) (N := 16) hx hb hts imX5_cutShort_X5 hown hK hP 0 rfl rfl 7 (by decide) k2 (fun _ h9 => h9) rfl dX5_cutShort_50 ?_
    refine zc_vv (As := []) (rest := []) (w2 := fun u_25 => W5 G a (sS s0_12 18 0)) (c_X4_removeAll l G (a 10) (a 11) (a 12) (a 13) (s0_12.2 6) (s0_12.2 7) (s0_12.2 8) (s0_12.1 18) (rs0_12.2 6) (rs0_12.2 7) (rs0_12.2 8) (rs0_12.1 18)) ⟨hx, hb, hml, hown, hts⟩ (cwV 0 hts gX5_cutShort_X4_removeAll rfl rfl rfl hdX4_removeAll ⟨Nat.le_of_ble_eq_true rfl, Nat.le_of_ble_eq_true rfl⟩) hK hP hD hS hA (q0 := 10) rfl rfl [10, 11, 12, 13] [0, 1, 2, 3, 4, 5, 6, 7, 8, 9] [0, 1, 2, 3, 4, 5, 6, 7, 8, 9, 10, 11, 12, 13] rfl rfl rfl rfl (by decide) (fun _ => rfl) rfl rfl hl.1 rfl (Nat.le_of_ble_eq_true rfl) dX5_cutShort_53 ⟨Nat.zero_le _, Nat.zero_le _⟩ (fun u_25 H locs hw hP hD hS => ?_)
    have r24 := hw
    have hP : va_P G.1 vwCl (W5 G a (sS s0_12 18 0)) H := hP
    have hD : va_D A (W5 G a (sS s0_12 18 0)) := hD
    refine lv_aload_n hx hb dX5_cutShort_56 rfl (lv_at hl 2 rfl) ?_
    refine lv_dup hx hb dX5_cutShort_57 rfl ?_
    refine va_get (v := .int (iI (s0_12.1 14))) (ci := 5) (C := RX5) (T := TX5) (N := 16) hx hb hts imX5_cutShort_X5 hown hK hP 0 rfl rfl 14 (by decide) k4 (fun _ h9 => h9) rfl dX5_cutShort_58 ?_
    refine lv_iconst (v := iI 1) hx hb dX5_cutShort_61 rfl ?_
    refine zr_iadd (x := (s0_12.1 14)) (y := 1) hx hb dX5_cutShort_62 ?_
    obtain ⟨r27, h28⟩ := h23
    refine va_put (v := .int (iI ((s0_12.1 14) + 1))) (ty := .int) (ci := 5) (C := RX5) (T := TX5) (N := 16) hx hb hts imX5_cutShort_X5 tyX5 tyX5_ok nmX5 hown hK hP hD hS 0 rfl rfl 14 (by decide) k4 (fun _ h9 => h9) rfl (tyX5_ok 14 (by decide)) rfl rfl (Nat.le_of_ble_eq_true rfl) dX5_cutShort_63 (fun H locs hP hD hS => ?_)
    have hP : va_P G.1 vwCl (W5 G a (sS (sS s0_12 14 ((s0_12.1 14) + 1)) 18 0)) H := hP
    have hD : va_D A (W5 G a (sS (sS s0_12 14 ((s0_12.1 14) + 1)) 18 0)) := hD
    refine lv_aload_n hx hb dX5_cutShort_66 rfl (lv_at hl 2 rfl) ?_
    refine va_get (v := .int (iI (s0_12.1 15))) (ci := 5) (C := RX5) (T := TX5) (N := 16) hx hb hts imX5_cutShort_X5 hown hK hP 0 rfl rfl 15 (by decide) k1 (fun _ h9 => h9) rfl dX5_cutShort_67 ?_
    refine lv_iload_n hx hb dX5_cutShort_70 rfl (lv_at hl 1 rfl) ?_
    refine zr_isub (x := (s0_12.1 15)) (y := (s.1 15)) hx hb dX5_cutShort_71 ?_
    obtain ⟨r29, h30⟩ := h28
    exact zr_iret (z := (s0_12.1 15) - (s.1 15)) hx hb hr hlocks hK (sS (sS s0_12 14 ((s0_12.1 14) + 1)) 18 0) hP hD hS dX5_cutShort_72 ⟨r29, (RG_S (RG_S rs0_12 r27) r24), h30⟩
  · have h31 := h19.1 c20
    refine lv_aload_n hx hb dX5_cutShort_22 rfl (lv_at hl 2 rfl) ?_
    refine lv_aload_n hx hb dX5_cutShort_23 rfl (lv_at hl 2 rfl) ?_
    refine va_get (v := .ref (a 10)) (ci := 5) (C := RX5) (T := TX5) (N := 16) hx hb hts imX5_cutShort_X5 hown hK hP 0 rfl rfl 7 (by decide) k2 (fun _ h9 => h9) rfl dX5_cutShort_24 ?_
    refine lv_iload_n hx hb dX5_cutShort_27 rfl (lv_at hl 0 rfl) ?_
    obtain ⟨b32, h33⟩ := h31
    refine zc_vi (As := [.int (iI x2_12)]) (rest := [.ref (a 0)]) (w2 := fun u_34 => W5 G a s0_12) (c_X4_firstAt l G (a 10) (a 11) (a 12) (a 13) (s0_12.2 6) (s0_12.2 7) (s0_12.2 8) (s0_12.1 18) x2_12 (rs0_12.2 6) (rs0_12.2 7) (rs0_12.2 8) (rs0_12.1 18) rx2_12 b32) ⟨hx, hb, hml, hown, hts⟩ (cwV 1 hts gX5_cutShort_X4_firstAt rfl rfl rfl hdX4_firstAt ⟨Nat.le_of_ble_eq_true rfl, Nat.le_of_ble_eq_true rfl⟩) hK hP hD hS hA (q0 := 10) rfl rfl [10, 11, 12, 13] [0, 1, 2, 3, 4, 5, 6, 7, 8, 9] [0, 1, 2, 3, 4, 5, 6, 7, 8, 9, 10, 11, 12, 13] rfl rfl rfl rfl (by decide) (fun _ => rfl) rfl rfl hl.1 rfl (Nat.le_of_ble_eq_true rfl) dX5_cutShort_28 ⟨Nat.zero_le _, Nat.zero_le _⟩ (fun z35 u_34 H locs hw hP hD hS => ?_)
    obtain ⟨rfl, r36⟩ := hw
    have hP : va_P G.1 vwCl (W5 G a s0_12) H := hP
    have hD : va_D A (W5 G a s0_12) := hD
    refine lv_aload_n hx hb dX5_cutShort_31 rfl (lv_at hl 2 rfl) ?_
    refine va_get (v := .ref (a 10)) (ci := 5) (C := RX5) (T := TX5) (N := 16) hx hb hts imX5_cutShort_X5 hown hK hP 0 rfl rfl 7 (by decide) k2 (fun _ h9 => h9) rfl dX5_cutShort_32 ?_
    refine lv_iload_n hx hb dX5_cutShort_35 rfl (lv_at hl 0 rfl) ?_
    refine zc_vi (As := [.int (iI x2_12)]) (rest := [.int (iI ((s0_12.2 7) x2_12)), .ref (a 0)]) (w2 := fun u_37 => W5 G a s0_12) (c_X4_lengthAt l G (a 10) (a 11) (a 12) (a 13) (s0_12.2 6) (s0_12.2 7) (s0_12.2 8) (s0_12.1 18) x2_12 (rs0_12.2 6) (rs0_12.2 7) (rs0_12.2 8) (rs0_12.1 18) rx2_12) ⟨hx, hb, hml, hown, hts⟩ (cwV 1 hts gX5_cutShort_X4_lengthAt rfl rfl rfl hdX4_lengthAt ⟨Nat.le_of_ble_eq_true rfl, Nat.le_of_ble_eq_true rfl⟩) hK hP hD hS hA (q0 := 10) rfl rfl [10, 11, 12, 13] [0, 1, 2, 3, 4, 5, 6, 7, 8, 9] [0, 1, 2, 3, 4, 5, 6, 7, 8, 9, 10, 11, 12, 13] rfl rfl rfl rfl (by decide) (fun _ => rfl) rfl rfl hl.1 rfl (Nat.le_of_ble_eq_true rfl) dX5_cutShort_36 ⟨Nat.zero_le _, Nat.zero_le _⟩ (fun z38 u_37 H locs hw hP hD hS => ?_)
    obtain ⟨rfl, r39⟩ := hw
    have hP : va_P G.1 vwCl (W5 G a s0_12) H := hP
    have hD : va_D A (W5 G a s0_12) := hD
    obtain ⟨b40, h41⟩ := h33
    obtain ⟨b42, h43⟩ := h41
    obtain ⟨b44, h45⟩ := h43
    refine zc_vi (As := [.int (iI ((s0_12.2 7) x2_12)), .int (iI (if 0 ≤ x2_12 ∧ x2_12 < 120 then (s0_12.2 8) x2_12 else 0))]) (rest := []) (w2 := fun u_47 => W5 G a u_47) (c_X5_makeRun l G a s0_12 ((s0_12.2 7) x2_12) (if 0 ≤ x2_12 ∧ x2_12 < 120 then (s0_12.2 8) x2_12 else 0) rs0_12 r36 r39 b40 b42 b44) ⟨hx, hb, hml, hown, hts⟩ (cwV 2 hts gX5_cutShort_X5_makeRun rfl rfl rfl hdX5_makeRun ⟨Nat.le_of_ble_eq_true rfl, Nat.le_of_ble_eq_true rfl⟩) hK hP hD hS hA (q0 := 0) rfl rfl [0, 1, 2, 3, 4, 5, 6, 7, 8, 9, 10, 11, 12, 13] [] [0, 1, 2, 3, 4, 5, 6, 7, 8, 9, 10, 11, 12, 13] rfl rfl rfl rfl (by decide) (fun _ => rfl) rfl rfl hl.1 rfl (Nat.le_of_ble_eq_true rfl) dX5_cutShort_39 ⟨Nat.zero_le _, Nat.zero_le _⟩ (fun z48 u_47 H locs hw hP hD hS => ?_)
    obtain ⟨u_s46, rfl⟩ : ∃ q, q = u_47 := ⟨_, rfl⟩
    obtain ⟨r50, ru_s46, h49⟩ := hw
    have h51 := h45 z48 u_s46 r50 ru_s46 h49
    have hP : va_P G.1 vwCl (W5 G a u_s46) H := hP
    have hD : va_D A (W5 G a u_s46) := hD
    refine lv_pop hx hb dX5_cutShort_42 rfl ?_
    obtain ⟨r52, h53⟩ := h51
    refine zr_iinc (x := x2_12) (lv' := [(2, .int (iI (x2_12 + 1))), (1, .int (iI (s.1 15))), (0, .ref (a 0))]) hx hb dX5_cutShort_43 hl (k := 0) rfl (by decide) rfl (fun ls hl => ?_)
    refine lv_goto (tgt := 11) hx hb dX5_cutShort_46 (by decide) ?_
    obtain ⟨h54, h55⟩ := h53
    exact ih17 ((x2_12 + 1, u_s46)) _ _ _ ⟨⟨r52, ru_s46⟩, h54⟩ h55 hP hD hS (lv_sub hl [0, 1, 2] rfl)
theorem c_X5_cutShort (l : Launch) (G : ZG) (a : Nat → Nat) (s : SS)  (z : Int → Int) (r_s : RG s)  (p0 : Rep s z) (p1 : Vb z ∧ z 4 + 1 + manyZ z 1 ≤ 900000000) (p2 : rg (z 9 + 1)) : ZI l G yX5_cutShort wsX5_cutShort 3 67 [.ref (a 0)] (W5 G a s) (fun u : SS => W5 G a u) (fun (zq : Int) (u : SS) => rg zq ∧ RG u ∧ (zq = pz (0 < rowsAt z 2) + manyZ z 1 ∧ Rep u (cutZ z))) :=
  c0_X5_cutShort l G a s (fun r s' => r = pz (0 < rowsAt z 2) + manyZ z 1 ∧ Rep s' (cutZ z)) r_s  (sp_X5_cutShort s z r_s  p0 p1 p2)
