theorem imX5_writeMemory_X5 : ∀ w ∈ wsX50, w ∈ wsX5_writeMemory := fun _ h => (List.mem_cons_of_mem _ (List.mem_append_left _ (List.mem_append_left _ (List.mem_append_right _ h))))
theorem hdX5_writeMemory : yX5_writeMemory.cls = RX5 ∧ yX5_writeMemory.cls ≠ "java/lang/invoke/MethodHandle" ∧ yX5_writeMemory.cls ≠ "java/lang/invoke/VarHandle" ∧ (parseMethodDescriptor yX5_writeMemory.desc).map (fun d => d.parameters.length) = some 0 := by decide +kernel
set_option maxRecDepth 100000 in
set_option maxHeartbeats 4000000 in
theorem c0_X5_writeMemory (l : Launch) (G : ZG) (a : Nat → Nat) (s : SS)  (P : Int → SS → Prop) (r_s : RG s)  (hwp : wp_X5_writeMemory s P) : ZI l G yX5_writeMemory wsX5_writeMemory 2 47 [.ref (a 0)] (W5 G a s) (fun u : SS => W5 G a u) (fun (z : Int) (u : SS) => rg z ∧ RG u ∧ P z u) := by
  unfold wp_X5_writeMemory at hwp
  refine zm_i (cc := cX5_writeMemory) (maxL := 2) (ret := some .int) (own := RX5) (lvs := [(0, .ref (a 0))]) (by decide) rfl rfl (Nat.le_of_ble_eq_true rfl) rfl ?_
  intro p e sT m args below meth c ls A hx hb hr hml hown hts hlocks hK hP hD hS hA hl
  have k1 := hts (.fieldLink RX5 56 "GrantedSort$SortState" "rowsInMemory" "I") (List.mem_of_getElem? (i := 1) rfl)
  have k2 := hts (.fieldLink RX5 12 "GrantedSort$SortState" "table" "LGrantedSort$RowTable;") (List.mem_of_getElem? (i := 2) rfl)
  have k3 := hts (.fieldLink RX5 71 "GrantedSort$SortState" "costs" "I") (List.mem_of_getElem? (i := 3) rfl)
  refine lv_aload_n hx hb dX5_writeMemory_0 rfl (lv_at hl 0 rfl) ?_
  refine va_get (v := .int (iI (s.1 6))) (ci := 5) (C := RX5) (T := TX5) (N := 16) hx hb hts imX5_writeMemory_X5 hown hK hP 0 rfl rfl 6 (by decide) k1 (fun _ h9 => h9) rfl dX5_writeMemory_1 ?_
  refine zr_if_gt (tgt := 10) (x := (s.1 6)) hx hb (r_s.1 6) dX5_writeMemory_4 (by decide) (fun c1 => ?_) (fun c1 => ?_)
  · have h4 := hwp.1 c1
    refine lv_aload_n hx hb dX5_writeMemory_10 rfl (lv_at hl 0 rfl) ?_
    obtain ⟨b5, h6⟩ := h4
    obtain ⟨b7, h8⟩ := h6
    obtain ⟨b9, h10⟩ := h8
    refine zc_vv (As := []) (rest := []) (w2 := fun u_12 => W5 G a u_12) (c_X5_sortMemory l G a s r_s b5 b7 b9) ⟨hx, hb, hml, hown, hts⟩ (cwV 0 hts gX5_writeMemory_X5_sortMemory rfl rfl rfl hdX5_sortMemory ⟨Nat.le_of_ble_eq_true rfl, Nat.le_of_ble_eq_true rfl⟩) hK hP hD hS hA (q0 := 0) rfl rfl [0, 1, 2, 3, 4, 5, 6, 7, 8, 9, 10, 11, 12, 13] [] [0, 1, 2, 3, 4, 5, 6, 7, 8, 9, 10, 11, 12, 13] rfl rfl rfl rfl (by decide) (fun _ => rfl) rfl rfl hl.1 rfl (Nat.le_of_ble_eq_true rfl) dX5_writeMemory_11 ⟨Nat.zero_le _, Nat.zero_le _⟩ (fun u_12 H locs hw hP hD hS => ?_)
    obtain ⟨u_s11, rfl⟩ : ∃ q, q = u_12 := ⟨_, rfl⟩
    obtain ⟨ru_s11, h14⟩ := hw
    have h15 := h10 u_s11 ru_s11 h14
    have hP : va_P G.1 vwCl (W5 G a u_s11) H := hP
    have hD : va_D A (W5 G a u_s11) := hD
    refine lv_iconst (v := iI 1) hx hb dX5_writeMemory_14 rfl ?_
    refine lv_istore_n (lv' := [(1, .int (iI 1)), (0, .ref (a 0))]) hx hb dX5_writeMemory_15 rfl hl (by decide) rfl (fun ls hl => ?_)
    obtain ⟨I17, μ18, h19, h20⟩ := h15
    refine zr_loop (G := G) (σ := Int × SS) (fun x_16 => (rg x_16.1 ∧ RG x_16.2) ∧ I17 x_16.1 x_16.2) (fun x_16 => μ18 x_16.1 x_16.2) (fun x_16 => W5 G a x_16.2) (fun x_16 => [(1, .int (iI x_16.1)), (0, .ref (a 0))]) ((1, u_s11)) ⟨⟨rg_1, ru_s11⟩, h19⟩ hP hD hS (lv_sub hl [0, 1] rfl) ?_
    clear hP hD hS hl
    intro x_16 H locs ls ih21 h22 hP hD hS hl
    obtain ⟨x1_16, s0_16⟩ := x_16
    obtain ⟨⟨rx1_16, rs0_16⟩, h22⟩ := h22
    have h23 := h20 x1_16 s0_16 rx1_16 rs0_16 h22
    have hP : va_P G.1 vwCl (W5 G a s0_16) H := hP
    have hD : va_D A (W5 G a s0_16) := hD
    have hl : lv_has ls 2 [(1, .int (iI x1_16)), (0, .ref (a 0))] := hl
    refine lv_iload_n hx hb dX5_writeMemory_16 rfl (lv_at hl 0 rfl) ?_
    refine lv_aload_n hx hb dX5_writeMemory_17 rfl (lv_at hl 1 rfl) ?_
    refine va_get (v := .int (iI (s0_16.1 6))) (ci := 5) (C := RX5) (T := TX5) (N := 16) hx hb hts imX5_writeMemory_X5 hown hK hP 0 rfl rfl 6 (by decide) k1 (fun _ h9 => h9) rfl dX5_writeMemory_18 ?_
    refine zr_icmp_ge (tgt := 49) (x := x1_16) (y := (s0_16.1 6)) hx hb rx1_16 (rs0_16.1 6) dX5_writeMemory_21 (by decide) (fun c24 => ?_) (fun c24 => ?_)
    · have h27 := h23.2 c24
      refine lv_aload_n hx hb dX5_writeMemory_49 rfl (lv_at hl 1 rfl) ?_
      refine lv_dup hx hb dX5_writeMemory_50 rfl ?_
      refine va_get (v := .int (iI (s0_16.1 12))) (ci := 5) (C := RX5) (T := TX5) (N := 16) hx hb hts imX5_writeMemory_X5 hown hK hP 0 rfl rfl 12 (by decide) k3 (fun _ h9 => h9) rfl dX5_writeMemory_51 ?_
      refine lv_aload_n hx hb dX5_writeMemory_54 rfl (lv_at hl 1 rfl) ?_
      refine va_get (v := .int (iI (s0_16.1 6))) (ci := 5) (C := RX5) (T := TX5) (N := 16) hx hb hts imX5_writeMemory_X5 hown hK hP 0 rfl rfl 6 (by decide) k1 (fun _ h9 => h9) rfl dX5_writeMemory_55 ?_
      refine zr_iadd (x := (s0_16.1 12)) (y := (s0_16.1 6)) hx hb dX5_writeMemory_58 ?_
      obtain ⟨r28, h29⟩ := h27
      refine va_put (v := .int (iI ((s0_16.1 12) + (s0_16.1 6)))) (ty := .int) (ci := 5) (C := RX5) (T := TX5) (N := 16) hx hb hts imX5_writeMemory_X5 tyX5 tyX5_ok nmX5 hown hK hP hD hS 0 rfl rfl 12 (by decide) k3 (fun _ h9 => h9) rfl (tyX5_ok 12 (by decide)) rfl rfl (Nat.le_of_ble_eq_true rfl) dX5_writeMemory_59 (fun H locs hP hD hS => ?_)
      have hP : va_P G.1 vwCl (W5 G a (sS s0_16 12 ((s0_16.1 12) + (s0_16.1 6)))) H := hP
      have hD : va_D A (W5 G a (sS s0_16 12 ((s0_16.1 12) + (s0_16.1 6)))) := hD
      refine lv_aload_n hx hb dX5_writeMemory_62 rfl (lv_at hl 1 rfl) ?_
      refine lv_aload_n hx hb dX5_writeMemory_63 rfl (lv_at hl 1 rfl) ?_
      refine lv_iconst (v := iI 0) hx hb dX5_writeMemory_64 rfl ?_
      obtain ⟨b30, h31⟩ := h29
      refine zc_vi (As := [.int (iI 0)]) (rest := [.ref (a 0)]) (w2 := fun u_32 => W5 G a (sS s0_16 12 ((s0_16.1 12) + (s0_16.1 6)))) (c_X5_memoryRowAt l G a (sS s0_16 12 ((s0_16.1 12) + (s0_16.1 6))) 0 (RG_S rs0_16 r28) rg_0 b30) ⟨hx, hb, hml, hown, hts⟩ (cwV 1 hts gX5_writeMemory_X5_memoryRowAt rfl rfl rfl hdX5_memoryRowAt ⟨Nat.le_of_ble_eq_true rfl, Nat.le_of_ble_eq_true rfl⟩) hK hP hD hS hA (q0 := 0) rfl rfl [0, 1, 2, 3, 4, 5, 6, 7, 8, 9, 10, 11, 12, 13] [] [0, 1, 2, 3, 4, 5, 6, 7, 8, 9, 10, 11, 12, 13] rfl rfl rfl rfl (by decide) (fun _ => rfl) rfl rfl hl.1 rfl (Nat.le_of_ble_eq_true rfl) dX5_writeMemory_65 ⟨Nat.zero_le _, Nat.zero_le _⟩ (fun z33 u_32 H locs hw hP hD hS => ?_)
      obtain ⟨rfl, r34⟩ := hw
      have hP : va_P G.1 vwCl (W5 G a (sS s0_16 12 ((s0_16.1 12) + (s0_16.1 6)))) H := hP
      have hD : va_D A (W5 G a (sS s0_16 12 ((s0_16.1 12) + (s0_16.1 6)))) := hD
      refine lv_aload_n hx hb dX5_writeMemory_68 rfl (lv_at hl 1 rfl) ?_
      refine va_get (v := .int (iI (s0_16.1 6))) (ci := 5) (C := RX5) (T := TX5) (N := 16) hx hb hts imX5_writeMemory_X5 hown hK hP 0 rfl rfl 6 (by decide) k1 (fun _ h9 => h9) rfl dX5_writeMemory_69 ?_
      obtain ⟨b35, h36⟩ := h31
      obtain ⟨b37, h38⟩ := h36
      obtain ⟨b39, h40⟩ := h38
      refine zc_vi (As := [.int (iI ((s0_16.2 9) (0 : Int))), .int (iI (s0_16.1 6))]) (rest := []) (w2 := fun u_42 => W5 G a u_42) (c_X5_makeRun l G a (sS s0_16 12 ((s0_16.1 12) + (s0_16.1 6))) ((s0_16.2 9) (0 : Int)) (s0_16.1 6) (RG_S rs0_16 r28) r34 (rs0_16.1 6) b35 b37 b39) ⟨hx, hb, hml, hown, hts⟩ (cwV 2 hts gX5_writeMemory_X5_makeRun rfl rfl rfl hdX5_makeRun ⟨Nat.le_of_ble_eq_true rfl, Nat.le_of_ble_eq_true rfl⟩) hK hP hD hS hA (q0 := 0) rfl rfl [0, 1, 2, 3, 4, 5, 6, 7, 8, 9, 10, 11, 12, 13] [] [0, 1, 2, 3, 4, 5, 6, 7, 8, 9, 10, 11, 12, 13] rfl rfl rfl rfl (by decide) (fun _ => rfl) rfl rfl hl.1 rfl (Nat.le_of_ble_eq_true rfl) dX5_writeMemory_72 ⟨Nat.zero_le _, Nat.zero_le _⟩ (fun z43 u_42 H locs hw hP hD hS => ?_)
      obtain ⟨u_s41, rfl⟩ : ∃ q, q = u_42 := ⟨_, rfl⟩
      obtain ⟨r45, ru_s41, h44⟩ := hw
      have h46 := h40 z43 u_s41 r45 ru_s41 h44
      have hP : va_P G.1 vwCl (W5 G a u_s41) H := hP
      have hD : va_D A (W5 G a u_s41) := hD
      refine lv_istore_n (lv' := [(1, .int (iI z43)), (0, .ref (a 0))]) hx hb dX5_writeMemory_75 rfl hl (by decide) rfl (fun ls hl => ?_)
      refine lv_aload_n hx hb dX5_writeMemory_76 rfl (lv_at hl 1 rfl) ?_
      refine lv_iconst (v := iI 0) hx hb dX5_writeMemory_77 rfl ?_
      refine va_put (v := .int (iI 0)) (ty := .int) (ci := 5) (C := RX5) (T := TX5) (N := 16) hx hb hts imX5_writeMemory_X5 tyX5 tyX5_ok nmX5 hown hK hP hD hS 0 rfl rfl 6 (by decide) k1 (fun _ h9 => h9) rfl (tyX5_ok 6 (by decide)) rfl rfl (Nat.le_of_ble_eq_true rfl) dX5_writeMemory_78 (fun H locs hP hD hS => ?_)
      have hP : va_P G.1 vwCl (W5 G a (sS u_s41 6 0)) H := hP
      have hD : va_D A (W5 G a (sS u_s41 6 0)) := hD
      refine lv_iload_n hx hb dX5_writeMemory_81 rfl (lv_at hl 0 rfl) ?_
      exact zr_iret (z := z43) hx hb hr hlocks hK (sS u_s41 6 0) hP hD hS dX5_writeMemory_82 ⟨r45, (RG_S ru_s41 rg_0), h46⟩
    · have h47 := h23.1 c24
      refine lv_aload_n hx hb dX5_writeMemory_24 rfl (lv_at hl 1 rfl) ?_
      refine va_get (v := .ref (a 1)) (ci := 5) (C := RX5) (T := TX5) (N := 16) hx hb hts imX5_writeMemory_X5 hown hK hP 0 rfl rfl 0 (by decide) k2 (fun _ h9 => h9) rfl dX5_writeMemory_25 ?_
      refine lv_aload_n hx hb dX5_writeMemory_28 rfl (lv_at hl 1 rfl) ?_
      refine lv_iload_n hx hb dX5_writeMemory_29 rfl (lv_at hl 0 rfl) ?_
      refine lv_iconst (v := iI 1) hx hb dX5_writeMemory_30 rfl ?_
      refine zr_isub (x := x1_16) (y := 1) hx hb dX5_writeMemory_31 ?_
      obtain ⟨r48, h49⟩ := h47
      obtain ⟨b50, h51⟩ := h49
      refine zc_vi (As := [.int (iI (x1_16 - 1))]) (rest := [.ref (a 1)]) (w2 := fun u_52 => W5 G a s0_16) (c_X5_memoryRowAt l G a s0_16 (x1_16 - 1) rs0_16 r48 b50) ⟨hx, hb, hml, hown, hts⟩ (cwV 1 hts gX5_writeMemory_X5_memoryRowAt rfl rfl rfl hdX5_memoryRowAt ⟨Nat.le_of_ble_eq_true rfl, Nat.le_of_ble_eq_true rfl⟩) hK hP hD hS hA (q0 := 0) rfl rfl [0, 1, 2, 3, 4, 5, 6, 7, 8, 9, 10, 11, 12, 13] [] [0, 1, 2, 3, 4, 5, 6, 7, 8, 9, 10, 11, 12, 13] rfl rfl rfl rfl (by decide) (fun _ => rfl) rfl rfl hl.1 rfl (Nat.le_of_ble_eq_true rfl) dX5_writeMemory_32 ⟨Nat.zero_le _, Nat.zero_le _⟩ (fun z53 u_52 H locs hw hP hD hS => ?_)
      obtain ⟨rfl, r54⟩ := hw
      have hP : va_P G.1 vwCl (W5 G a s0_16) H := hP
      have hD : va_D A (W5 G a s0_16) := hD
      refine lv_aload_n hx hb dX5_writeMemory_35 rfl (lv_at hl 1 rfl) ?_
      refine lv_iload_n hx hb dX5_writeMemory_36 rfl (lv_at hl 0 rfl) ?_
      obtain ⟨b55, h56⟩ := h51
      refine zc_vi (As := [.int (iI x1_16)]) (rest := [.int (iI ((s0_16.2 9) (x1_16 - 1))), .ref (a 1)]) (w2 := fun u_57 => W5 G a s0_16) (c_X5_memoryRowAt l G a s0_16 x1_16 rs0_16 rx1_16 b55) ⟨hx, hb, hml, hown, hts⟩ (cwV 1 hts gX5_writeMemory_X5_memoryRowAt rfl rfl rfl hdX5_memoryRowAt ⟨Nat.le_of_ble_eq_true rfl, Nat.le_of_ble_eq_true rfl⟩) hK hP hD hS hA (q0 := 0) rfl rfl [0, 1, 2, 3, 4, 5, 6, 7, 8, 9, 10, 11, 12, 13] [] [0, 1, 2, 3, 4, 5, 6, 7, 8, 9, 10, 11, 12, 13] rfl rfl rfl rfl (by decide) (fun _ => rfl) rfl rfl hl.1 rfl (Nat.le_of_ble_eq_true rfl) dX5_writeMemory_37 ⟨Nat.zero_le _, Nat.zero_le _⟩ (fun z58 u_57 H locs hw hP hD hS => ?_)
      obtain ⟨rfl, r59⟩ := hw
      have hP : va_P G.1 vwCl (W5 G a s0_16) H := hP
      have hD : va_D A (W5 G a s0_16) := hD
      obtain ⟨b60, h61⟩ := h56
      refine zc_vv (As := [.int (iI ((s0_16.2 9) (x1_16 - 1))), .int (iI ((s0_16.2 9) x1_16))]) (rest := []) (w2 := fun u_63 => W5 G a (sA s0_16 2 (uZ (s0_16.2 2) ((s0_16.2 9) (x1_16 - 1)) ((s0_16.2 9) x1_16)))) (c_X3_link l G (a 1) (a 2) (a 3) (a 4) (s0_16.2 0) (s0_16.2 1) (s0_16.2 2) (s0_16.1 16) ((s0_16.2 9) (x1_16 - 1)) ((s0_16.2 9) x1_16) (rs0_16.2 0) (rs0_16.2 1) (rs0_16.2 2) (rs0_16.1 16) r54 r59 b60) ⟨hx, hb, hml, hown, hts⟩ (cwV 2 hts gX5_writeMemory_X3_link rfl rfl rfl hdX3_link ⟨Nat.le_of_ble_eq_true rfl, Nat.le_of_ble_eq_true rfl⟩) hK hP hD hS hA (q0 := 1) rfl rfl [1, 2, 3, 4] [0, 5, 6, 7, 8, 9, 10, 11, 12, 13] [0, 10, 11, 12, 13, 1, 2, 3, 4, 5, 6, 7, 8, 9] rfl rfl rfl rfl (by decide) (fun _ => rfl) rfl rfl hl.1 rfl (Nat.le_of_ble_eq_true rfl) dX5_writeMemory_40 ⟨Nat.zero_le _, Nat.zero_le _⟩ (fun u_63 H locs hw hP hD hS => ?_)
      have r62 := hw
      have hP : va_P G.1 vwCl (W5 G a (sA s0_16 2 (uZ (s0_16.2 2) ((s0_16.2 9) (x1_16 - 1)) ((s0_16.2 9) x1_16)))) H := hP
      have hD : va_D A (W5 G a (sA s0_16 2 (uZ (s0_16.2 2) ((s0_16.2 9) (x1_16 - 1)) ((s0_16.2 9) x1_16)))) := hD
      obtain ⟨r65, h66⟩ := h61
      refine zr_iinc (x := x1_16) (lv' := [(1, .int (iI (x1_16 + 1))), (0, .ref (a 0))]) hx hb dX5_writeMemory_43 hl (k := 0) rfl (by decide) rfl (fun ls hl => ?_)
      refine lv_goto (tgt := 16) hx hb dX5_writeMemory_46 (by decide) ?_
      obtain ⟨h67, h68⟩ := h66
      exact ih21 ((x1_16 + 1, sA s0_16 2 (uZ (s0_16.2 2) ((s0_16.2 9) (x1_16 - 1)) ((s0_16.2 9) x1_16)))) _ _ _ ⟨⟨r65, (RG_A rs0_16 r62)⟩, h67⟩ h68 hP hD hS (lv_sub hl [0, 1] rfl)
  · have h69 := hwp.2 c1
    refine lv_bipush (v := iI (-6)) hx hb dX5_writeMemory_7 (by decide) ?_
    exact zr_iret (z := (-6)) hx hb hr hlocks hK (s) hP hD hS dX5_writeMemory_9 ⟨rg_m6, r_s, h69⟩
theorem c_X5_writeMemory (l : Launch) (G : ZG) (a : Nat → Nat) (s : SS)  (z : Int → Int) (r_s : RG s)  (p0 : Rep s z) (p1 : Vb z ∧ z 4 + 1 ≤ 900000000) (p2 : rg (z 7 + rowsAt z 1)) : ZI l G yX5_writeMemory wsX5_writeMemory 2 47 [.ref (a 0)] (W5 G a s) (fun u : SS => W5 G a u) (fun (zq : Int) (u : SS) => rg zq ∧ RG u ∧ (zq = (if rowsAt z 1 = 0 then -6 else z 4) ∧ Rep u (wriZ z))) :=
  c0_X5_writeMemory l G a s (fun r s' => r = (if rowsAt z 1 = 0 then -6 else z 4) ∧ Rep s' (wriZ z)) r_s  (sp_X5_writeMemory s z r_s  p0 p1 p2)
theorem imX5_endCollecting_X5 : ∀ w ∈ wsX50, w ∈ wsX5_endCollecting := fun _ h => (List.mem_cons_of_mem _ (List.mem_append_left _ (List.mem_append_left _ (List.mem_append_right _ h))))
theorem hdX5_endCollecting : yX5_endCollecting.cls = RX5 ∧ yX5_endCollecting.cls ≠ "java/lang/invoke/MethodHandle" ∧ yX5_endCollecting.cls ≠ "java/lang/invoke/VarHandle" ∧ (parseMethodDescriptor yX5_endCollecting.desc).map (fun d => d.parameters.length) = some 0 := by decide +kernel
set_option maxRecDepth 100000 in
set_option maxHeartbeats 4000000 in
theorem c0_X5_endCollecting (l : Launch) (G : ZG) (a : Nat → Nat) (s : SS)  (P : SS → Prop) (r_s : RG s)  (hwp : wp_X5_endCollecting s P) : ZV l G yX5_endCollecting wsX5_endCollecting 3 68 [.ref (a 0)] (W5 G a s) (fun u : SS => W5 G a u) (fun (u : SS) => RG u ∧ P u) := by
  unfold wp_X5_endCollecting at hwp
  refine zm_v (cc := cX5_endCollecting) (maxL := 1) (ret := none) (own := RX5) (lvs := [(0, .ref (a 0))]) (by decide) rfl rfl (Nat.le_of_ble_eq_true rfl) rfl ?_
  intro p e sT m args below meth c ls A hx hb hr hml hown hts hlocks hK hP hD hS hA hl
  have k1 := hts (.fieldLink RX5 25 "GrantedSort$SortState" "isCollecting" "Z") (List.mem_of_getElem? (i := 1) rfl)
  refine lv_aload_n hx hb dX5_endCollecting_0 rfl (lv_at hl 0 rfl) ?_
  obtain ⟨g1, h2⟩ := hwp
  obtain ⟨b3, h4⟩ := h2
  obtain ⟨b5, h6⟩ := h4
  obtain ⟨b7, h8⟩ := h6
  refine zc_vi (As := []) (rest := []) (w2 := fun u_10 => W5 G a u_10) (c_X5_writeMemory l G a s g1 r_s b3 b5 b7) ⟨hx, hb, hml, hown, hts⟩ (cwV 0 hts gX5_endCollecting_X5_writeMemory rfl rfl rfl hdX5_writeMemory ⟨Nat.le_of_ble_eq_true rfl, Nat.le_of_ble_eq_true rfl⟩) hK hP hD hS hA (q0 := 0) rfl rfl [0, 1, 2, 3, 4, 5, 6, 7, 8, 9, 10, 11, 12, 13] [] [0, 1, 2, 3, 4, 5, 6, 7, 8, 9, 10, 11, 12, 13] rfl rfl rfl rfl (by decide) (fun _ => rfl) rfl rfl hl.1 rfl (Nat.le_of_ble_eq_true rfl) dX5_endCollecting_1 ⟨Nat.zero_le _, Nat.zero_le _⟩ (fun z11 u_10 H locs hw hP hD hS => ?_)
  obtain ⟨u_s9, rfl⟩ : ∃ q, q = u_10 := ⟨_, rfl⟩
  obtain ⟨r13, ru_s9, h12⟩ := hw
  have h14 := h8 z11 u_s9 r13 ru_s9 h12
  have hP : va_P G.1 vwCl (W5 G a u_s9) H := hP
  have hD : va_D A (W5 G a u_s9) := hD
  refine lv_pop hx hb dX5_endCollecting_4 rfl ?_
  refine lv_aload_n hx hb dX5_endCollecting_5 rfl (lv_at hl 0 rfl) ?_
  refine lv_iconst (v := iI 0) hx hb dX5_endCollecting_6 rfl ?_
  refine va_put (v := .int (iI 0)) (ty := .boolean) (ci := 5) (C := RX5) (T := TX5) (N := 16) hx hb hts imX5_endCollecting_X5 tyX5 tyX5_ok nmX5 hown hK hP hD hS 0 rfl rfl 3 (by decide) k1 (fun _ h9 => h9) rfl (tyX5_ok 3 (by decide)) rfl rfl (Nat.le_of_ble_eq_true rfl) dX5_endCollecting_7 (fun H locs hP hD hS => ?_)
  have hP : va_P G.1 vwCl (W5 G a (sS u_s9 3 0)) H := hP
  have hD : va_D A (W5 G a (sS u_s9 3 0)) := hD
  exact zr_vret hx hb hr hlocks hK (sS u_s9 3 0) hP hD hS dX5_endCollecting_10 ⟨(RG_S ru_s9 rg_0), h14⟩
theorem c_X5_endCollecting (l : Launch) (G : ZG) (a : Nat → Nat) (s : SS)  (z : Int → Int) (r_s : RG s)  (p0 : Rep s z) (p1 : Vb z ∧ z 4 + 1 ≤ 900000000) (p2 : rg (z 7 + rowsAt z 1)) : ZV l G yX5_endCollecting wsX5_endCollecting 3 68 [.ref (a 0)] (W5 G a s) (fun u : SS => W5 G a u) (fun (u : SS) => RG u ∧ (Rep u (uZ (wriZ z) 2 0))) :=
  c0_X5_endCollecting l G a s (fun s' => Rep s' (uZ (wriZ z) 2 0)) r_s  (sp_X5_endCollecting s z r_s  p0 p1 p2)
