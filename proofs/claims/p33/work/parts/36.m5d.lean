theorem imX5_sortMemory_X5 : ∀ w ∈ wsX50, w ∈ wsX5_sortMemory := fun _ h => (List.mem_cons_of_mem _ (List.mem_append_left _ (List.mem_append_right _ h)))
theorem hdX5_sortMemory : yX5_sortMemory.cls = RX5 ∧ yX5_sortMemory.cls ≠ "java/lang/invoke/MethodHandle" ∧ yX5_sortMemory.cls ≠ "java/lang/invoke/VarHandle" ∧ (parseMethodDescriptor yX5_sortMemory.desc).map (fun d => d.parameters.length) = some 0 := by decide +kernel
set_option maxRecDepth 100000 in
set_option maxHeartbeats 4000000 in
theorem c0_X5_sortMemory (l : Launch) (G : ZG) (a : Nat → Nat) (s : SS)  (P : SS → Prop) (r_s : RG s)  (hwp : wp_X5_sortMemory s P) : ZV l G yX5_sortMemory wsX5_sortMemory 1 22 [.ref (a 0)] (W5 G a s) (fun u : SS => W5 G a u) (fun (u : SS) => RG u ∧ P u) := by
  unfold wp_X5_sortMemory at hwp
  refine zm_v (cc := cX5_sortMemory) (maxL := 4) (ret := none) (own := RX5) (lvs := [(0, .ref (a 0))]) (by decide) rfl rfl (Nat.le_of_ble_eq_true rfl) rfl ?_
  intro p e sT m args below meth c ls A hx hb hr hml hown hts hlocks hK hP hD hS hA hl
  have k1 := hts (.fieldLink RX5 56 "GrantedSort$SortState" "rowsInMemory" "I") (List.mem_of_getElem? (i := 1) rfl)
  have k2 := hts (.fieldLink RX5 12 "GrantedSort$SortState" "table" "LGrantedSort$RowTable;") (List.mem_of_getElem? (i := 2) rfl)
  refine lv_iconst (v := iI 1) hx hb dX5_sortMemory_0 rfl ?_
  refine lv_istore_n (lv' := [(1, .int (iI 1)), (0, .ref (a 0))]) hx hb dX5_sortMemory_1 rfl hl (by decide) rfl (fun ls hl => ?_)
  obtain ⟨I2, μ3, h4, h5⟩ := hwp
  refine zr_loop (G := G) (σ := Int × SS) (fun x_1 => (rg x_1.1 ∧ RG x_1.2) ∧ I2 x_1.1 x_1.2) (fun x_1 => μ3 x_1.1 x_1.2) (fun x_1 => W5 G a x_1.2) (fun x_1 => [(1, .int (iI x_1.1)), (0, .ref (a 0))]) ((1, s)) ⟨⟨rg_1, r_s⟩, h4⟩ hP hD hS (lv_sub hl [0, 1] rfl) ?_
  clear hP hD hS hl
  intro x_1 H locs ls ih6 h7 hP hD hS hl
  obtain ⟨x1_1, s0_1⟩ := x_1
  obtain ⟨⟨rx1_1, rs0_1⟩, h7⟩ := h7
  have h8 := h5 x1_1 s0_1 rx1_1 rs0_1 h7
  have hP : va_P G.1 vwCl (W5 G a s0_1) H := hP
  have hD : va_D A (W5 G a s0_1) := hD
  have hl : lv_has ls 4 [(1, .int (iI x1_1)), (0, .ref (a 0))] := hl
  refine lv_iload_n hx hb dX5_sortMemory_2 rfl (lv_at hl 0 rfl) ?_
  refine lv_aload_n hx hb dX5_sortMemory_3 rfl (lv_at hl 1 rfl) ?_
  refine va_get (v := .int (iI (s0_1.1 6))) (ci := 5) (C := RX5) (T := TX5) (N := 16) hx hb hts imX5_sortMemory_X5 hown hK hP 0 rfl rfl 6 (by decide) k1 (fun _ h9 => h9) rfl dX5_sortMemory_4 ?_
  refine zr_icmp_ge (tgt := 70) (x := x1_1) (y := (s0_1.1 6)) hx hb rx1_1 (rs0_1.1 6) dX5_sortMemory_7 (by decide) (fun c9 => ?_) (fun c9 => ?_)
  · have h12 := h8.2 c9
    exact zr_vret hx hb hr hlocks hK (s0_1) hP hD hS dX5_sortMemory_70 ⟨rs0_1, h12⟩
  · have h13 := h8.1 c9
    refine lv_aload_n hx hb dX5_sortMemory_10 rfl (lv_at hl 1 rfl) ?_
    refine lv_iload_n hx hb dX5_sortMemory_11 rfl (lv_at hl 0 rfl) ?_
    obtain ⟨b14, h15⟩ := h13
    refine zc_vi (As := [.int (iI x1_1)]) (rest := []) (w2 := fun u_16 => W5 G a s0_1) (c_X5_memoryRowAt l G a s0_1 x1_1 rs0_1 rx1_1 b14) ⟨hx, hb, hml, hown, hts⟩ (cwV 1 hts gX5_sortMemory_X5_memoryRowAt rfl rfl rfl hdX5_memoryRowAt ⟨Nat.le_of_ble_eq_true rfl, Nat.le_of_ble_eq_true rfl⟩) hK hP hD hS hA (q0 := 0) rfl rfl [0, 1, 2, 3, 4, 5, 6, 7, 8, 9, 10, 11, 12, 13] [] [0, 1, 2, 3, 4, 5, 6, 7, 8, 9, 10, 11, 12, 13] rfl rfl rfl rfl (by decide) (fun _ => rfl) rfl rfl hl.1 rfl (Nat.le_of_ble_eq_true rfl) dX5_sortMemory_12 ⟨Nat.zero_le _, Nat.zero_le _⟩ (fun z17 u_16 H locs hw hP hD hS => ?_)
    obtain ⟨rfl, r18⟩ := hw
    have hP : va_P G.1 vwCl (W5 G a s0_1) H := hP
    have hD : va_D A (W5 G a s0_1) := hD
    refine lv_istore_n (lv' := [(2, .int (iI ((s0_1.2 9) x1_1))), (1, .int (iI x1_1)), (0, .ref (a 0))]) hx hb dX5_sortMemory_15 rfl hl (by decide) rfl (fun ls hl => ?_)
    refine lv_iload_n hx hb dX5_sortMemory_16 rfl (lv_at hl 1 rfl) ?_
    refine lv_istore_n (lv' := [(3, .int (iI x1_1)), (2, .int (iI ((s0_1.2 9) x1_1))), (1, .int (iI x1_1)), (0, .ref (a 0))]) hx hb dX5_sortMemory_17 rfl hl (by decide) rfl (fun ls hl => ?_)
    obtain ⟨I20, μ21, h22, h23⟩ := h15
    refine zr_loop (G := G) (σ := Int × SS) (fun x_19 => (rg x_19.1 ∧ RG x_19.2) ∧ I20 x_19.1 x_19.2) (fun x_19 => μ21 x_19.1 x_19.2) (fun x_19 => W5 G a x_19.2) (fun x_19 => [(3, .int (iI x_19.1)), (2, .int (iI ((s0_1.2 9) x1_1))), (1, .int (iI x1_1)), (0, .ref (a 0))]) ((x1_1, s0_1)) ⟨⟨rx1_1, rs0_1⟩, h22⟩ hP hD hS (lv_sub hl [0, 1, 2, 3] rfl) ?_
    clear hP hD hS hl
    intro x_19 H locs ls ih24 h25 hP hD hS hl
    obtain ⟨x3_19, s0_19⟩ := x_19
    obtain ⟨⟨rx3_19, rs0_19⟩, h25⟩ := h25
    have h26 := h23 x3_19 s0_19 rx3_19 rs0_19 h25
    have hP : va_P G.1 vwCl (W5 G a s0_19) H := hP
    have hD : va_D A (W5 G a s0_19) := hD
    have hl : lv_has ls 4 [(3, .int (iI x3_19)), (2, .int (iI ((s0_1.2 9) x1_1))), (1, .int (iI x1_1)), (0, .ref (a 0))] := hl
    refine lv_iload_n hx hb dX5_sortMemory_18 rfl (lv_at hl 0 rfl) ?_
    refine zr_if_le (tgt := 58) (x := x3_19) hx hb rx3_19 dX5_sortMemory_19 (by decide) (fun c27 => ?_) (fun c27 => ?_)
    · have h30 := h26.2 c27
      refine lv_aload_n hx hb dX5_sortMemory_58 rfl (lv_at hl 3 rfl) ?_
      refine lv_iload_n hx hb dX5_sortMemory_59 rfl (lv_at hl 0 rfl) ?_
      refine lv_iload_n hx hb dX5_sortMemory_60 rfl (lv_at hl 1 rfl) ?_
      obtain ⟨b31, h32⟩ := h30
      refine zc_vv (As := [.int (iI x3_19), .int (iI ((s0_1.2 9) x1_1))]) (rest := []) (w2 := fun u_34 => W5 G a (sA s0_19 9 (uZ (s0_19.2 9) x3_19 ((s0_1.2 9) x1_1)))) (c_X5_placeInMemory l G a s0_19 x3_19 ((s0_1.2 9) x1_1) rs0_19 rx3_19 r18 b31) ⟨hx, hb, hml, hown, hts⟩ (cwV 2 hts gX5_sortMemory_X5_placeInMemory rfl rfl rfl hdX5_placeInMemory ⟨Nat.le_of_ble_eq_true rfl, Nat.le_of_ble_eq_true rfl⟩) hK hP hD hS hA (q0 := 0) rfl rfl [0, 1, 2, 3, 4, 5, 6, 7, 8, 9, 10, 11, 12, 13] [] [0, 1, 2, 3, 4, 5, 6, 7, 8, 9, 10, 11, 12, 13] rfl rfl rfl rfl (by decide) (fun _ => rfl) rfl rfl hl.1 rfl (Nat.le_of_ble_eq_true rfl) dX5_sortMemory_61 ⟨Nat.zero_le _, Nat.zero_le _⟩ (fun u_34 H locs hw hP hD hS => ?_)
      have r33 := hw
      have hP : va_P G.1 vwCl (W5 G a (sA s0_19 9 (uZ (s0_19.2 9) x3_19 ((s0_1.2 9) x1_1)))) H := hP
      have hD : va_D A (W5 G a (sA s0_19 9 (uZ (s0_19.2 9) x3_19 ((s0_1.2 9) x1_1)))) := hD
      obtain ⟨r36, h37⟩ := h32
      refine zr_iinc (x := x1_1) (lv' := [(1, .int (iI (x1_1 + 1))), (3, .int (iI x3_19)), (2, .int (iI ((s0_1.2 9) x1_1))), (0, .ref (a 0))]) hx hb dX5_sortMemory_64 hl (k := 2) rfl (by decide) rfl (fun ls hl => ?_)
      refine lv_goto (tgt := 2) hx hb dX5_sortMemory_67 (by decide) ?_
      obtain ⟨h38, h39⟩ := h37
      exact ih6 ((x1_1 + 1, sA s0_19 9 (uZ (s0_19.2 9) x3_19 ((s0_1.2 9) x1_1)))) _ _ _ ⟨⟨r36, (RG_A rs0_19 (r33.2 9))⟩, h38⟩ h39 hP hD hS (lv_sub hl [0, 3] rfl)
    · have h40 := h26.1 c27
      refine lv_aload_n hx hb dX5_sortMemory_22 rfl (lv_at hl 3 rfl) ?_
      refine va_get (v := .ref (a 1)) (ci := 5) (C := RX5) (T := TX5) (N := 16) hx hb hts imX5_sortMemory_X5 hown hK hP 0 rfl rfl 0 (by decide) k2 (fun _ h9 => h9) rfl dX5_sortMemory_23 ?_
      refine lv_iload_n hx hb dX5_sortMemory_26 rfl (lv_at hl 1 rfl) ?_
      refine lv_aload_n hx hb dX5_sortMemory_27 rfl (lv_at hl 3 rfl) ?_
      refine lv_iload_n hx hb dX5_sortMemory_28 rfl (lv_at hl 0 rfl) ?_
      refine lv_iconst (v := iI 1) hx hb dX5_sortMemory_29 rfl ?_
      refine zr_isub (x := x3_19) (y := 1) hx hb dX5_sortMemory_30 ?_
      obtain ⟨r41, h42⟩ := h40
      obtain ⟨b43, h44⟩ := h42
      refine zc_vi (As := [.int (iI (x3_19 - 1))]) (rest := [.int (iI ((s0_1.2 9) x1_1)), .ref (a 1)]) (w2 := fun u_45 => W5 G a s0_19) (c_X5_memoryRowAt l G a s0_19 (x3_19 - 1) rs0_19 r41 b43) ⟨hx, hb, hml, hown, hts⟩ (cwV 1 hts gX5_sortMemory_X5_memoryRowAt rfl rfl rfl hdX5_memoryRowAt ⟨Nat.le_of_ble_eq_true rfl, Nat.le_of_ble_eq_true rfl⟩) hK hP hD hS hA (q0 := 0) rfl rfl [0, 1, 2, 3, 4, 5, 6, 7, 8, 9, 10, 11, 12, 13] [] [0, 1, 2, 3, 4, 5, 6, 7, 8, 9, 10, 11, 12, 13] rfl rfl rfl rfl (by decide) (fun _ => rfl) rfl rfl hl.1 rfl (Nat.le_of_ble_eq_true rfl) dX5_sortMemory_31 ⟨Nat.zero_le _, Nat.zero_le _⟩ (fun z46 u_45 H locs hw hP hD hS => ?_)
      obtain ⟨rfl, r47⟩ := hw
      have hP : va_P G.1 vwCl (W5 G a s0_19) H := hP
      have hD : va_D A (W5 G a s0_19) := hD
      obtain ⟨b48, h49⟩ := h44
      obtain ⟨b50, h51⟩ := h49
      refine zc_vi (As := [.int (iI ((s0_1.2 9) x1_1)), .int (iI ((s0_19.2 9) (x3_19 - 1)))]) (rest := []) (w2 := fun u_52 => W5 G a s0_19) (c_X3_comesBefore l G (a 1) (a 2) (a 3) (a 4) (s0_19.2 0) (s0_19.2 1) (s0_19.2 2) (s0_19.1 16) ((s0_1.2 9) x1_1) ((s0_19.2 9) (x3_19 - 1)) (rs0_19.2 0) (rs0_19.2 1) (rs0_19.2 2) (rs0_19.1 16) r18 r47 b48 b50) ⟨hx, hb, hml, hown, hts⟩ (cwV 2 hts gX5_sortMemory_X3_comesBefore rfl rfl rfl hdX3_comesBefore ⟨Nat.le_of_ble_eq_true rfl, Nat.le_of_ble_eq_true rfl⟩) hK hP hD hS hA (q0 := 1) rfl rfl [1, 2, 3, 4] [0, 5, 6, 7, 8, 9, 10, 11, 12, 13] [0, 10, 11, 12, 13, 1, 2, 3, 4, 5, 6, 7, 8, 9] rfl rfl rfl rfl (by decide) (fun _ => rfl) rfl rfl hl.1 rfl (Nat.le_of_ble_eq_true rfl) dX5_sortMemory_34 ⟨Nat.zero_le _, Nat.zero_le _⟩ (fun z53 u_52 H locs hw hP hD hS => ?_)
      obtain ⟨rfl, r54⟩ := hw
      have hP : va_P G.1 vwCl (W5 G a s0_19) H := hP
      have hD : va_D A (W5 G a s0_19) := hD
      refine zr_ifB_eq (tgt := 58)  hx hb dX5_sortMemory_37 (by decide) (fun c55 => ?_) (fun c55 => ?_)
      · have h58 := h51.2 c55
        refine lv_aload_n hx hb dX5_sortMemory_58 rfl (lv_at hl 3 rfl) ?_
        refine lv_iload_n hx hb dX5_sortMemory_59 rfl (lv_at hl 0 rfl) ?_
        refine lv_iload_n hx hb dX5_sortMemory_60 rfl (lv_at hl 1 rfl) ?_
        obtain ⟨b59, h60⟩ := h58
        refine zc_vv (As := [.int (iI x3_19), .int (iI ((s0_1.2 9) x1_1))]) (rest := []) (w2 := fun u_62 => W5 G a (sA s0_19 9 (uZ (s0_19.2 9) x3_19 ((s0_1.2 9) x1_1)))) (c_X5_placeInMemory l G a s0_19 x3_19 ((s0_1.2 9) x1_1) rs0_19 rx3_19 r18 b59) ⟨hx, hb, hml, hown, hts⟩ (cwV 2 hts gX5_sortMemory_X5_placeInMemory rfl rfl rfl hdX5_placeInMemory ⟨Nat.le_of_ble_eq_true rfl, Nat.le_of_ble_eq_true rfl⟩) hK hP hD hS hA (q0 := 0) rfl rfl [0, 1, 2, 3, 4, 5, 6, 7, 8, 9, 10, 11, 12, 13] [] [0, 1, 2, 3, 4, 5, 6, 7, 8, 9, 10, 11, 12, 13] rfl rfl rfl rfl (by decide) (fun _ => rfl) rfl rfl hl.1 rfl (Nat.le_of_ble_eq_true rfl) dX5_sortMemory_61 ⟨Nat.zero_le _, Nat.zero_le _⟩ (fun u_62 H locs hw hP hD hS => ?_)
        have r61 := hw
        have hP : va_P G.1 vwCl (W5 G a (sA s0_19 9 (uZ (s0_19.2 9) x3_19 ((s0_1.2 9) x1_1)))) H := hP
        have hD : va_D A (W5 G a (sA s0_19 9 (uZ (s0_19.2 9) x3_19 ((s0_1.2 9) x1_1)))) := hD
        obtain ⟨r64, h65⟩ := h60
        refine zr_iinc (x := x1_1) (lv' := [(1, .int (iI (x1_1 + 1))), (3, .int (iI x3_19)), (2, .int (iI ((s0_1.2 9) x1_1))), (0, .ref (a 0))]) hx hb dX5_sortMemory_64 hl (k := 2) rfl (by decide) rfl (fun ls hl => ?_)
        refine lv_goto (tgt := 2) hx hb dX5_sortMemory_67 (by decide) ?_
        obtain ⟨h66, h67⟩ := h65
        exact ih6 ((x1_1 + 1, sA s0_19 9 (uZ (s0_19.2 9) x3_19 ((s0_1.2 9) x1_1)))) _ _ _ ⟨⟨r64, (RG_A rs0_19 (r61.2 9))⟩, h66⟩ h67 hP hD hS (lv_sub hl [0, 3] rfl)
      · have h68 := h51.1 c55
        refine lv_aload_n hx hb dX5_sortMemory_40 rfl (lv_at hl 3 rfl) ?_
        refine lv_iload_n hx hb dX5_sortMemory_41 rfl (lv_at hl 0 rfl) ?_
        refine lv_aload_n hx hb dX5_sortMemory_42 rfl (lv_at hl 3 rfl) ?_
        refine lv_iload_n hx hb dX5_sortMemory_43 rfl (lv_at hl 0 rfl) ?_
        refine lv_iconst (v := iI 1) hx hb dX5_sortMemory_44 rfl ?_
        refine zr_isub (x := x3_19) (y := 1) hx hb dX5_sortMemory_45 ?_
        refine zc_vi (As := [.int (iI (x3_19 - 1))]) (rest := [.int (iI x3_19), .ref (a 0)]) (w2 := fun u_69 => W5 G a s0_19) (c_X5_memoryRowAt l G a s0_19 (x3_19 - 1) rs0_19 r41 b43) ⟨hx, hb, hml, hown, hts⟩ (cwV 1 hts gX5_sortMemory_X5_memoryRowAt rfl rfl rfl hdX5_memoryRowAt ⟨Nat.le_of_ble_eq_true rfl, Nat.le_of_ble_eq_true rfl⟩) hK hP hD hS hA (q0 := 0) rfl rfl [0, 1, 2, 3, 4, 5, 6, 7, 8, 9, 10, 11, 12, 13] [] [0, 1, 2, 3, 4, 5, 6, 7, 8, 9, 10, 11, 12, 13] rfl rfl rfl rfl (by decide) (fun _ => rfl) rfl rfl hl.1 rfl (Nat.le_of_ble_eq_true rfl) dX5_sortMemory_46 ⟨Nat.zero_le _, Nat.zero_le _⟩ (fun z70 u_69 H locs hw hP hD hS => ?_)
        obtain ⟨rfl, r71⟩ := hw
        have hP : va_P G.1 vwCl (W5 G a s0_19) H := hP
        have hD : va_D A (W5 G a s0_19) := hD
        obtain ⟨b72, h73⟩ := h68
        refine zc_vv (As := [.int (iI x3_19), .int (iI ((s0_19.2 9) (x3_19 - 1)))]) (rest := []) (w2 := fun u_75 => W5 G a (sA s0_19 9 (uZ (s0_19.2 9) x3_19 ((s0_19.2 9) (x3_19 - 1))))) (c_X5_placeInMemory l G a s0_19 x3_19 ((s0_19.2 9) (x3_19 - 1)) rs0_19 rx3_19 r71 b72) ⟨hx, hb, hml, hown, hts⟩ (cwV 2 hts gX5_sortMemory_X5_placeInMemory rfl rfl rfl hdX5_placeInMemory ⟨Nat.le_of_ble_eq_true rfl, Nat.le_of_ble_eq_true rfl⟩) hK hP hD hS hA (q0 := 0) rfl rfl [0, 1, 2, 3, 4, 5, 6, 7, 8, 9, 10, 11, 12, 13] [] [0, 1, 2, 3, 4, 5, 6, 7, 8, 9, 10, 11, 12, 13] rfl rfl rfl rfl (by decide) (fun _ => rfl) rfl rfl hl.1 rfl (Nat.le_of_ble_eq_true rfl) dX5_sortMemory_49 ⟨Nat.zero_le _, Nat.zero_le _⟩ (fun u_75 H locs hw hP hD hS => ?_)
        have r74 := hw
        have hP : va_P G.1 vwCl (W5 G a (sA s0_19 9 (uZ (s0_19.2 9) x3_19 ((s0_19.2 9) (x3_19 - 1))))) H := hP
        have hD : va_D A (W5 G a (sA s0_19 9 (uZ (s0_19.2 9) x3_19 ((s0_19.2 9) (x3_19 - 1))))) := hD
        obtain ⟨r77, h78⟩ := h73
        refine zr_iinc (x := x3_19) (lv' := [(3, .int (iI (x3_19 + (-1)))), (2, .int (iI ((s0_1.2 9) x1_1))), (1, .int (iI x1_1)), (0, .ref (a 0))]) hx hb dX5_sortMemory_52 hl (k := 0) rfl (by decide) rfl (fun ls hl => ?_)
        refine lv_goto (tgt := 18) hx hb dX5_sortMemory_55 (by decide) ?_
        obtain ⟨h79, h80⟩ := h78
        exact ih24 ((x3_19 + (-1), sA s0_19 9 (uZ (s0_19.2 9) x3_19 ((s0_19.2 9) (x3_19 - 1))))) _ _ _ ⟨⟨r77, (RG_A rs0_19 (r74.2 9))⟩, h79⟩ h80 hP hD hS (lv_sub hl [0, 1, 2, 3] rfl)
theorem c_X5_sortMemory (l : Launch) (G : ZG) (a : Nat → Nat) (s : SS)   (r_s : RG s)  (p0 : 0 ≤ (s.1 6) ∧ (s.1 6) ≤ 20) (p1 : ∀ i, 0 ≤ i → i < (s.1 6) → 0 ≤ (s.2 9) i ∧ (s.2 9) i < 120) (p2 : ∀ i j, 0 ≤ i → i < j → j < (s.1 6) → (s.2 9) i ≠ (s.2 9) j) : ZV l G yX5_sortMemory wsX5_sortMemory 1 22 [.ref (a 0)] (W5 G a s) (fun u : SS => W5 G a u) (fun (u : SS) => RG u ∧ (∃ f : Int → Int, u = sA s 9 f ∧ (∀ i j, 0 ≤ i → i < j → j < (s.1 6) → ((s.2 0) (f i) < (s.2 0) (f j) ∨ (s.2 0) (f i) = (s.2 0) (f j) ∧ f i < f j)) ∧ (∀ i, 0 ≤ i → i < (s.1 6) → ∃ j, 0 ≤ j ∧ j < (s.1 6) ∧ f i = (s.2 9) j) ∧ ∀ i, 0 ≤ i → i < (s.1 6) → ∃ j, 0 ≤ j ∧ j < (s.1 6) ∧ (s.2 9) i = f j)) :=
  c0_X5_sortMemory l G a s (fun s' => ∃ f : Int → Int, s' = sA s 9 f ∧ (∀ i j, 0 ≤ i → i < j → j < (s.1 6) → ((s.2 0) (f i) < (s.2 0) (f j) ∨ (s.2 0) (f i) = (s.2 0) (f j) ∧ f i < f j)) ∧ (∀ i, 0 ≤ i → i < (s.1 6) → ∃ j, 0 ≤ j ∧ j < (s.1 6) ∧ f i = (s.2 9) j) ∧ ∀ i, 0 ≤ i → i < (s.1 6) → ∃ j, 0 ≤ j ∧ j < (s.1 6) ∧ (s.2 9) i = f j) r_s  (sp_X5_sortMemory s  r_s  p0 p1 p2)
theorem imX5_inputWithFirstRow_X4 : ∀ w ∈ wsX40, w ∈ wsX5_inputWithFirstRow := fun _ h => (List.mem_cons_of_mem _ (List.mem_append_left _ (List.mem_append_right _ h)))
theorem imX5_inputWithFirstRow_X5 : ∀ w ∈ wsX50, w ∈ wsX5_inputWithFirstRow := fun _ h => (List.mem_cons_of_mem _ (List.mem_append_left _ (List.mem_append_left _ (List.mem_append_right _ h))))
theorem hdX5_inputWithFirstRow : yX5_inputWithFirstRow.cls = RX5 ∧ yX5_inputWithFirstRow.cls ≠ "java/lang/invoke/MethodHandle" ∧ yX5_inputWithFirstRow.cls ≠ "java/lang/invoke/VarHandle" ∧ (parseMethodDescriptor yX5_inputWithFirstRow.desc).map (fun d => d.parameters.length) = some 0 := by decide +kernel
set_option maxRecDepth 100000 in
set_option maxHeartbeats 4000000 in
theorem c0_X5_inputWithFirstRow (l : Launch) (G : ZG) (a : Nat → Nat) (s : SS)  (P : Int → Prop) (r_s : RG s)  (hwp : wp_X5_inputWithFirstRow s P) : ZI l G yX5_inputWithFirstRow wsX5_inputWithFirstRow 1 22 [.ref (a 0)] (W5 G a s) (fun u : Unit => W5 G a s) (fun (z : Int) (u : Unit) => rg z ∧ P z) := by
  unfold wp_X5_inputWithFirstRow at hwp
  refine zm_i (cc := cX5_inputWithFirstRow) (maxL := 3) (ret := some .int) (own := RX5) (lvs := [(0, .ref (a 0))]) (by decide) rfl rfl (Nat.le_of_ble_eq_true rfl) rfl ?_
  intro p e sT m args below meth c ls A hx hb hr hml hown hts hlocks hK hP hD hS hA hl
  have k1 := hts (.fieldLink RX5 37 "GrantedSort$SortState" "inputs" "LGrantedSort$RunList;") (List.mem_of_getElem? (i := 1) rfl)
  have k2 := hts (.fieldLink RX5 83 "GrantedSort$RunList" "total" "I") (List.mem_of_getElem? (i := 2) rfl)
  have k3 := hts (.fieldLink RX5 12 "GrantedSort$SortState" "table" "LGrantedSort$RowTable;") (List.mem_of_getElem? (i := 3) rfl)
  refine lv_iconst (v := iI 0) hx hb dX5_inputWithFirstRow_0 rfl ?_
  refine lv_istore_n (lv' := [(1, .int (iI 0)), (0, .ref (a 0))]) hx hb dX5_inputWithFirstRow_1 rfl hl (by decide) rfl (fun ls hl => ?_)
  refine lv_iconst (v := iI 1) hx hb dX5_inputWithFirstRow_2 rfl ?_
  refine lv_istore_n (lv' := [(2, .int (iI 1)), (1, .int (iI 0)), (0, .ref (a 0))]) hx hb dX5_inputWithFirstRow_3 rfl hl (by decide) rfl (fun ls hl => ?_)
  obtain ⟨I2, μ3, h4, h5⟩ := hwp
  refine zr_loop (G := G) (σ := Int × Int) (fun x_1 => (rg x_1.1 ∧ rg x_1.2) ∧ I2 x_1.1 x_1.2) (fun x_1 => μ3 x_1.1 x_1.2) (fun x_1 => W5 G a s) (fun x_1 => [(2, .int (iI x_1.2)), (1, .int (iI x_1.1)), (0, .ref (a 0))]) ((0, 1)) ⟨⟨rg_0, rg_1⟩, h4⟩ hP hD hS (lv_sub hl [0, 1, 2] rfl) ?_
  clear hP hD hS hl
  intro x_1 H locs ls ih6 h7 hP hD hS hl
  obtain ⟨x1_1, x2_1⟩ := x_1
  obtain ⟨⟨rx1_1, rx2_1⟩, h7⟩ := h7
  have h8 := h5 x1_1 x2_1 rx1_1 rx2_1 h7
  have hP : va_P G.1 vwCl (W5 G a s) H := hP
  have hD : va_D A (W5 G a s) := hD
  have hl : lv_has ls 3 [(2, .int (iI x2_1)), (1, .int (iI x1_1)), (0, .ref (a 0))] := hl
  refine lv_iload_n hx hb dX5_inputWithFirstRow_4 rfl (lv_at hl 0 rfl) ?_
  refine lv_aload_n hx hb dX5_inputWithFirstRow_5 rfl (lv_at hl 2 rfl) ?_
  refine va_get (v := .ref (a 10)) (ci := 5) (C := RX5) (T := TX5) (N := 16) hx hb hts imX5_inputWithFirstRow_X5 hown hK hP 0 rfl rfl 7 (by decide) k1 (fun _ h9 => h9) rfl dX5_inputWithFirstRow_6 ?_
  refine va_get (v := .int (iI (s.1 18))) (ci := 4) (C := RX4) (T := TX4) (N := 4) hx hb hts imX5_inputWithFirstRow_X4 hown hK hP 10 rfl rfl 3 (by decide) k2 (fun _ h9 => h9) rfl dX5_inputWithFirstRow_9 ?_
  refine zr_icmp_ge (tgt := 49) (x := x2_1) (y := (s.1 18)) hx hb rx2_1 (r_s.1 18) dX5_inputWithFirstRow_12 (by decide) (fun c9 => ?_) (fun c9 => ?_)
  · have h12 := h8.2 c9
    refine lv_iload_n hx hb dX5_inputWithFirstRow_49 rfl (lv_at hl 1 rfl) ?_
    exact zr_iret (z := x1_1) hx hb hr hlocks hK () hP hD hS dX5_inputWithFirstRow_50 ⟨rx1_1, h12⟩
  · have h13 := h8.1 c9
    refine lv_aload_n hx hb dX5_inputWithFirstRow_15 rfl (lv_at hl 2 rfl) ?_
    refine va_get (v := .ref (a 1)) (ci := 5) (C := RX5) (T := TX5) (N := 16) hx hb hts imX5_inputWithFirstRow_X5 hown hK hP 0 rfl rfl 0 (by decide) k3 (fun _ h9 => h9) rfl dX5_inputWithFirstRow_16 ?_
    refine lv_aload_n hx hb dX5_inputWithFirstRow_19 rfl (lv_at hl 2 rfl) ?_
    refine va_get (v := .ref (a 10)) (ci := 5) (C := RX5) (T := TX5) (N := 16) hx hb hts imX5_inputWithFirstRow_X5 hown hK hP 0 rfl rfl 7 (by decide) k1 (fun _ h9 => h9) rfl dX5_inputWithFirstRow_20 ?_
    refine lv_iload_n hx hb dX5_inputWithFirstRow_23 rfl (lv_at hl 0 rfl) ?_
    obtain ⟨b14, h15⟩ := h13
    refine zc_vi (As := [.int (iI x2_1)]) (rest := [.ref (a 1)]) (w2 := fun u_16 => W5 G a s) (c_X4_firstAt l G (a 10) (a 11) (a 12) (a 13) (s.2 6) (s.2 7) (s.2 8) (s.1 18) x2_1 (r_s.2 6) (r_s.2 7) (r_s.2 8) (r_s.1 18) rx2_1 b14) ⟨hx, hb, hml, hown, hts⟩ (cwV 1 hts gX5_inputWithFirstRow_X4_firstAt rfl rfl rfl hdX4_firstAt ⟨Nat.le_of_ble_eq_true rfl, Nat.le_of_ble_eq_true rfl⟩) hK hP hD hS hA (q0 := 10) rfl rfl [10, 11, 12, 13] [0, 1, 2, 3, 4, 5, 6, 7, 8, 9] [0, 1, 2, 3, 4, 5, 6, 7, 8, 9, 10, 11, 12, 13] rfl rfl rfl rfl (by decide) (fun _ => rfl) rfl rfl hl.1 rfl (Nat.le_of_ble_eq_true rfl) dX5_inputWithFirstRow_24 ⟨Nat.zero_le _, Nat.zero_le _⟩ (fun z17 u_16 H locs hw hP hD hS => ?_)
    obtain ⟨rfl, r18⟩ := hw
    have hP : va_P G.1 vwCl (W5 G a s) H := hP
    have hD : va_D A (W5 G a s) := hD
    refine lv_aload_n hx hb dX5_inputWithFirstRow_27 rfl (lv_at hl 2 rfl) ?_
    refine va_get (v := .ref (a 10)) (ci := 5) (C := RX5) (T := TX5) (N := 16) hx hb hts imX5_inputWithFirstRow_X5 hown hK hP 0 rfl rfl 7 (by decide) k1 (fun _ h9 => h9) rfl dX5_inputWithFirstRow_28 ?_
    refine lv_iload_n hx hb dX5_inputWithFirstRow_31 rfl (lv_at hl 1 rfl) ?_
    obtain ⟨b19, h20⟩ := h15
    refine zc_vi (As := [.int (iI x1_1)]) (rest := [.int (iI ((s.2 7) x2_1)), .ref (a 1)]) (w2 := fun u_21 => W5 G a s) (c_X4_firstAt l G (a 10) (a 11) (a 12) (a 13) (s.2 6) (s.2 7) (s.2 8) (s.1 18) x1_1 (r_s.2 6) (r_s.2 7) (r_s.2 8) (r_s.1 18) rx1_1 b19) ⟨hx, hb, hml, hown, hts⟩ (cwV 1 hts gX5_inputWithFirstRow_X4_firstAt rfl rfl rfl hdX4_firstAt ⟨Nat.le_of_ble_eq_true rfl, Nat.le_of_ble_eq_true rfl⟩) hK hP hD hS hA (q0 := 10) rfl rfl [10, 11, 12, 13] [0, 1, 2, 3, 4, 5, 6, 7, 8, 9] [0, 1, 2, 3, 4, 5, 6, 7, 8, 9, 10, 11, 12, 13] rfl rfl rfl rfl (by decide) (fun _ => rfl) rfl rfl hl.1 rfl (Nat.le_of_ble_eq_true rfl) dX5_inputWithFirstRow_32 ⟨Nat.zero_le _, Nat.zero_le _⟩ (fun z22 u_21 H locs hw hP hD hS => ?_)
    obtain ⟨rfl, r23⟩ := hw
    have hP : va_P G.1 vwCl (W5 G a s) H := hP
    have hD : va_D A (W5 G a s) := hD
    obtain ⟨b24, h25⟩ := h20
    obtain ⟨b26, h27⟩ := h25
    refine zc_vi (As := [.int (iI ((s.2 7) x2_1)), .int (iI ((s.2 7) x1_1))]) (rest := []) (w2 := fun u_28 => W5 G a s) (c_X3_comesBefore l G (a 1) (a 2) (a 3) (a 4) (s.2 0) (s.2 1) (s.2 2) (s.1 16) ((s.2 7) x2_1) ((s.2 7) x1_1) (r_s.2 0) (r_s.2 1) (r_s.2 2) (r_s.1 16) r18 r23 b24 b26) ⟨hx, hb, hml, hown, hts⟩ (cwV 2 hts gX5_inputWithFirstRow_X3_comesBefore rfl rfl rfl hdX3_comesBefore ⟨Nat.le_of_ble_eq_true rfl, Nat.le_of_ble_eq_true rfl⟩) hK hP hD hS hA (q0 := 1) rfl rfl [1, 2, 3, 4] [0, 5, 6, 7, 8, 9, 10, 11, 12, 13] [0, 10, 11, 12, 13, 1, 2, 3, 4, 5, 6, 7, 8, 9] rfl rfl rfl rfl (by decide) (fun _ => rfl) rfl rfl hl.1 rfl (Nat.le_of_ble_eq_true rfl) dX5_inputWithFirstRow_35 ⟨Nat.zero_le _, Nat.zero_le _⟩ (fun z29 u_28 H locs hw hP hD hS => ?_)
    obtain ⟨rfl, r30⟩ := hw
    have hP : va_P G.1 vwCl (W5 G a s) H := hP
    have hD : va_D A (W5 G a s) := hD
    refine zr_ifB_eq (tgt := 43)  hx hb dX5_inputWithFirstRow_38 (by decide) (fun c31 => ?_) (fun c31 => ?_)
    · have h34 := h27.2 c31
      obtain ⟨r35, h36⟩ := h34
      refine zr_iinc (x := x2_1) (lv' := [(2, .int (iI (x2_1 + 1))), (1, .int (iI x1_1)), (0, .ref (a 0))]) hx hb dX5_inputWithFirstRow_43 hl (k := 0) rfl (by decide) rfl (fun ls hl => ?_)
      refine lv_goto (tgt := 4) hx hb dX5_inputWithFirstRow_46 (by decide) ?_
      obtain ⟨h37, h38⟩ := h36
      exact ih6 ((x1_1, x2_1 + 1)) _ _ _ ⟨⟨rx1_1, r35⟩, h37⟩ h38 hP hD hS (lv_sub hl [0, 1, 2] rfl)
    · have h39 := h27.1 c31
      refine lv_iload_n hx hb dX5_inputWithFirstRow_41 rfl (lv_at hl 0 rfl) ?_
      refine lv_istore_n (lv' := [(1, .int (iI x2_1)), (2, .int (iI x2_1)), (0, .ref (a 0))]) hx hb dX5_inputWithFirstRow_42 rfl hl (by decide) rfl (fun ls hl => ?_)
      obtain ⟨r40, h41⟩ := h39
      refine zr_iinc (x := x2_1) (lv' := [(2, .int (iI (x2_1 + 1))), (1, .int (iI x2_1)), (0, .ref (a 0))]) hx hb dX5_inputWithFirstRow_43 hl (k := 1) rfl (by decide) rfl (fun ls hl => ?_)
      refine lv_goto (tgt := 4) hx hb dX5_inputWithFirstRow_46 (by decide) ?_
      obtain ⟨h42, h43⟩ := h41
      exact ih6 ((x2_1, x2_1 + 1)) _ _ _ ⟨⟨rx2_1, r40⟩, h42⟩ h43 hP hD hS (lv_sub hl [0, 1, 2] rfl)
theorem c_X5_inputWithFirstRow (l : Launch) (G : ZG) (a : Nat → Nat) (s : SS)   (r_s : RG s)  (p0 : 1 ≤ (s.1 18) ∧ (s.1 18) ≤ 120) (p1 : ∀ i, 0 ≤ i → i < (s.1 18) → 0 ≤ (s.2 7) i ∧ (s.2 7) i < 120) : ZI l G yX5_inputWithFirstRow wsX5_inputWithFirstRow 1 22 [.ref (a 0)] (W5 G a s) (fun u : Unit => W5 G a s) (fun (zq : Int) (u : Unit) => rg zq ∧ (0 ≤ zq ∧ zq < (s.1 18) ∧ ∀ i, 0 ≤ i → i < (s.1 18) → i ≠ zq → ¬ ((s.2 0) ((s.2 7) i) < (s.2 0) ((s.2 7) zq) ∨ (s.2 0) ((s.2 7) i) = (s.2 0) ((s.2 7) zq) ∧ (s.2 7) i < (s.2 7) zq))) :=
  c0_X5_inputWithFirstRow l G a s (fun r => 0 ≤ r ∧ r < (s.1 18) ∧ ∀ i, 0 ≤ i → i < (s.1 18) → i ≠ r → ¬ ((s.2 0) ((s.2 7) i) < (s.2 0) ((s.2 7) r) ∨ (s.2 0) ((s.2 7) i) = (s.2 0) ((s.2 7) r) ∧ (s.2 7) i < (s.2 7) r)) r_s  (sp_X5_inputWithFirstRow s  r_s  p0 p1)
