theorem imX5_collect_X5 : ∀ w ∈ wsX50, w ∈ wsX5_collect := fun _ h => (List.mem_cons_of_mem _ (List.mem_append_left _ (List.mem_append_left _ (List.mem_append_right _ h))))
theorem hdX5_collect : yX5_collect.cls = RX5 ∧ yX5_collect.cls ≠ "java/lang/invoke/MethodHandle" ∧ yX5_collect.cls ≠ "java/lang/invoke/VarHandle" ∧ (parseMethodDescriptor yX5_collect.desc).map (fun d => d.parameters.length) = some 1 := by decide +kernel
set_option maxRecDepth 100000 in
set_option maxHeartbeats 4000000 in
theorem c0_X5_collect (l : Launch) (G : ZG) (a : Nat → Nat) (s : SS) (key : Int) (P : Int → SS → Prop) (r_s : RG s) (r_key : rg key) (hwp : wp_X5_collect s key P) : ZI l G yX5_collect wsX5_collect 3 68 [.ref (a 0), .int (iI key)] (W5 G a s) (fun u : SS => W5 G a u) (fun (z : Int) (u : SS) => rg z ∧ RG u ∧ P z u) := by
  unfold wp_X5_collect at hwp
  refine zm_i (cc := cX5_collect) (maxL := 4) (ret := some .int) (own := RX5) (lvs := [(0, .ref (a 0)), (1, .int (iI key))]) (by decide) rfl rfl (Nat.le_of_ble_eq_true rfl) rfl ?_
  intro p e sT m args below meth c ls A hx hb hr hml hown hts hlocks hK hP hD hS hA hl
  have k1 := hts (.fieldLink RX5 47 "GrantedSort$SortState" "isCombining" "Z") (List.mem_of_getElem? (i := 1) rfl)
  have k2 := hts (.fieldLink RX5 12 "GrantedSort$SortState" "table" "LGrantedSort$RowTable;") (List.mem_of_getElem? (i := 2) rfl)
  have k3 := hts (.fieldLink RX5 56 "GrantedSort$SortState" "rowsInMemory" "I") (List.mem_of_getElem? (i := 3) rfl)
  have k4 := hts (.fieldLink RX5 29 "GrantedSort$SortState" "memorySize" "I") (List.mem_of_getElem? (i := 4) rfl)
  refine lv_aload_n hx hb dX5_collect_0 rfl (lv_at hl 0 rfl) ?_
  refine va_get (v := .int (iI (s.1 2))) (ci := 5) (C := RX5) (T := TX5) (N := 16) hx hb hts imX5_collect_X5 hown hK hP 0 rfl rfl 2 (by decide) k1 (fun _ h9 => h9) rfl dX5_collect_1 ?_
  refine zr_if_eq (tgt := 15) (x := (s.1 2)) hx hb (r_s.1 2) dX5_collect_4 (by decide) (fun c1 => ?_) (fun c1 => ?_)
  · have h4 := hwp.1 c1
    refine lv_iconst (v := iI (-1)) hx hb dX5_collect_15 rfl ?_
    refine lv_istore_n (lv' := [(2, .int (iI (-1))), (0, .ref (a 0)), (1, .int (iI key))]) hx hb dX5_collect_16 rfl hl (by decide) rfl (fun ls hl => ?_)
    refine lv_aload_n hx hb dX5_collect_17 rfl (lv_at hl 1 rfl) ?_
    refine va_get (v := .ref (a 1)) (ci := 5) (C := RX5) (T := TX5) (N := 16) hx hb hts imX5_collect_X5 hown hK hP 0 rfl rfl 0 (by decide) k2 (fun _ h9 => h9) rfl dX5_collect_18 ?_
    refine lv_iload_n hx hb dX5_collect_21 rfl (lv_at hl 2 rfl) ?_
    obtain ⟨b5, h6⟩ := h4
    refine zc_vi (As := [.int (iI key)]) (rest := []) (w2 := fun u_11 => W5 G a (sS (sA (sA (sA s 0 (uZ (s.2 0) (s.1 16) key)) 1 (uZ (s.2 1) (s.1 16) 1)) 2 (uZ (s.2 2) (s.1 16) (-1))) 16 ((s.1 16) + 1))) (c_X3_put l G (a 1) (a 2) (a 3) (a 4) (s.2 0) (s.2 1) (s.2 2) (s.1 16) key (r_s.2 0) (r_s.2 1) (r_s.2 2) (r_s.1 16) r_key b5) ⟨hx, hb, hml, hown, hts⟩ (cwV 1 hts gX5_collect_X3_put rfl rfl rfl hdX3_put ⟨Nat.le_of_ble_eq_true rfl, Nat.le_of_ble_eq_true rfl⟩) hK hP hD hS hA (q0 := 1) rfl rfl [1, 2, 3, 4] [0, 5, 6, 7, 8, 9, 10, 11, 12, 13] [0, 10, 11, 12, 13, 1, 2, 3, 4, 5, 6, 7, 8, 9] rfl rfl rfl rfl (by decide) (fun _ => rfl) rfl rfl hl.1 rfl (Nat.le_of_ble_eq_true rfl) dX5_collect_22 ⟨Nat.zero_le _, Nat.zero_le _⟩ (fun z12 u_11 H locs hw hP hD hS => ?_)
    obtain ⟨rfl, r13, r7, r8, r9, r10⟩ := hw
    have hP : va_P G.1 vwCl (W5 G a (sS (sA (sA (sA s 0 (uZ (s.2 0) (s.1 16) key)) 1 (uZ (s.2 1) (s.1 16) 1)) 2 (uZ (s.2 2) (s.1 16) (-1))) 16 ((s.1 16) + 1))) H := hP
    have hD : va_D A (W5 G a (sS (sA (sA (sA s 0 (uZ (s.2 0) (s.1 16) key)) 1 (uZ (s.2 1) (s.1 16) 1)) 2 (uZ (s.2 2) (s.1 16) (-1))) 16 ((s.1 16) + 1))) := hD
    refine lv_istore_n (lv' := [(3, .int (iI (s.1 16))), (2, .int (iI (-1))), (0, .ref (a 0)), (1, .int (iI key))]) hx hb dX5_collect_25 rfl hl (by decide) rfl (fun ls hl => ?_)
    refine lv_aload_n hx hb dX5_collect_26 rfl (lv_at hl 2 rfl) ?_
    refine va_get (v := .ref (a 1)) (ci := 5) (C := RX5) (T := TX5) (N := 16) hx hb hts imX5_collect_X5 hown hK hP 0 rfl rfl 0 (by decide) k2 (fun _ h9 => h9) rfl dX5_collect_27 ?_
    refine lv_iload_n hx hb dX5_collect_30 rfl (lv_at hl 1 rfl) ?_
    refine zc_vi (As := [.int (iI (-1))]) (rest := []) (w2 := fun u_14 => W5 G a (sS (sA (sA (sA s 0 (uZ (s.2 0) (s.1 16) key)) 1 (uZ (s.2 1) (s.1 16) 1)) 2 (uZ (s.2 2) (s.1 16) (-1))) 16 ((s.1 16) + 1))) (c_X3_has l G (a 1) (a 2) (a 3) (a 4) (uZ (s.2 0) (s.1 16) key) (uZ (s.2 1) (s.1 16) 1) (uZ (s.2 2) (s.1 16) (-1)) ((s.1 16) + 1) (-1) r7 r8 r9 r10 rg_m1) ⟨hx, hb, hml, hown, hts⟩ (cwV 1 hts gX5_collect_X3_has rfl rfl rfl hdX3_has ⟨Nat.le_of_ble_eq_true rfl, Nat.le_of_ble_eq_true rfl⟩) hK hP hD hS hA (q0 := 1) rfl rfl [1, 2, 3, 4] [0, 5, 6, 7, 8, 9, 10, 11, 12, 13] [0, 10, 11, 12, 13, 1, 2, 3, 4, 5, 6, 7, 8, 9] rfl rfl rfl rfl (by decide) (fun _ => rfl) rfl rfl hl.1 rfl (Nat.le_of_ble_eq_true rfl) dX5_collect_31 ⟨Nat.zero_le _, Nat.zero_le _⟩ (fun z15 u_14 H locs hw hP hD hS => ?_)
    obtain ⟨rfl, r16⟩ := hw
    have hP : va_P G.1 vwCl (W5 G a (sS (sA (sA (sA s 0 (uZ (s.2 0) (s.1 16) key)) 1 (uZ (s.2 1) (s.1 16) 1)) 2 (uZ (s.2 2) (s.1 16) (-1))) 16 ((s.1 16) + 1))) H := hP
    have hD : va_D A (W5 G a (sS (sA (sA (sA s 0 (uZ (s.2 0) (s.1 16) key)) 1 (uZ (s.2 1) (s.1 16) 1)) 2 (uZ (s.2 2) (s.1 16) (-1))) 16 ((s.1 16) + 1))) := hD
    refine zr_ifB_eq (tgt := 48)  hx hb dX5_collect_34 (by decide) (fun c17 => ?_) (fun c17 => ?_)
    · have h20 := h6.2 c17
      refine lv_aload_n hx hb dX5_collect_48 rfl (lv_at hl 2 rfl) ?_
      refine va_get (v := .int (iI (s.1 6))) (ci := 5) (C := RX5) (T := TX5) (N := 16) hx hb hts imX5_collect_X5 hown hK hP 0 rfl rfl 6 (by decide) k3 (fun _ h9 => h9) rfl dX5_collect_49 ?_
      refine lv_aload_n hx hb dX5_collect_52 rfl (lv_at hl 2 rfl) ?_
      refine va_get (v := .int (iI (s.1 4))) (ci := 5) (C := RX5) (T := TX5) (N := 16) hx hb hts imX5_collect_X5 hown hK hP 0 rfl rfl 4 (by decide) k4 (fun _ h9 => h9) rfl dX5_collect_53 ?_
      refine zr_icmp_lt (tgt := 64) (x := (s.1 6)) (y := (s.1 4)) hx hb (r_s.1 6) (r_s.1 4) dX5_collect_56 (by decide) (fun c21 => ?_) (fun c21 => ?_)
      · have h24 := h20.1 c21
        refine lv_aload_n hx hb dX5_collect_64 rfl (lv_at hl 2 rfl) ?_
        refine lv_aload_n hx hb dX5_collect_65 rfl (lv_at hl 2 rfl) ?_
        refine va_get (v := .int (iI (s.1 6))) (ci := 5) (C := RX5) (T := TX5) (N := 16) hx hb hts imX5_collect_X5 hown hK hP 0 rfl rfl 6 (by decide) k3 (fun _ h9 => h9) rfl dX5_collect_66 ?_
        refine lv_iload_n hx hb dX5_collect_69 rfl (lv_at hl 0 rfl) ?_
        obtain ⟨b25, h26⟩ := h24
        refine zc_vv (As := [.int (iI (s.1 6)), .int (iI (s.1 16))]) (rest := []) (w2 := fun u_28 => W5 G a (sS (sA (sA (sA (sA s 0 (uZ (s.2 0) (s.1 16) key)) 1 (uZ (s.2 1) (s.1 16) 1)) 2 (uZ (s.2 2) (s.1 16) (-1))) 9 (uZ (s.2 9) (s.1 6) (s.1 16))) 16 ((s.1 16) + 1))) (c_X5_placeInMemory l G a (sS (sA (sA (sA s 0 (uZ (s.2 0) (s.1 16) key)) 1 (uZ (s.2 1) (s.1 16) 1)) 2 (uZ (s.2 2) (s.1 16) (-1))) 16 ((s.1 16) + 1)) (s.1 6) (s.1 16) (RG_S (RG_A (RG_A (RG_A r_s r7) r8) r9) r10) (r_s.1 6) r13 b25) ⟨hx, hb, hml, hown, hts⟩ (cwV 2 hts gX5_collect_X5_placeInMemory rfl rfl rfl hdX5_placeInMemory ⟨Nat.le_of_ble_eq_true rfl, Nat.le_of_ble_eq_true rfl⟩) hK hP hD hS hA (q0 := 0) rfl rfl [0, 1, 2, 3, 4, 5, 6, 7, 8, 9, 10, 11, 12, 13] [] [0, 1, 2, 3, 4, 5, 6, 7, 8, 9, 10, 11, 12, 13] rfl rfl rfl rfl (by decide) (fun _ => rfl) rfl rfl hl.1 rfl (Nat.le_of_ble_eq_true rfl) dX5_collect_70 ⟨Nat.zero_le _, Nat.zero_le _⟩ (fun u_28 H locs hw hP hD hS => ?_)
        have r27 := hw
        have hP : va_P G.1 vwCl (W5 G a (sS (sA (sA (sA (sA s 0 (uZ (s.2 0) (s.1 16) key)) 1 (uZ (s.2 1) (s.1 16) 1)) 2 (uZ (s.2 2) (s.1 16) (-1))) 9 (uZ (s.2 9) (s.1 6) (s.1 16))) 16 ((s.1 16) + 1))) H := hP
        have hD : va_D A (W5 G a (sS (sA (sA (sA (sA s 0 (uZ (s.2 0) (s.1 16) key)) 1 (uZ (s.2 1) (s.1 16) 1)) 2 (uZ (s.2 2) (s.1 16) (-1))) 9 (uZ (s.2 9) (s.1 6) (s.1 16))) 16 ((s.1 16) + 1))) := hD
        refine lv_aload_n hx hb dX5_collect_73 rfl (lv_at hl 2 rfl) ?_
        refine lv_dup hx hb dX5_collect_74 rfl ?_
        refine va_get (v := .int (iI (s.1 6))) (ci := 5) (C := RX5) (T := TX5) (N := 16) hx hb hts imX5_collect_X5 hown hK hP 0 rfl rfl 6 (by decide) k3 (fun _ h9 => h9) rfl dX5_collect_75 ?_
        refine lv_iconst (v := iI 1) hx hb dX5_collect_78 rfl ?_
        refine zr_iadd (x := (s.1 6)) (y := 1) hx hb dX5_collect_79 ?_
        obtain ⟨r30, h31⟩ := h26
        refine va_put (v := .int (iI ((s.1 6) + 1))) (ty := .int) (ci := 5) (C := RX5) (T := TX5) (N := 16) hx hb hts imX5_collect_X5 tyX5 tyX5_ok nmX5 hown hK hP hD hS 0 rfl rfl 6 (by decide) k3 (fun _ h9 => h9) rfl (tyX5_ok 6 (by decide)) rfl rfl (Nat.le_of_ble_eq_true rfl) dX5_collect_80 (fun H locs hP hD hS => ?_)
        have hP : va_P G.1 vwCl (W5 G a (sS (sS (sA (sA (sA (sA s 0 (uZ (s.2 0) (s.1 16) key)) 1 (uZ (s.2 1) (s.1 16) 1)) 2 (uZ (s.2 2) (s.1 16) (-1))) 9 (uZ (s.2 9) (s.1 6) (s.1 16))) 6 ((s.1 6) + 1)) 16 ((s.1 16) + 1))) H := hP
        have hD : va_D A (W5 G a (sS (sS (sA (sA (sA (sA s 0 (uZ (s.2 0) (s.1 16) key)) 1 (uZ (s.2 1) (s.1 16) 1)) 2 (uZ (s.2 2) (s.1 16) (-1))) 9 (uZ (s.2 9) (s.1 6) (s.1 16))) 6 ((s.1 6) + 1)) 16 ((s.1 16) + 1))) := hD
        refine lv_iload_n hx hb dX5_collect_83 rfl (lv_at hl 0 rfl) ?_
        exact zr_iret (z := (s.1 16)) hx hb hr hlocks hK (sS (sS (sA (sA (sA (sA s 0 (uZ (s.2 0) (s.1 16) key)) 1 (uZ (s.2 1) (s.1 16) 1)) 2 (uZ (s.2 2) (s.1 16) (-1))) 9 (uZ (s.2 9) (s.1 6) (s.1 16))) 6 ((s.1 6) + 1)) 16 ((s.1 16) + 1)) hP hD hS dX5_collect_84 ⟨r13, (RG_S (RG_S (RG_A (RG_A (RG_A (RG_A r_s r7) r8) r9) (r27.2 9)) r30) r10), h31⟩
      · have h32 := h20.2 c21
        refine lv_aload_n hx hb dX5_collect_59 rfl (lv_at hl 2 rfl) ?_
        obtain ⟨g33, h34⟩ := h32
        obtain ⟨b35, h36⟩ := h34
        obtain ⟨b37, h38⟩ := h36
        obtain ⟨b39, h40⟩ := h38
        refine zc_vi (As := []) (rest := []) (w2 := fun u_42 => W5 G a u_42) (c_X5_writeMemory l G a (sS (sA (sA (sA s 0 (uZ (s.2 0) (s.1 16) key)) 1 (uZ (s.2 1) (s.1 16) 1)) 2 (uZ (s.2 2) (s.1 16) (-1))) 16 ((s.1 16) + 1)) g33 (RG_S (RG_A (RG_A (RG_A r_s r7) r8) r9) r10) b35 b37 b39) ⟨hx, hb, hml, hown, hts⟩ (cwV 0 hts gX5_collect_X5_writeMemory rfl rfl rfl hdX5_writeMemory ⟨Nat.le_of_ble_eq_true rfl, Nat.le_of_ble_eq_true rfl⟩) hK hP hD hS hA (q0 := 0) rfl rfl [0, 1, 2, 3, 4, 5, 6, 7, 8, 9, 10, 11, 12, 13] [] [0, 1, 2, 3, 4, 5, 6, 7, 8, 9, 10, 11, 12, 13] rfl rfl rfl rfl (by decide) (fun _ => rfl) rfl rfl hl.1 rfl (Nat.le_of_ble_eq_true rfl) dX5_collect_60 ⟨Nat.zero_le _, Nat.zero_le _⟩ (fun z43 u_42 H locs hw hP hD hS => ?_)
        obtain ⟨u_s41, rfl⟩ : ∃ q, q = u_42 := ⟨_, rfl⟩
        obtain ⟨r45, ru_s41, h44⟩ := hw
        have h46 := h40 z43 u_s41 r45 ru_s41 h44
        have hP : va_P G.1 vwCl (W5 G a u_s41) H := hP
        have hD : va_D A (W5 G a u_s41) := hD
        refine lv_pop hx hb dX5_collect_63 rfl ?_
        refine lv_aload_n hx hb dX5_collect_64 rfl (lv_at hl 2 rfl) ?_
        refine lv_aload_n hx hb dX5_collect_65 rfl (lv_at hl 2 rfl) ?_
        refine va_get (v := .int (iI (u_s41.1 6))) (ci := 5) (C := RX5) (T := TX5) (N := 16) hx hb hts imX5_collect_X5 hown hK hP 0 rfl rfl 6 (by decide) k3 (fun _ h9 => h9) rfl dX5_collect_66 ?_
        refine lv_iload_n hx hb dX5_collect_69 rfl (lv_at hl 0 rfl) ?_
        obtain ⟨b47, h48⟩ := h46
        refine zc_vv (As := [.int (iI (u_s41.1 6)), .int (iI (s.1 16))]) (rest := []) (w2 := fun u_50 => W5 G a (sA u_s41 9 (uZ (u_s41.2 9) (u_s41.1 6) (s.1 16)))) (c_X5_placeInMemory l G a u_s41 (u_s41.1 6) (s.1 16) ru_s41 (ru_s41.1 6) r13 b47) ⟨hx, hb, hml, hown, hts⟩ (cwV 2 hts gX5_collect_X5_placeInMemory rfl rfl rfl hdX5_placeInMemory ⟨Nat.le_of_ble_eq_true rfl, Nat.le_of_ble_eq_true rfl⟩) hK hP hD hS hA (q0 := 0) rfl rfl [0, 1, 2, 3, 4, 5, 6, 7, 8, 9, 10, 11, 12, 13] [] [0, 1, 2, 3, 4, 5, 6, 7, 8, 9, 10, 11, 12, 13] rfl rfl rfl rfl (by decide) (fun _ => rfl) rfl rfl hl.1 rfl (Nat.le_of_ble_eq_true rfl) dX5_collect_70 ⟨Nat.zero_le _, Nat.zero_le _⟩ (fun u_50 H locs hw hP hD hS => ?_)
        have r49 := hw
        have hP : va_P G.1 vwCl (W5 G a (sA u_s41 9 (uZ (u_s41.2 9) (u_s41.1 6) (s.1 16)))) H := hP
        have hD : va_D A (W5 G a (sA u_s41 9 (uZ (u_s41.2 9) (u_s41.1 6) (s.1 16)))) := hD
        refine lv_aload_n hx hb dX5_collect_73 rfl (lv_at hl 2 rfl) ?_
        refine lv_dup hx hb dX5_collect_74 rfl ?_
        refine va_get (v := .int (iI (u_s41.1 6))) (ci := 5) (C := RX5) (T := TX5) (N := 16) hx hb hts imX5_collect_X5 hown hK hP 0 rfl rfl 6 (by decide) k3 (fun _ h9 => h9) rfl dX5_collect_75 ?_
        refine lv_iconst (v := iI 1) hx hb dX5_collect_78 rfl ?_
        refine zr_iadd (x := (u_s41.1 6)) (y := 1) hx hb dX5_collect_79 ?_
        obtain ⟨r52, h53⟩ := h48
        refine va_put (v := .int (iI ((u_s41.1 6) + 1))) (ty := .int) (ci := 5) (C := RX5) (T := TX5) (N := 16) hx hb hts imX5_collect_X5 tyX5 tyX5_ok nmX5 hown hK hP hD hS 0 rfl rfl 6 (by decide) k3 (fun _ h9 => h9) rfl (tyX5_ok 6 (by decide)) rfl rfl (Nat.le_of_ble_eq_true rfl) dX5_collect_80 (fun H locs hP hD hS => ?_)
        have hP : va_P G.1 vwCl (W5 G a (sS (sA u_s41 9 (uZ (u_s41.2 9) (u_s41.1 6) (s.1 16))) 6 ((u_s41.1 6) + 1))) H := hP
        have hD : va_D A (W5 G a (sS (sA u_s41 9 (uZ (u_s41.2 9) (u_s41.1 6) (s.1 16))) 6 ((u_s41.1 6) + 1))) := hD
        refine lv_iload_n hx hb dX5_collect_83 rfl (lv_at hl 0 rfl) ?_
        exact zr_iret (z := (s.1 16)) hx hb hr hlocks hK (sS (sA u_s41 9 (uZ (u_s41.2 9) (u_s41.1 6) (s.1 16))) 6 ((u_s41.1 6) + 1)) hP hD hS dX5_collect_84 ⟨r13, (RG_S (RG_A ru_s41 (r49.2 9)) r52), h53⟩
    · have h54 := h6.1 c17
      refine lv_aload_n hx hb dX5_collect_37 rfl (lv_at hl 2 rfl) ?_
      refine va_get (v := .ref (a 1)) (ci := 5) (C := RX5) (T := TX5) (N := 16) hx hb hts imX5_collect_X5 hown hK hP 0 rfl rfl 0 (by decide) k2 (fun _ h9 => h9) rfl dX5_collect_38 ?_
      refine lv_iload_n hx hb dX5_collect_41 rfl (lv_at hl 1 rfl) ?_
      refine lv_iload_n hx hb dX5_collect_42 rfl (lv_at hl 0 rfl) ?_
      obtain ⟨b55, h56⟩ := h54
      obtain ⟨b57, h58⟩ := h56
      refine zc_vv (As := [.int (iI (-1)), .int (iI (s.1 16))]) (rest := []) (w2 := fun u_60 => W5 G a (sS (sA (sA (sA s 0 (uZ (s.2 0) (s.1 16) key)) 1 (uZ (uZ (uZ (s.2 1) (s.1 16) 1) (-1 : Int) ((uZ (s.2 1) (s.1 16) 1) (-1 : Int) + (uZ (s.2 1) (s.1 16) 1) (s.1 16))) (s.1 16) 0)) 2 (uZ (s.2 2) (s.1 16) (-1))) 16 ((s.1 16) + 1))) (c_X3_absorb l G (a 1) (a 2) (a 3) (a 4) (uZ (s.2 0) (s.1 16) key) (uZ (s.2 1) (s.1 16) 1) (uZ (s.2 2) (s.1 16) (-1)) ((s.1 16) + 1) (-1) (s.1 16) r7 r8 r9 r10 rg_m1 r13 b55 b5 b57) ⟨hx, hb, hml, hown, hts⟩ (cwV 2 hts gX5_collect_X3_absorb rfl rfl rfl hdX3_absorb ⟨Nat.le_of_ble_eq_true rfl, Nat.le_of_ble_eq_true rfl⟩) hK hP hD hS hA (q0 := 1) rfl rfl [1, 2, 3, 4] [0, 5, 6, 7, 8, 9, 10, 11, 12, 13] [0, 10, 11, 12, 13, 1, 2, 3, 4, 5, 6, 7, 8, 9] rfl rfl rfl rfl (by decide) (fun _ => rfl) rfl rfl hl.1 rfl (Nat.le_of_ble_eq_true rfl) dX5_collect_43 ⟨Nat.zero_le _, Nat.zero_le _⟩ (fun u_60 H locs hw hP hD hS => ?_)
      have r59 := hw
      have hP : va_P G.1 vwCl (W5 G a (sS (sA (sA (sA s 0 (uZ (s.2 0) (s.1 16) key)) 1 (uZ (uZ (uZ (s.2 1) (s.1 16) 1) (-1 : Int) ((uZ (s.2 1) (s.1 16) 1) (-1 : Int) + (uZ (s.2 1) (s.1 16) 1) (s.1 16))) (s.1 16) 0)) 2 (uZ (s.2 2) (s.1 16) (-1))) 16 ((s.1 16) + 1))) H := hP
      have hD : va_D A (W5 G a (sS (sA (sA (sA s 0 (uZ (s.2 0) (s.1 16) key)) 1 (uZ (uZ (uZ (s.2 1) (s.1 16) 1) (-1 : Int) ((uZ (s.2 1) (s.1 16) 1) (-1 : Int) + (uZ (s.2 1) (s.1 16) 1) (s.1 16))) (s.1 16) 0)) 2 (uZ (s.2 2) (s.1 16) (-1))) 16 ((s.1 16) + 1))) := hD
      refine lv_iload_n hx hb dX5_collect_46 rfl (lv_at hl 0 rfl) ?_
      exact zr_iret (z := (s.1 16)) hx hb hr hlocks hK (sS (sA (sA (sA s 0 (uZ (s.2 0) (s.1 16) key)) 1 (uZ (uZ (uZ (s.2 1) (s.1 16) 1) (-1 : Int) ((uZ (s.2 1) (s.1 16) 1) (-1 : Int) + (uZ (s.2 1) (s.1 16) 1) (s.1 16))) (s.1 16) 0)) 2 (uZ (s.2 2) (s.1 16) (-1))) 16 ((s.1 16) + 1)) hP hD hS dX5_collect_47 ⟨r13, (RG_S (RG_A (RG_A (RG_A r_s r7) r59) r9) r10), h58⟩
  · have h62 := hwp.2 c1
    refine lv_aload_n hx hb dX5_collect_7 rfl (lv_at hl 0 rfl) ?_
    refine lv_iload_n hx hb dX5_collect_8 rfl (lv_at hl 1 rfl) ?_
    obtain ⟨b63, h64⟩ := h62
    obtain ⟨b65, h66⟩ := h64
    refine zc_vi (As := [.int (iI key)]) (rest := []) (w2 := fun u_67 => W5 G a s) (c_X5_rowInMemoryWith l G a s key r_s r_key b63 b65) ⟨hx, hb, hml, hown, hts⟩ (cwV 1 hts gX5_collect_X5_rowInMemoryWith rfl rfl rfl hdX5_rowInMemoryWith ⟨Nat.le_of_ble_eq_true rfl, Nat.le_of_ble_eq_true rfl⟩) hK hP hD hS hA (q0 := 0) rfl rfl [0, 1, 2, 3, 4, 5, 6, 7, 8, 9, 10, 11, 12, 13] [] [0, 1, 2, 3, 4, 5, 6, 7, 8, 9, 10, 11, 12, 13] rfl rfl rfl rfl (by decide) (fun _ => rfl) rfl rfl hl.1 rfl (Nat.le_of_ble_eq_true rfl) dX5_collect_9 ⟨Nat.zero_le _, Nat.zero_le _⟩ (fun z68 u_67 H locs hw hP hD hS => ?_)
    obtain ⟨r70, h69⟩ := hw
    have h71 := h66 z68 r70 h69
    have hP : va_P G.1 vwCl (W5 G a s) H := hP
    have hD : va_D A (W5 G a s) := hD
    refine lv_goto (tgt := 16) hx hb dX5_collect_12 (by decide) ?_
    refine lv_istore_n (lv' := [(2, .int (iI z68)), (0, .ref (a 0)), (1, .int (iI key))]) hx hb dX5_collect_16 rfl hl (by decide) rfl (fun ls hl => ?_)
    refine lv_aload_n hx hb dX5_collect_17 rfl (lv_at hl 1 rfl) ?_
    refine va_get (v := .ref (a 1)) (ci := 5) (C := RX5) (T := TX5) (N := 16) hx hb hts imX5_collect_X5 hown hK hP 0 rfl rfl 0 (by decide) k2 (fun _ h9 => h9) rfl dX5_collect_18 ?_
    refine lv_iload_n hx hb dX5_collect_21 rfl (lv_at hl 2 rfl) ?_
    obtain ⟨b72, h73⟩ := h71
    refine zc_vi (As := [.int (iI key)]) (rest := []) (w2 := fun u_78 => W5 G a (sS (sA (sA (sA s 0 (uZ (s.2 0) (s.1 16) key)) 1 (uZ (s.2 1) (s.1 16) 1)) 2 (uZ (s.2 2) (s.1 16) (-1))) 16 ((s.1 16) + 1))) (c_X3_put l G (a 1) (a 2) (a 3) (a 4) (s.2 0) (s.2 1) (s.2 2) (s.1 16) key (r_s.2 0) (r_s.2 1) (r_s.2 2) (r_s.1 16) r_key b72) ⟨hx, hb, hml, hown, hts⟩ (cwV 1 hts gX5_collect_X3_put rfl rfl rfl hdX3_put ⟨Nat.le_of_ble_eq_true rfl, Nat.le_of_ble_eq_true rfl⟩) hK hP hD hS hA (q0 := 1) rfl rfl [1, 2, 3, 4] [0, 5, 6, 7, 8, 9, 10, 11, 12, 13] [0, 10, 11, 12, 13, 1, 2, 3, 4, 5, 6, 7, 8, 9] rfl rfl rfl rfl (by decide) (fun _ => rfl) rfl rfl hl.1 rfl (Nat.le_of_ble_eq_true rfl) dX5_collect_22 ⟨Nat.zero_le _, Nat.zero_le _⟩ (fun z79 u_78 H locs hw hP hD hS => ?_)
    obtain ⟨rfl, r80, r74, r75, r76, r77⟩ := hw
    have hP : va_P G.1 vwCl (W5 G a (sS (sA (sA (sA s 0 (uZ (s.2 0) (s.1 16) key)) 1 (uZ (s.2 1) (s.1 16) 1)) 2 (uZ (s.2 2) (s.1 16) (-1))) 16 ((s.1 16) + 1))) H := hP
    have hD : va_D A (W5 G a (sS (sA (sA (sA s 0 (uZ (s.2 0) (s.1 16) key)) 1 (uZ (s.2 1) (s.1 16) 1)) 2 (uZ (s.2 2) (s.1 16) (-1))) 16 ((s.1 16) + 1))) := hD
    refine lv_istore_n (lv' := [(3, .int (iI (s.1 16))), (2, .int (iI z68)), (0, .ref (a 0)), (1, .int (iI key))]) hx hb dX5_collect_25 rfl hl (by decide) rfl (fun ls hl => ?_)
    refine lv_aload_n hx hb dX5_collect_26 rfl (lv_at hl 2 rfl) ?_
    refine va_get (v := .ref (a 1)) (ci := 5) (C := RX5) (T := TX5) (N := 16) hx hb hts imX5_collect_X5 hown hK hP 0 rfl rfl 0 (by decide) k2 (fun _ h9 => h9) rfl dX5_collect_27 ?_
    refine lv_iload_n hx hb dX5_collect_30 rfl (lv_at hl 1 rfl) ?_
    refine zc_vi (As := [.int (iI z68)]) (rest := []) (w2 := fun u_81 => W5 G a (sS (sA (sA (sA s 0 (uZ (s.2 0) (s.1 16) key)) 1 (uZ (s.2 1) (s.1 16) 1)) 2 (uZ (s.2 2) (s.1 16) (-1))) 16 ((s.1 16) + 1))) (c_X3_has l G (a 1) (a 2) (a 3) (a 4) (uZ (s.2 0) (s.1 16) key) (uZ (s.2 1) (s.1 16) 1) (uZ (s.2 2) (s.1 16) (-1)) ((s.1 16) + 1) z68 r74 r75 r76 r77 r70) ⟨hx, hb, hml, hown, hts⟩ (cwV 1 hts gX5_collect_X3_has rfl rfl rfl hdX3_has ⟨Nat.le_of_ble_eq_true rfl, Nat.le_of_ble_eq_true rfl⟩) hK hP hD hS hA (q0 := 1) rfl rfl [1, 2, 3, 4] [0, 5, 6, 7, 8, 9, 10, 11, 12, 13] [0, 10, 11, 12, 13, 1, 2, 3, 4, 5, 6, 7, 8, 9] rfl rfl rfl rfl (by decide) (fun _ => rfl) rfl rfl hl.1 rfl (Nat.le_of_ble_eq_true rfl) dX5_collect_31 ⟨Nat.zero_le _, Nat.zero_le _⟩ (fun z82 u_81 H locs hw hP hD hS => ?_)
    obtain ⟨rfl, r83⟩ := hw
    have hP : va_P G.1 vwCl (W5 G a (sS (sA (sA (sA s 0 (uZ (s.2 0) (s.1 16) key)) 1 (uZ (s.2 1) (s.1 16) 1)) 2 (uZ (s.2 2) (s.1 16) (-1))) 16 ((s.1 16) + 1))) H := hP
    have hD : va_D A (W5 G a (sS (sA (sA (sA s 0 (uZ (s.2 0) (s.1 16) key)) 1 (uZ (s.2 1) (s.1 16) 1)) 2 (uZ (s.2 2) (s.1 16) (-1))) 16 ((s.1 16) + 1))) := hD
    refine zr_ifB_eq (tgt := 48)  hx hb dX5_collect_34 (by decide) (fun c84 => ?_) (fun c84 => ?_)
    · have h87 := h73.2 c84
      refine lv_aload_n hx hb dX5_collect_48 rfl (lv_at hl 2 rfl) ?_
      refine va_get (v := .int (iI (s.1 6))) (ci := 5) (C := RX5) (T := TX5) (N := 16) hx hb hts imX5_collect_X5 hown hK hP 0 rfl rfl 6 (by decide) k3 (fun _ h9 => h9) rfl dX5_collect_49 ?_
      refine lv_aload_n hx hb dX5_collect_52 rfl (lv_at hl 2 rfl) ?_
      refine va_get (v := .int (iI (s.1 4))) (ci := 5) (C := RX5) (T := TX5) (N := 16) hx hb hts imX5_collect_X5 hown hK hP 0 rfl rfl 4 (by decide) k4 (fun _ h9 => h9) rfl dX5_collect_53 ?_
      refine zr_icmp_lt (tgt := 64) (x := (s.1 6)) (y := (s.1 4)) hx hb (r_s.1 6) (r_s.1 4) dX5_collect_56 (by decide) (fun c88 => ?_) (fun c88 => ?_)
      · have h91 := h87.1 c88
        refine lv_aload_n hx hb dX5_collect_64 rfl (lv_at hl 2 rfl) ?_
        refine lv_aload_n hx hb dX5_collect_65 rfl (lv_at hl 2 rfl) ?_
        refine va_get (v := .int (iI (s.1 6))) (ci := 5) (C := RX5) (T := TX5) (N := 16) hx hb hts imX5_collect_X5 hown hK hP 0 rfl rfl 6 (by decide) k3 (fun _ h9 => h9) rfl dX5_collect_66 ?_
        refine lv_iload_n hx hb dX5_collect_69 rfl (lv_at hl 0 rfl) ?_
        obtain ⟨b92, h93⟩ := h91
        refine zc_vv (As := [.int (iI (s.1 6)), .int (iI (s.1 16))]) (rest := []) (w2 := fun u_95 => W5 G a (sS (sA (sA (sA (sA s 0 (uZ (s.2 0) (s.1 16) key)) 1 (uZ (s.2 1) (s.1 16) 1)) 2 (uZ (s.2 2) (s.1 16) (-1))) 9 (uZ (s.2 9) (s.1 6) (s.1 16))) 16 ((s.1 16) + 1))) (c_X5_placeInMemory l G a (sS (sA (sA (sA s 0 (uZ (s.2 0) (s.1 16) key)) 1 (uZ (s.2 1) (s.1 16) 1)) 2 (uZ (s.2 2) (s.1 16) (-1))) 16 ((s.1 16) + 1)) (s.1 6) (s.1 16) (RG_S (RG_A (RG_A (RG_A r_s r74) r75) r76) r77) (r_s.1 6) r80 b92) ⟨hx, hb, hml, hown, hts⟩ (cwV 2 hts gX5_collect_X5_placeInMemory rfl rfl rfl hdX5_placeInMemory ⟨Nat.le_of_ble_eq_true rfl, Nat.le_of_ble_eq_true rfl⟩) hK hP hD hS hA (q0 := 0) rfl rfl [0, 1, 2, 3, 4, 5, 6, 7, 8, 9, 10, 11, 12, 13] [] [0, 1, 2, 3, 4, 5, 6, 7, 8, 9, 10, 11, 12, 13] rfl rfl rfl rfl (by decide) (fun _ => rfl) rfl rfl hl.1 rfl (Nat.le_of_ble_eq_true rfl) dX5_collect_70 ⟨Nat.zero_le _, Nat.zero_le _⟩ (fun u_95 H locs hw hP hD hS => ?_)
        have r94 := hw
        have hP : va_P G.1 vwCl (W5 G a (sS (sA (sA (sA (sA s 0 (uZ (s.2 0) (s.1 16) key)) 1 (uZ (s.2 1) (s.1 16) 1)) 2 (uZ (s.2 2) (s.1 16) (-1))) 9 (uZ (s.2 9) (s.1 6) (s.1 16))) 16 ((s.1 16) + 1))) H := hP
        have hD : va_D A (W5 G a (sS (sA (sA (sA (sA s 0 (uZ (s.2 0) (s.1 16) key)) 1 (uZ (s.2 1) (s.1 16) 1)) 2 (uZ (s.2 2) (s.1 16) (-1))) 9 (uZ (s.2 9) (s.1 6) (s.1 16))) 16 ((s.1 16) + 1))) := hD
        refine lv_aload_n hx hb dX5_collect_73 rfl (lv_at hl 2 rfl) ?_
        refine lv_dup hx hb dX5_collect_74 rfl ?_
        refine va_get (v := .int (iI (s.1 6))) (ci := 5) (C := RX5) (T := TX5) (N := 16) hx hb hts imX5_collect_X5 hown hK hP 0 rfl rfl 6 (by decide) k3 (fun _ h9 => h9) rfl dX5_collect_75 ?_
        refine lv_iconst (v := iI 1) hx hb dX5_collect_78 rfl ?_
        refine zr_iadd (x := (s.1 6)) (y := 1) hx hb dX5_collect_79 ?_
        obtain ⟨r97, h98⟩ := h93
        refine va_put (v := .int (iI ((s.1 6) + 1))) (ty := .int) (ci := 5) (C := RX5) (T := TX5) (N := 16) hx hb hts imX5_collect_X5 tyX5 tyX5_ok nmX5 hown hK hP hD hS 0 rfl rfl 6 (by decide) k3 (fun _ h9 => h9) rfl (tyX5_ok 6 (by decide)) rfl rfl (Nat.le_of_ble_eq_true rfl) dX5_collect_80 (fun H locs hP hD hS => ?_)
        have hP : va_P G.1 vwCl (W5 G a (sS (sS (sA (sA (sA (sA s 0 (uZ (s.2 0) (s.1 16) key)) 1 (uZ (s.2 1) (s.1 16) 1)) 2 (uZ (s.2 2) (s.1 16) (-1))) 9 (uZ (s.2 9) (s.1 6) (s.1 16))) 6 ((s.1 6) + 1)) 16 ((s.1 16) + 1))) H := hP
        have hD : va_D A (W5 G a (sS (sS (sA (sA (sA (sA s 0 (uZ (s.2 0) (s.1 16) key)) 1 (uZ (s.2 1) (s.1 16) 1)) 2 (uZ (s.2 2) (s.1 16) (-1))) 9 (uZ (s.2 9) (s.1 6) (s.1 16))) 6 ((s.1 6) + 1)) 16 ((s.1 16) + 1))) := hD
        refine lv_iload_n hx hb dX5_collect_83 rfl (lv_at hl 0 rfl) ?_
        exact zr_iret (z := (s.1 16)) hx hb hr hlocks hK (sS (sS (sA (sA (sA (sA s 0 (uZ (s.2 0) (s.1 16) key)) 1 (uZ (s.2 1) (s.1 16) 1)) 2 (uZ (s.2 2) (s.1 16) (-1))) 9 (uZ (s.2 9) (s.1 6) (s.1 16))) 6 ((s.1 6) + 1)) 16 ((s.1 16) + 1)) hP hD hS dX5_collect_84 ⟨r80, (RG_S (RG_S (RG_A (RG_A (RG_A (RG_A r_s r74) r75) r76) (r94.2 9)) r97) r77), h98⟩
      · have h99 := h87.2 c88
        refine lv_aload_n hx hb dX5_collect_59 rfl (lv_at hl 2 rfl) ?_
        obtain ⟨g100, h101⟩ := h99
        obtain ⟨b102, h103⟩ := h101
        obtain ⟨b104, h105⟩ := h103
        obtain ⟨b106, h107⟩ := h105
        refine zc_vi (As := []) (rest := []) (w2 := fun u_109 => W5 G a u_109) (c_X5_writeMemory l G a (sS (sA (sA (sA s 0 (uZ (s.2 0) (s.1 16) key)) 1 (uZ (s.2 1) (s.1 16) 1)) 2 (uZ (s.2 2) (s.1 16) (-1))) 16 ((s.1 16) + 1)) g100 (RG_S (RG_A (RG_A (RG_A r_s r74) r75) r76) r77) b102 b104 b106) ⟨hx, hb, hml, hown, hts⟩ (cwV 0 hts gX5_collect_X5_writeMemory rfl rfl rfl hdX5_writeMemory ⟨Nat.le_of_ble_eq_true rfl, Nat.le_of_ble_eq_true rfl⟩) hK hP hD hS hA (q0 := 0) rfl rfl [0, 1, 2, 3, 4, 5, 6, 7, 8, 9, 10, 11, 12, 13] [] [0, 1, 2, 3, 4, 5, 6, 7, 8, 9, 10, 11, 12, 13] rfl rfl rfl rfl (by decide) (fun _ => rfl) rfl rfl hl.1 rfl (Nat.le_of_ble_eq_true rfl) dX5_collect_60 ⟨Nat.zero_le _, Nat.zero_le _⟩ (fun z110 u_109 H locs hw hP hD hS => ?_)
        obtain ⟨u_s108, rfl⟩ : ∃ q, q = u_109 := ⟨_, rfl⟩
        obtain ⟨r112, ru_s108, h111⟩ := hw
        have h113 := h107 z110 u_s108 r112 ru_s108 h111
        have hP : va_P G.1 vwCl (W5 G a u_s108) H := hP
        have hD : va_D A (W5 G a u_s108) := hD
        refine lv_pop hx hb dX5_collect_63 rfl ?_
        refine lv_aload_n hx hb dX5_collect_64 rfl (lv_at hl 2 rfl) ?_
        refine lv_aload_n hx hb dX5_collect_65 rfl (lv_at hl 2 rfl) ?_
        refine va_get (v := .int (iI (u_s108.1 6))) (ci := 5) (C := RX5) (T := TX5) (N := 16) hx hb hts imX5_collect_X5 hown hK hP 0 rfl rfl 6 (by decide) k3 (fun _ h9 => h9) rfl dX5_collect_66 ?_
        refine lv_iload_n hx hb dX5_collect_69 rfl (lv_at hl 0 rfl) ?_
        obtain ⟨b114, h115⟩ := h113
        refine zc_vv (As := [.int (iI (u_s108.1 6)), .int (iI (s.1 16))]) (rest := []) (w2 := fun u_117 => W5 G a (sA u_s108 9 (uZ (u_s108.2 9) (u_s108.1 6) (s.1 16)))) (c_X5_placeInMemory l G a u_s108 (u_s108.1 6) (s.1 16) ru_s108 (ru_s108.1 6) r80 b114) ⟨hx, hb, hml, hown, hts⟩ (cwV 2 hts gX5_collect_X5_placeInMemory rfl rfl rfl hdX5_placeInMemory ⟨Nat.le_of_ble_eq_true rfl, Nat.le_of_ble_eq_true rfl⟩) hK hP hD hS hA (q0 := 0) rfl rfl [0, 1, 2, 3, 4, 5, 6, 7, 8, 9, 10, 11, 12, 13] [] [0, 1, 2, 3, 4, 5, 6, 7, 8, 9, 10, 11, 12, 13] rfl rfl rfl rfl (by decide) (fun _ => rfl) rfl rfl hl.1 rfl (Nat.le_of_ble_eq_true rfl) dX5_collect_70 ⟨Nat.zero_le _, Nat.zero_le _⟩ (fun u_117 H locs hw hP hD hS => ?_)
        have r116 := hw
        have hP : va_P G.1 vwCl (W5 G a (sA u_s108 9 (uZ (u_s108.2 9) (u_s108.1 6) (s.1 16)))) H := hP
        have hD : va_D A (W5 G a (sA u_s108 9 (uZ (u_s108.2 9) (u_s108.1 6) (s.1 16)))) := hD
        refine lv_aload_n hx hb dX5_collect_73 rfl (lv_at hl 2 rfl) ?_
        refine lv_dup hx hb dX5_collect_74 rfl ?_
        refine va_get (v := .int (iI (u_s108.1 6))) (ci := 5) (C := RX5) (T := TX5) (N := 16) hx hb hts imX5_collect_X5 hown hK hP 0 rfl rfl 6 (by decide) k3 (fun _ h9 => h9) rfl dX5_collect_75 ?_
        refine lv_iconst (v := iI 1) hx hb dX5_collect_78 rfl ?_
        refine zr_iadd (x := (u_s108.1 6)) (y := 1) hx hb dX5_collect_79 ?_
        obtain ⟨r119, h120⟩ := h115
        refine va_put (v := .int (iI ((u_s108.1 6) + 1))) (ty := .int) (ci := 5) (C := RX5) (T := TX5) (N := 16) hx hb hts imX5_collect_X5 tyX5 tyX5_ok nmX5 hown hK hP hD hS 0 rfl rfl 6 (by decide) k3 (fun _ h9 => h9) rfl (tyX5_ok 6 (by decide)) rfl rfl (Nat.le_of_ble_eq_true rfl) dX5_collect_80 (fun H locs hP hD hS => ?_)
        have hP : va_P G.1 vwCl (W5 G a (sS (sA u_s108 9 (uZ (u_s108.2 9) (u_s108.1 6) (s.1 16))) 6 ((u_s108.1 6) + 1))) H := hP
        have hD : va_D A (W5 G a (sS (sA u_s108 9 (uZ (u_s108.2 9) (u_s108.1 6) (s.1 16))) 6 ((u_s108.1 6) + 1))) := hD
        refine lv_iload_n hx hb dX5_collect_83 rfl (lv_at hl 0 rfl) ?_
        exact zr_iret (z := (s.1 16)) hx hb hr hlocks hK (sS (sA u_s108 9 (uZ (u_s108.2 9) (u_s108.1 6) (s.1 16))) 6 ((u_s108.1 6) + 1)) hP hD hS dX5_collect_84 ⟨r80, (RG_S (RG_A ru_s108 (r116.2 9)) r119), h120⟩
    · have h121 := h73.1 c84
      refine lv_aload_n hx hb dX5_collect_37 rfl (lv_at hl 2 rfl) ?_
      refine va_get (v := .ref (a 1)) (ci := 5) (C := RX5) (T := TX5) (N := 16) hx hb hts imX5_collect_X5 hown hK hP 0 rfl rfl 0 (by decide) k2 (fun _ h9 => h9) rfl dX5_collect_38 ?_
      refine lv_iload_n hx hb dX5_collect_41 rfl (lv_at hl 1 rfl) ?_
      refine lv_iload_n hx hb dX5_collect_42 rfl (lv_at hl 0 rfl) ?_
      obtain ⟨b122, h123⟩ := h121
      obtain ⟨b124, h125⟩ := h123
      refine zc_vv (As := [.int (iI z68), .int (iI (s.1 16))]) (rest := []) (w2 := fun u_127 => W5 G a (sS (sA (sA (sA s 0 (uZ (s.2 0) (s.1 16) key)) 1 (uZ (uZ (uZ (s.2 1) (s.1 16) 1) z68 ((uZ (s.2 1) (s.1 16) 1) z68 + (uZ (s.2 1) (s.1 16) 1) (s.1 16))) (s.1 16) 0)) 2 (uZ (s.2 2) (s.1 16) (-1))) 16 ((s.1 16) + 1))) (c_X3_absorb l G (a 1) (a 2) (a 3) (a 4) (uZ (s.2 0) (s.1 16) key) (uZ (s.2 1) (s.1 16) 1) (uZ (s.2 2) (s.1 16) (-1)) ((s.1 16) + 1) z68 (s.1 16) r74 r75 r76 r77 r70 r80 b122 b72 b124) ⟨hx, hb, hml, hown, hts⟩ (cwV 2 hts gX5_collect_X3_absorb rfl rfl rfl hdX3_absorb ⟨Nat.le_of_ble_eq_true rfl, Nat.le_of_ble_eq_true rfl⟩) hK hP hD hS hA (q0 := 1) rfl rfl [1, 2, 3, 4] [0, 5, 6, 7, 8, 9, 10, 11, 12, 13] [0, 10, 11, 12, 13, 1, 2, 3, 4, 5, 6, 7, 8, 9] rfl rfl rfl rfl (by decide) (fun _ => rfl) rfl rfl hl.1 rfl (Nat.le_of_ble_eq_true rfl) dX5_collect_43 ⟨Nat.zero_le _, Nat.zero_le _⟩ (fun u_127 H locs hw hP hD hS => ?_)
      have r126 := hw
      have hP : va_P G.1 vwCl (W5 G a (sS (sA (sA (sA s 0 (uZ (s.2 0) (s.1 16) key)) 1 (uZ (uZ (uZ (s.2 1) (s.1 16) 1) z68 ((uZ (s.2 1) (s.1 16) 1) z68 + (uZ (s.2 1) (s.1 16) 1) (s.1 16))) (s.1 16) 0)) 2 (uZ (s.2 2) (s.1 16) (-1))) 16 ((s.1 16) + 1))) H := hP
      have hD : va_D A (W5 G a (sS (sA (sA (sA s 0 (uZ (s.2 0) (s.1 16) key)) 1 (uZ (uZ (uZ (s.2 1) (s.1 16) 1) z68 ((uZ (s.2 1) (s.1 16) 1) z68 + (uZ (s.2 1) (s.1 16) 1) (s.1 16))) (s.1 16) 0)) 2 (uZ (s.2 2) (s.1 16) (-1))) 16 ((s.1 16) + 1))) := hD
      refine lv_iload_n hx hb dX5_collect_46 rfl (lv_at hl 0 rfl) ?_
      exact zr_iret (z := (s.1 16)) hx hb hr hlocks hK (sS (sA (sA (sA s 0 (uZ (s.2 0) (s.1 16) key)) 1 (uZ (uZ (uZ (s.2 1) (s.1 16) 1) z68 ((uZ (s.2 1) (s.1 16) 1) z68 + (uZ (s.2 1) (s.1 16) 1) (s.1 16))) (s.1 16) 0)) 2 (uZ (s.2 2) (s.1 16) (-1))) 16 ((s.1 16) + 1)) hP hD hS dX5_collect_47 ⟨r80, (RG_S (RG_A (RG_A (RG_A r_s r74) r126) r76) r77), h125⟩
theorem c_X5_collect (l : Launch) (G : ZG) (a : Nat → Nat) (s : SS) (key : Int) (z : Int → Int) (r_s : RG s) (r_key : rg key) (p0 : Rep s z) (p1 : Vz z) (p2 : z 4 + 1 ≤ 900000000) (p3 : rg (z 7 + rowsAt z 1)) (p4 : z 3 < 120) (p5 : z 2 = 1) : ZI l G yX5_collect wsX5_collect 3 68 [.ref (a 0), .int (iI key)] (W5 G a s) (fun u : SS => W5 G a u) (fun (zq : Int) (u : SS) => rg zq ∧ RG u ∧ (zq = z 3 ∧ Rep u (addZ z key))) :=
  c0_X5_collect l G a s key (fun r s' => r = z 3 ∧ Rep s' (addZ z key)) r_s r_key (sp_X5_collect s key z r_s r_key p0 p1 p2 p3 p4 p5)
