theorem imX7_read_X7 : ∀ w ∈ wsX70, w ∈ wsX7_read := fun _ h => (List.mem_cons_of_mem _ (List.mem_append_right _ h))
theorem hdX7_read : yX7_read.cls = RX7 ∧ yX7_read.cls ≠ "java/lang/invoke/MethodHandle" ∧ yX7_read.cls ≠ "java/lang/invoke/VarHandle" ∧ (parseMethodDescriptor yX7_read.desc).map (fun d => d.parameters.length) = some 0 := by decide +kernel
set_option maxRecDepth 100000 in
set_option maxHeartbeats 4000000 in
theorem c0_X7_read (l : Launch) (G : ZG) (a : Nat → Nat) (s : SS)  (P : Int → SS → Prop) (r_s : RG s)  (hwp : wp_X7_read s P) : ZI l G yX7_read wsX7_read 5 109 [.ref (a 0)] (W7 G a s) (fun u : SS => W7 G a u) (fun (z : Int) (u : SS) => rg z ∧ RG u ∧ P z u) := by
  unfold wp_X7_read at hwp
  refine zm_i (cc := cX7_read) (maxL := 4) (ret := some .int) (own := RX7) (lvs := [(0, .ref (a 0))]) (by decide) rfl rfl (Nat.le_of_ble_eq_true rfl) rfl ?_
  intro p e sT m args below meth c ls A hx hb hr hml hown hts hlocks hK hP hD hS hA hl
  have k1 := hts (.fieldLink RX7 7 "GrantedSortModel" "z" "[I") (List.mem_of_getElem? (i := 1) rfl)
  have k2 := hts (.fieldLink RX7 158 "GrantedSortModel" "toldMany" "I") (List.mem_of_getElem? (i := 2) rfl)
  have k3 := hts (.fieldLink RX7 26 "GrantedSortModel" "told" "[I") (List.mem_of_getElem? (i := 3) rfl)
  have k4 := hts (.fieldLink RX7 139 "GrantedSortModel" "typed" "I") (List.mem_of_getElem? (i := 4) rfl)
  refine lv_aload_n hx hb dX7_read_0 rfl (lv_at hl 0 rfl) ?_
  obtain ⟨b1, h2⟩ := hwp
  obtain ⟨b3, h4⟩ := h2
  refine zc_vi (As := []) (rest := []) (w2 := fun u_6 => W7 G a u_6) (c_X7_errorPosition l G a s r_s b1 b3) ⟨hx, hb, hml, hown, hts⟩ (cwV 0 hts gX7_read_X7_errorPosition rfl rfl rfl hdX7_errorPosition ⟨Nat.le_of_ble_eq_true rfl, Nat.le_of_ble_eq_true rfl⟩) hK hP hD hS hA (q0 := 0) rfl rfl [0, 1, 2, 3, 4, 5, 6] [] [0, 1, 2, 3, 4, 5, 6] rfl rfl rfl rfl (by decide) (fun _ => rfl) rfl rfl hl.1 rfl (Nat.le_of_ble_eq_true rfl) dX7_read_1 ⟨Nat.zero_le _, Nat.zero_le _⟩ (fun z7 u_6 H locs hw hP hD hS => ?_)
  obtain ⟨u_s5, rfl⟩ : ∃ q, q = u_6 := ⟨_, rfl⟩
  obtain ⟨r9, ru_s5, h8⟩ := hw
  have h10 := h4 z7 u_s5 r9 ru_s5 h8
  have hP : va_P G.1 vwCl (W7 G a u_s5) H := hP
  have hD : va_D A (W7 G a u_s5) := hD
  refine lv_bipush (v := iI (-6)) hx hb dX7_read_4 (by decide) ?_
  refine zr_icmp_eq (tgt := 12) (x := z7) (y := (-6)) hx hb r9 rg_m6 dX7_read_6 (by decide) (fun c11 => ?_) (fun c11 => ?_)
  · have h14 := h10.1 c11
    refine lv_aload_n hx hb dX7_read_12 rfl (lv_at hl 0 rfl) ?_
    refine va_get (v := .ref (a 1)) (ci := 7) (C := RX7) (T := TX7) (N := 12) hx hb hts imX7_read_X7 hown hK hP 0 rfl rfl 0 (by decide) k1 (fun _ h9 => h9) rfl dX7_read_13 ?_
    refine lv_iconst (v := iI 2) hx hb dX7_read_16 rfl ?_
    refine zr_iald (n := 370) (f := (u_s5.2 0)) (i := 2) hx hb hK hP 1 rfl rg_2 ⟨by decide, by decide⟩ dX7_read_17 ?_
    refine zr_if_ne (tgt := 24) (x := (u_s5.2 0) 2) hx hb ((ru_s5.2 0) 2) dX7_read_18 (by decide) (fun c15 => ?_) (fun c15 => ?_)
    · have h18 := h14.2 c15
      refine lv_aload_n hx hb dX7_read_24 rfl (lv_at hl 0 rfl) ?_
      obtain ⟨b19, h20⟩ := h18
      refine zc_vv (As := []) (rest := []) (w2 := fun u_22 => W7 G a (sS (sA u_s5 1 (recP (u_s5.2 1) (u_s5.1 2) (u_s5.2 0))) 2 (recN (u_s5.1 2) + 1))) (c_X7_record l G a u_s5 ru_s5 b19) ⟨hx, hb, hml, hown, hts⟩ (cwV 0 hts gX7_read_X7_record rfl rfl rfl hdX7_record ⟨Nat.le_of_ble_eq_true rfl, Nat.le_of_ble_eq_true rfl⟩) hK hP hD hS hA (q0 := 0) rfl rfl [0, 1, 2, 3, 4, 5, 6] [] [0, 1, 2, 3, 4, 5, 6] rfl rfl rfl rfl (by decide) (fun _ => rfl) rfl rfl hl.1 rfl (Nat.le_of_ble_eq_true rfl) dX7_read_25 ⟨Nat.zero_le _, Nat.zero_le _⟩ (fun u_22 H locs hw hP hD hS => ?_)
      have r21 := hw
      have hP : va_P G.1 vwCl (W7 G a (sS (sA u_s5 1 (recP (u_s5.2 1) (u_s5.1 2) (u_s5.2 0))) 2 (recN (u_s5.1 2) + 1))) H := hP
      have hD : va_D A (W7 G a (sS (sA u_s5 1 (recP (u_s5.2 1) (u_s5.1 2) (u_s5.2 0))) 2 (recN (u_s5.1 2) + 1))) := hD
      refine lv_aload_n hx hb dX7_read_28 rfl (lv_at hl 0 rfl) ?_
      refine va_get (v := .ref (a 1)) (ci := 7) (C := RX7) (T := TX7) (N := 12) hx hb hts imX7_read_X7 hown hK hP 0 rfl rfl 0 (by decide) k1 (fun _ h9 => h9) rfl dX7_read_29 ?_
      refine lv_iconst (v := iI 3) hx hb dX7_read_32 rfl ?_
      refine zr_iald (n := 370) (f := (u_s5.2 0)) (i := 3) hx hb hK hP 1 rfl rg_3 ⟨by decide, by decide⟩ dX7_read_33 ?_
      refine lv_istore_n (lv' := [(1, .int (iI ((u_s5.2 0) 3))), (0, .ref (a 0))]) hx hb dX7_read_34 rfl hl (by decide) rfl (fun ls hl => ?_)
      refine lv_iconst (v := iI 0) hx hb dX7_read_35 rfl ?_
      refine lv_istore_n (lv' := [(2, .int (iI 0)), (1, .int (iI ((u_s5.2 0) 3))), (0, .ref (a 0))]) hx hb dX7_read_36 rfl hl (by decide) rfl (fun ls hl => ?_)
      obtain ⟨I25, μ26, h27, h28⟩ := h20
      refine zr_loop (G := G) (σ := Int × SS) (fun x_24 => (rg x_24.1 ∧ RG x_24.2) ∧ I25 x_24.1 x_24.2) (fun x_24 => μ26 x_24.1 x_24.2) (fun x_24 => W7 G a x_24.2) (fun x_24 => [(2, .int (iI x_24.1)), (1, .int (iI ((u_s5.2 0) 3))), (0, .ref (a 0))]) ((0, sS (sA u_s5 1 (recP (u_s5.2 1) (u_s5.1 2) (u_s5.2 0))) 2 (recN (u_s5.1 2) + 1))) ⟨⟨rg_0, (RG_S (RG_A ru_s5 (r21.2 1)) (r21.1 2))⟩, h27⟩ hP hD hS (lv_sub hl [0, 1, 2] rfl) ?_
      clear hP hD hS hl
      intro x_24 H locs ls ih29 h30 hP hD hS hl
      obtain ⟨x2_24, s0_24⟩ := x_24
      obtain ⟨⟨rx2_24, rs0_24⟩, h30⟩ := h30
      have h31 := h28 x2_24 s0_24 rx2_24 rs0_24 h30
      have hP : va_P G.1 vwCl (W7 G a s0_24) H := hP
      have hD : va_D A (W7 G a s0_24) := hD
      have hl : lv_has ls 4 [(2, .int (iI x2_24)), (1, .int (iI ((u_s5.2 0) 3))), (0, .ref (a 0))] := hl
      refine lv_iload_n hx hb dX7_read_37 rfl (lv_at hl 0 rfl) ?_
      refine lv_aload_n hx hb dX7_read_38 rfl (lv_at hl 2 rfl) ?_
      refine va_get (v := .int (iI (s0_24.1 9))) (ci := 7) (C := RX7) (T := TX7) (N := 12) hx hb hts imX7_read_X7 hown hK hP 0 rfl rfl 9 (by decide) k2 (fun _ h9 => h9) rfl dX7_read_39 ?_
      refine zr_icmp_ge (tgt := 110) (x := x2_24) (y := (s0_24.1 9)) hx hb rx2_24 (rs0_24.1 9) dX7_read_42 (by decide) (fun c32 => ?_) (fun c32 => ?_)
      · have h35 := h31.2 c32
        refine lv_aload_n hx hb dX7_read_110 rfl (lv_at hl 2 rfl) ?_
        refine lv_iconst (v := iI 0) hx hb dX7_read_111 rfl ?_
        refine va_put (v := .int (iI 0)) (ty := .int) (ci := 7) (C := RX7) (T := TX7) (N := 12) hx hb hts imX7_read_X7 tyX7 tyX7_ok nmX7 hown hK hP hD hS 0 rfl rfl 7 (by decide) k4 (fun _ h9 => h9) rfl (tyX7_ok 7 (by decide)) rfl rfl (Nat.le_of_ble_eq_true rfl) dX7_read_112 (fun H locs hP hD hS => ?_)
        have hP : va_P G.1 vwCl (W7 G a (sS s0_24 7 0)) H := hP
        have hD : va_D A (W7 G a (sS s0_24 7 0)) := hD
        refine lv_aload_n hx hb dX7_read_115 rfl (lv_at hl 2 rfl) ?_
        refine va_get (v := .ref (a 1)) (ci := 7) (C := RX7) (T := TX7) (N := 12) hx hb hts imX7_read_X7 hown hK hP 0 rfl rfl 0 (by decide) k1 (fun _ h9 => h9) rfl dX7_read_116 ?_
        refine lv_iconst (v := iI 3) hx hb dX7_read_119 rfl ?_
        refine zr_iald (n := 370) (f := (s0_24.2 0)) (i := 3) hx hb hK hP 1 rfl rg_3 ⟨by decide, by decide⟩ dX7_read_120 ?_
        refine lv_iload_n hx hb dX7_read_121 rfl (lv_at hl 1 rfl) ?_
        refine zr_isub (x := (s0_24.2 0) 3) (y := (u_s5.2 0) 3) hx hb dX7_read_122 ?_
        obtain ⟨r36, h37⟩ := h35
        exact zr_iret (z := ((s0_24.2 0) 3) - ((u_s5.2 0) 3)) hx hb hr hlocks hK (sS s0_24 7 0) hP hD hS dX7_read_123 ⟨r36, (RG_S rs0_24 rg_0), h37⟩
      · have h38 := h31.1 c32
        refine lv_iconst (v := iI 0) hx hb dX7_read_45 rfl ?_
        refine lv_istore_n (lv' := [(3, .int (iI 0)), (2, .int (iI x2_24)), (1, .int (iI ((u_s5.2 0) 3))), (0, .ref (a 0))]) hx hb dX7_read_46 rfl hl (by decide) rfl (fun ls hl => ?_)
        obtain ⟨I40, μ41, h42, h43⟩ := h38
        refine zr_loop (G := G) (σ := Int × SS) (fun x_39 => (rg x_39.1 ∧ RG x_39.2) ∧ I40 x_39.1 x_39.2) (fun x_39 => μ41 x_39.1 x_39.2) (fun x_39 => W7 G a x_39.2) (fun x_39 => [(3, .int (iI x_39.1)), (2, .int (iI x2_24)), (1, .int (iI ((u_s5.2 0) 3))), (0, .ref (a 0))]) ((0, s0_24)) ⟨⟨rg_0, rs0_24⟩, h42⟩ hP hD hS (lv_sub hl [0, 1, 2, 3] rfl) ?_
        clear hP hD hS hl
        intro x_39 H locs ls ih44 h45 hP hD hS hl
        obtain ⟨x3_39, s0_39⟩ := x_39
        obtain ⟨⟨rx3_39, rs0_39⟩, h45⟩ := h45
        have h46 := h43 x3_39 s0_39 rx3_39 rs0_39 h45
        have hP : va_P G.1 vwCl (W7 G a s0_39) H := hP
        have hD : va_D A (W7 G a s0_39) := hD
        have hl : lv_has ls 4 [(3, .int (iI x3_39)), (2, .int (iI x2_24)), (1, .int (iI ((u_s5.2 0) 3))), (0, .ref (a 0))] := hl
        refine lv_iload_n hx hb dX7_read_47 rfl (lv_at hl 0 rfl) ?_
        refine lv_aload_n hx hb dX7_read_48 rfl (lv_at hl 3 rfl) ?_
        refine va_get (v := .ref (a 6)) (ci := 7) (C := RX7) (T := TX7) (N := 12) hx hb hts imX7_read_X7 hown hK hP 0 rfl rfl 8 (by decide) k3 (fun _ h9 => h9) rfl dX7_read_49 ?_
        refine lv_iconst (v := iI 3) hx hb dX7_read_52 rfl ?_
        refine lv_iload_n hx hb dX7_read_53 rfl (lv_at hl 1 rfl) ?_
        refine zr_imul (x := 3) (y := x2_24) hx hb dX7_read_54 ?_
        obtain ⟨r47, h48⟩ := h46
        refine lv_iconst (v := iI 1) hx hb dX7_read_55 rfl ?_
        refine zr_iadd (x := 3 * x2_24) (y := 1) hx hb dX7_read_56 ?_
        obtain ⟨r49, h50⟩ := h48
        obtain ⟨b51, h52⟩ := h50
        refine zr_iald (n := 123) (f := (s0_39.2 8)) (i := (3 * x2_24) + 1) hx hb hK hP 6 rfl r49 b51 dX7_read_57 ?_
        refine zr_icmp_ge (tgt := 104) (x := x3_39) (y := (s0_39.2 8) ((3 * x2_24) + 1)) hx hb rx3_39 ((rs0_39.2 8) ((3 * x2_24) + 1)) dX7_read_58 (by decide) (fun c53 => ?_) (fun c53 => ?_)
        · have h56 := h52.2 c53
          obtain ⟨r57, h58⟩ := h56
          refine zr_iinc (x := x2_24) (lv' := [(2, .int (iI (x2_24 + 1))), (3, .int (iI x3_39)), (1, .int (iI ((u_s5.2 0) 3))), (0, .ref (a 0))]) hx hb dX7_read_104 hl (k := 1) rfl (by decide) rfl (fun ls hl => ?_)
          refine lv_goto (tgt := 37) hx hb dX7_read_107 (by decide) ?_
          obtain ⟨h59, h60⟩ := h58
          exact ih29 ((x2_24 + 1, s0_39)) _ _ _ ⟨⟨r57, rs0_39⟩, h59⟩ h60 hP hD hS (lv_sub hl [0, 2, 3] rfl)
        · have h61 := h52.1 c53
          refine lv_aload_n hx hb dX7_read_61 rfl (lv_at hl 3 rfl) ?_
          refine va_get (v := .ref (a 1)) (ci := 7) (C := RX7) (T := TX7) (N := 12) hx hb hts imX7_read_X7 hown hK hP 0 rfl rfl 0 (by decide) k1 (fun _ h9 => h9) rfl dX7_read_62 ?_
          refine lv_iconst (v := iI 3) hx hb dX7_read_65 rfl ?_
          refine zr_iald (n := 370) (f := (s0_39.2 0)) (i := 3) hx hb hK hP 1 rfl rg_3 ⟨by decide, by decide⟩ dX7_read_66 ?_
          refine lv_bipush (v := iI 120) hx hb dX7_read_67 (by decide) ?_
          refine zr_icmp_ge (tgt := 104) (x := (s0_39.2 0) 3) (y := 120) hx hb ((rs0_39.2 0) 3) rg_120 dX7_read_69 (by decide) (fun c62 => ?_) (fun c62 => ?_)
          · have h65 := h61.2 c62
            obtain ⟨r66, h67⟩ := h65
            refine zr_iinc (x := x2_24) (lv' := [(2, .int (iI (x2_24 + 1))), (3, .int (iI x3_39)), (1, .int (iI ((u_s5.2 0) 3))), (0, .ref (a 0))]) hx hb dX7_read_104 hl (k := 1) rfl (by decide) rfl (fun ls hl => ?_)
            refine lv_goto (tgt := 37) hx hb dX7_read_107 (by decide) ?_
            obtain ⟨h68, h69⟩ := h67
            exact ih29 ((x2_24 + 1, s0_39)) _ _ _ ⟨⟨r66, rs0_39⟩, h68⟩ h69 hP hD hS (lv_sub hl [0, 2, 3] rfl)
          · have h70 := h61.1 c62
            refine lv_aload_n hx hb dX7_read_72 rfl (lv_at hl 3 rfl) ?_
            refine lv_aload_n hx hb dX7_read_73 rfl (lv_at hl 3 rfl) ?_
            refine va_get (v := .ref (a 6)) (ci := 7) (C := RX7) (T := TX7) (N := 12) hx hb hts imX7_read_X7 hown hK hP 0 rfl rfl 8 (by decide) k3 (fun _ h9 => h9) rfl dX7_read_74 ?_
            refine lv_iconst (v := iI 3) hx hb dX7_read_77 rfl ?_
            refine lv_iload_n hx hb dX7_read_78 rfl (lv_at hl 1 rfl) ?_
            refine zr_imul (x := 3) (y := x2_24) hx hb dX7_read_79 ?_
            obtain ⟨b71, h72⟩ := h70
            refine zr_iald (n := 123) (f := (s0_39.2 8)) (i := 3 * x2_24) hx hb hK hP 6 rfl r47 b71 dX7_read_80 ?_
            refine lv_iload_n hx hb dX7_read_81 rfl (lv_at hl 0 rfl) ?_
            refine lv_aload_n hx hb dX7_read_82 rfl (lv_at hl 3 rfl) ?_
            refine va_get (v := .ref (a 6)) (ci := 7) (C := RX7) (T := TX7) (N := 12) hx hb hts imX7_read_X7 hown hK hP 0 rfl rfl 8 (by decide) k3 (fun _ h9 => h9) rfl dX7_read_83 ?_
            refine lv_iconst (v := iI 3) hx hb dX7_read_86 rfl ?_
            refine lv_iload_n hx hb dX7_read_87 rfl (lv_at hl 1 rfl) ?_
            refine zr_imul (x := 3) (y := x2_24) hx hb dX7_read_88 ?_
            refine lv_iconst (v := iI 2) hx hb dX7_read_89 rfl ?_
            refine zr_iadd (x := 3 * x2_24) (y := 2) hx hb dX7_read_90 ?_
            obtain ⟨r73, h74⟩ := h72
            obtain ⟨b75, h76⟩ := h74
            refine zr_iald (n := 123) (f := (s0_39.2 8)) (i := (3 * x2_24) + 2) hx hb hK hP 6 rfl r73 b75 dX7_read_91 ?_
            refine zr_imul (x := x3_39) (y := (s0_39.2 8) ((3 * x2_24) + 2)) hx hb dX7_read_92 ?_
            obtain ⟨r77, h78⟩ := h76
            refine zr_iadd (x := (s0_39.2 8) (3 * x2_24)) (y := x3_39 * ((s0_39.2 8) ((3 * x2_24) + 2))) hx hb dX7_read_93 ?_
            obtain ⟨r79, h80⟩ := h78
            obtain ⟨b81, h82⟩ := h80
            obtain ⟨b83, h84⟩ := h82
            obtain ⟨b85, h86⟩ := h84
            obtain ⟨b87, h88⟩ := h86
            refine zc_vi (As := [.int (iI (((s0_39.2 8) (3 * x2_24)) + (x3_39 * ((s0_39.2 8) ((3 * x2_24) + 2)))))]) (rest := []) (w2 := fun u_90 => W7 G a (sA s0_39 0 (addZ (s0_39.2 0) (((s0_39.2 8) (3 * x2_24)) + (x3_39 * ((s0_39.2 8) ((3 * x2_24) + 2))))))) (c_X7_adds l G a s0_39 (((s0_39.2 8) (3 * x2_24)) + (x3_39 * ((s0_39.2 8) ((3 * x2_24) + 2)))) rs0_39 r79 b81 b83 b85 b87) ⟨hx, hb, hml, hown, hts⟩ (cwV 1 hts gX7_read_X7_adds rfl rfl rfl hdX7_adds ⟨Nat.le_of_ble_eq_true rfl, Nat.le_of_ble_eq_true rfl⟩) hK hP hD hS hA (q0 := 0) rfl rfl [0, 1, 2, 3, 4, 5, 6] [] [0, 1, 2, 3, 4, 5, 6] rfl rfl rfl rfl (by decide) (fun _ => rfl) rfl rfl hl.1 rfl (Nat.le_of_ble_eq_true rfl) dX7_read_94 ⟨Nat.zero_le _, Nat.zero_le _⟩ (fun z91 u_90 H locs hw hP hD hS => ?_)
            obtain ⟨rfl, r92, r89⟩ := hw
            have hP : va_P G.1 vwCl (W7 G a (sA s0_39 0 (addZ (s0_39.2 0) (((s0_39.2 8) (3 * x2_24)) + (x3_39 * ((s0_39.2 8) ((3 * x2_24) + 2))))))) H := hP
            have hD : va_D A (W7 G a (sA s0_39 0 (addZ (s0_39.2 0) (((s0_39.2 8) (3 * x2_24)) + (x3_39 * ((s0_39.2 8) ((3 * x2_24) + 2))))))) := hD
            refine lv_pop hx hb dX7_read_97 rfl ?_
            obtain ⟨r93, h94⟩ := h88
            refine zr_iinc (x := x3_39) (lv' := [(3, .int (iI (x3_39 + 1))), (2, .int (iI x2_24)), (1, .int (iI ((u_s5.2 0) 3))), (0, .ref (a 0))]) hx hb dX7_read_98 hl (k := 0) rfl (by decide) rfl (fun ls hl => ?_)
            refine lv_goto (tgt := 47) hx hb dX7_read_101 (by decide) ?_
            obtain ⟨h95, h96⟩ := h94
            exact ih44 ((x3_39 + 1, sA s0_39 0 (addZ (s0_39.2 0) (((s0_39.2 8) (3 * x2_24)) + (x3_39 * ((s0_39.2 8) ((3 * x2_24) + 2))))))) _ _ _ ⟨⟨r93, (RG_A rs0_39 (r89.2 0))⟩, h95⟩ h96 hP hD hS (lv_sub hl [0, 1, 2, 3] rfl)
    · have h97 := h14.1 c15
      refine lv_bipush (v := iI (-3)) hx hb dX7_read_21 (by decide) ?_
      exact zr_iret (z := (-3)) hx hb hr hlocks hK (u_s5) hP hD hS dX7_read_23 ⟨rg_m3, ru_s5, h97⟩
  · have h98 := h10.2 c11
    refine lv_bipush (v := iI (-5)) hx hb dX7_read_9 (by decide) ?_
    exact zr_iret (z := (-5)) hx hb hr hlocks hK (u_s5) hP hD hS dX7_read_11 ⟨rg_m5, ru_s5, h98⟩
theorem c_X7_read (l : Launch) (G : ZG) (a : Nat → Nat) (s : SS)   (r_s : RG s)  (p0 : Vz (s.2 0)) (p1 : Bd (s.2 0) 60000) (p2 : 0 ≤ (s.1 2) ∧ (s.1 2) ≤ 4) (p3 : 0 ≤ (s.1 7) ∧ (s.1 7) ≤ 80) (p4 : Bf s) : ZI l G yX7_read wsX7_read 5 109 [.ref (a 0)] (W7 G a s) (fun u : SS => W7 G a u) (fun (zq : Int) (u : SS) => rg zq ∧ RG u ∧ (rl_read s zq u)) :=
  c0_X7_read l G a s (fun r s' => rl_read s r s') r_s  (sp_X7_read s  r_s  p0 p1 p2 p3 p4)
