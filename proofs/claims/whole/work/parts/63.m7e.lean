theorem imX7_step_X7 : ∀ w ∈ wsX70, w ∈ wsX7_step := fun _ h => (List.mem_cons_of_mem _ (List.mem_append_right _ h))
theorem hdX7_step : yX7_step.cls = RX7 ∧ yX7_step.cls ≠ "java/lang/invoke/MethodHandle" ∧ yX7_step.cls ≠ "java/lang/invoke/VarHandle" ∧ (parseMethodDescriptor yX7_step.desc).map (fun d => d.parameters.length) = some 1 := by decide +kernel
set_option maxRecDepth 100000 in
set_option maxHeartbeats 4000000 in
theorem c0_X7_step (l : Launch) (G : ZG) (a : Nat → Nat) (s : SS) (steps : Int) (P : Int → SS → Prop) (r_s : RG s) (r_steps : rg steps) (hwp : wp_X7_step s steps P) : ZI l G yX7_step wsX7_step 4 86 [.ref (a 0), .int (iI steps)] (W7 G a s) (fun u : SS => W7 G a u) (fun (z : Int) (u : SS) => rg z ∧ RG u ∧ P z u) := by
  unfold wp_X7_step at hwp
  refine zm_i (cc := cX7_step) (maxL := 3) (ret := some .int) (own := RX7) (lvs := [(0, .ref (a 0)), (1, .int (iI steps))]) (by decide) rfl rfl (Nat.le_of_ble_eq_true rfl) rfl ?_
  intro p e sT m args below meth c ls A hx hb hr hml hown hts hlocks hK hP hD hS hA hl
  have k1 := hts (.fieldLink RX7 7 "GrantedSortModel" "z" "[I") (List.mem_of_getElem? (i := 1) rfl)
  refine lv_iload_n hx hb dX7_step_0 rfl (lv_at hl 1 rfl) ?_
  refine lv_iconst (v := iI 1) hx hb dX7_step_1 rfl ?_
  refine lv_sipush (v := iI 200) hx hb dX7_step_2 (by decide) ?_
  refine zc_si (As := [.int (iI steps), .int (iI 1), .int (iI 200)]) (rest := []) (c_X7_in l G steps 1 200 r_steps rg_1 rg_200) ⟨hx, hb, hml, hown, hts⟩ (va_cwS 3 hts gX7_step_X7_in rfl rfl rfl hdX7_in ⟨Nat.le_of_ble_eq_true rfl, Nat.le_of_ble_eq_true rfl⟩) hK hP hD hS hA rfl hl.1 rfl (Nat.le_of_ble_eq_true rfl) dX7_step_5 ⟨Nat.zero_le _, Nat.zero_le _⟩ (fun z2 H locs hw hP hD hS => ?_)
  obtain ⟨rfl, r3⟩ := hw
  have hP : va_P G.1 vwCl (W7 G a s) H := hP
  have hD : va_D A (W7 G a s) := hD
  refine zr_ifB_ne (tgt := 14)  hx hb dX7_step_8 (by decide) (fun c4 => ?_) (fun c4 => ?_)
  · have h7 := hwp.1 c4
    refine lv_aload_n hx hb dX7_step_14 rfl (lv_at hl 0 rfl) ?_
    refine va_get (v := .ref (a 1)) (ci := 7) (C := RX7) (T := TX7) (N := 12) hx hb hts imX7_step_X7 hown hK hP 0 rfl rfl 0 (by decide) k1 (fun _ h9 => h9) rfl dX7_step_15 ?_
    refine lv_iconst (v := iI 5) hx hb dX7_step_18 rfl ?_
    refine zr_iald (n := 370) (f := (s.2 0)) (i := 5) hx hb hK hP 1 rfl rg_5 ⟨by decide, by decide⟩ dX7_step_19 ?_
    refine zr_if_ne (tgt := 26) (x := (s.2 0) 5) hx hb ((r_s.2 0) 5) dX7_step_20 (by decide) (fun c8 => ?_) (fun c8 => ?_)
    · have h11 := h7.2 c8
      refine lv_aload_n hx hb dX7_step_26 rfl (lv_at hl 0 rfl) ?_
      obtain ⟨b12, h13⟩ := h11
      refine zc_vv (As := []) (rest := []) (w2 := fun u_15 => W7 G a (sS (sA s 1 (recP (s.2 1) (s.1 2) (s.2 0))) 2 (recN (s.1 2) + 1))) (c_X7_record l G a s r_s b12) ⟨hx, hb, hml, hown, hts⟩ (cwV 0 hts gX7_step_X7_record rfl rfl rfl hdX7_record ⟨Nat.le_of_ble_eq_true rfl, Nat.le_of_ble_eq_true rfl⟩) hK hP hD hS hA (q0 := 0) rfl rfl [0, 1, 2, 3, 4, 5, 6] [] [0, 1, 2, 3, 4, 5, 6] rfl rfl rfl rfl (by decide) (fun _ => rfl) rfl rfl hl.1 rfl (Nat.le_of_ble_eq_true rfl) dX7_step_27 ⟨Nat.zero_le _, Nat.zero_le _⟩ (fun u_15 H locs hw hP hD hS => ?_)
      have r14 := hw
      have hP : va_P G.1 vwCl (W7 G a (sS (sA s 1 (recP (s.2 1) (s.1 2) (s.2 0))) 2 (recN (s.1 2) + 1))) H := hP
      have hD : va_D A (W7 G a (sS (sA s 1 (recP (s.2 1) (s.1 2) (s.2 0))) 2 (recN (s.1 2) + 1))) := hD
      refine lv_iconst (v := iI 0) hx hb dX7_step_30 rfl ?_
      refine lv_istore_n (lv' := [(2, .int (iI 0)), (0, .ref (a 0)), (1, .int (iI steps))]) hx hb dX7_step_31 rfl hl (by decide) rfl (fun ls hl => ?_)
      obtain ⟨I18, μ19, h20, h21⟩ := h13
      refine zr_loop (G := G) (σ := Int × SS) (fun x_17 => (rg x_17.1 ∧ RG x_17.2) ∧ I18 x_17.1 x_17.2) (fun x_17 => μ19 x_17.1 x_17.2) (fun x_17 => W7 G a x_17.2) (fun x_17 => [(2, .int (iI x_17.1)), (0, .ref (a 0)), (1, .int (iI steps))]) ((0, sS (sA s 1 (recP (s.2 1) (s.1 2) (s.2 0))) 2 (recN (s.1 2) + 1))) ⟨⟨rg_0, (RG_S (RG_A r_s (r14.2 1)) (r14.1 2))⟩, h20⟩ hP hD hS (lv_sub hl [0, 1, 2] rfl) ?_
      clear hP hD hS hl
      intro x_17 H locs ls ih22 h23 hP hD hS hl
      obtain ⟨x2_17, s0_17⟩ := x_17
      obtain ⟨⟨rx2_17, rs0_17⟩, h23⟩ := h23
      have h24 := h21 x2_17 s0_17 rx2_17 rs0_17 h23
      have hP : va_P G.1 vwCl (W7 G a s0_17) H := hP
      have hD : va_D A (W7 G a s0_17) := hD
      have hl : lv_has ls 3 [(2, .int (iI x2_17)), (0, .ref (a 0)), (1, .int (iI steps))] := hl
      refine lv_iload_n hx hb dX7_step_32 rfl (lv_at hl 0 rfl) ?_
      refine lv_iload_n hx hb dX7_step_33 rfl (lv_at hl 2 rfl) ?_
      refine zr_icmp_ge (tgt := 57) (x := x2_17) (y := steps) hx hb rx2_17 r_steps dX7_step_34 (by decide) (fun c25 => ?_) (fun c25 => ?_)
      · have h28 := h24.2 c25
        refine lv_iload_n hx hb dX7_step_57 rfl (lv_at hl 0 rfl) ?_
        exact zr_iret (z := x2_17) hx hb hr hlocks hK (s0_17) hP hD hS dX7_step_58 ⟨rx2_17, rs0_17, h28⟩
      · have h29 := h24.1 c25
        refine lv_aload_n hx hb dX7_step_37 rfl (lv_at hl 1 rfl) ?_
        refine va_get (v := .ref (a 1)) (ci := 7) (C := RX7) (T := TX7) (N := 12) hx hb hts imX7_step_X7 hown hK hP 0 rfl rfl 0 (by decide) k1 (fun _ h9 => h9) rfl dX7_step_38 ?_
        refine lv_iconst (v := iI 5) hx hb dX7_step_41 rfl ?_
        refine zr_iald (n := 370) (f := (s0_17.2 0)) (i := 5) hx hb hK hP 1 rfl rg_5 ⟨by decide, by decide⟩ dX7_step_42 ?_
        refine lv_iconst (v := iI 1) hx hb dX7_step_43 rfl ?_
        refine zr_icmp_ne (tgt := 57) (x := (s0_17.2 0) 5) (y := 1) hx hb ((rs0_17.2 0) 5) rg_1 dX7_step_44 (by decide) (fun c30 => ?_) (fun c30 => ?_)
        · have h33 := h29.2 c30
          refine lv_iload_n hx hb dX7_step_57 rfl (lv_at hl 0 rfl) ?_
          exact zr_iret (z := x2_17) hx hb hr hlocks hK (s0_17) hP hD hS dX7_step_58 ⟨rx2_17, rs0_17, h33⟩
        · have h34 := h29.1 c30
          refine lv_aload_n hx hb dX7_step_47 rfl (lv_at hl 1 rfl) ?_
          obtain ⟨b35, h36⟩ := h34
          obtain ⟨b37, h38⟩ := h36
          obtain ⟨b39, h40⟩ := h38
          obtain ⟨b41, h42⟩ := h40
          refine zc_vv (As := []) (rest := []) (w2 := fun u_44 => W7 G a (sA s0_17 0 (stpZ (s0_17.2 0)))) (c_X7_steps l G a s0_17 rs0_17 b35 b37 b39 b41) ⟨hx, hb, hml, hown, hts⟩ (cwV 0 hts gX7_step_X7_steps rfl rfl rfl hdX7_steps ⟨Nat.le_of_ble_eq_true rfl, Nat.le_of_ble_eq_true rfl⟩) hK hP hD hS hA (q0 := 0) rfl rfl [0, 1, 2, 3, 4, 5, 6] [] [0, 1, 2, 3, 4, 5, 6] rfl rfl rfl rfl (by decide) (fun _ => rfl) rfl rfl hl.1 rfl (Nat.le_of_ble_eq_true rfl) dX7_step_48 ⟨Nat.zero_le _, Nat.zero_le _⟩ (fun u_44 H locs hw hP hD hS => ?_)
          have r43 := hw
          have hP : va_P G.1 vwCl (W7 G a (sA s0_17 0 (stpZ (s0_17.2 0)))) H := hP
          have hD : va_D A (W7 G a (sA s0_17 0 (stpZ (s0_17.2 0)))) := hD
          obtain ⟨r46, h47⟩ := h42
          refine zr_iinc (x := x2_17) (lv' := [(2, .int (iI (x2_17 + 1))), (0, .ref (a 0)), (1, .int (iI steps))]) hx hb dX7_step_51 hl (k := 0) rfl (by decide) rfl (fun ls hl => ?_)
          refine lv_goto (tgt := 32) hx hb dX7_step_54 (by decide) ?_
          obtain ⟨h48, h49⟩ := h47
          exact ih22 ((x2_17 + 1, sA s0_17 0 (stpZ (s0_17.2 0)))) _ _ _ ⟨⟨r46, (RG_A rs0_17 (r43.2 0))⟩, h48⟩ h49 hP hD hS (lv_sub hl [0, 1, 2] rfl)
    · have h50 := h7.1 c8
      refine lv_bipush (v := iI (-3)) hx hb dX7_step_23 (by decide) ?_
      exact zr_iret (z := (-3)) hx hb hr hlocks hK (s) hP hD hS dX7_step_25 ⟨rg_m3, r_s, h50⟩
  · have h51 := hwp.2 c4
    refine lv_bipush (v := iI (-2)) hx hb dX7_step_11 (by decide) ?_
    exact zr_iret (z := (-2)) hx hb hr hlocks hK (s) hP hD hS dX7_step_13 ⟨rg_m2, r_s, h51⟩
theorem c_X7_step (l : Launch) (G : ZG) (a : Nat → Nat) (s : SS) (steps : Int)  (r_s : RG s) (r_steps : rg steps) (p0 : Vz (s.2 0)) (p1 : Bd (s.2 0) 50000) (p2 : 0 ≤ (s.1 2) ∧ (s.1 2) ≤ 4) : ZI l G yX7_step wsX7_step 4 86 [.ref (a 0), .int (iI steps)] (W7 G a s) (fun u : SS => W7 G a u) (fun (zq : Int) (u : SS) => rg zq ∧ RG u ∧ (rl_step s steps zq u)) :=
  c0_X7_step l G a s steps (fun r s' => rl_step s steps r s') r_s r_steps (sp_X7_step s steps  r_s r_steps p0 p1 p2)
theorem hdX7_run : yX7_run.cls = RX7 ∧ yX7_run.cls ≠ "java/lang/invoke/MethodHandle" ∧ yX7_run.cls ≠ "java/lang/invoke/VarHandle" ∧ (parseMethodDescriptor yX7_run.desc).map (fun d => d.parameters.length) = some 0 := by decide +kernel
set_option maxRecDepth 100000 in
set_option maxHeartbeats 4000000 in
theorem c0_X7_run (l : Launch) (G : ZG) (a : Nat → Nat) (s : SS)  (P : Int → SS → Prop) (r_s : RG s)  (hwp : wp_X7_run s P) : ZI l G yX7_run wsX7_run 6 135 [.ref (a 0)] (W7 G a s) (fun u : SS => W7 G a u) (fun (z : Int) (u : SS) => rg z ∧ RG u ∧ P z u) := by
  unfold wp_X7_run at hwp
  refine zm_i (cc := cX7_run) (maxL := 1) (ret := some .int) (own := RX7) (lvs := [(0, .ref (a 0))]) (by decide) rfl rfl (Nat.le_of_ble_eq_true rfl) rfl ?_
  intro p e sT m args below meth c ls A hx hb hr hml hown hts hlocks hK hP hD hS hA hl
  refine lv_aload_n hx hb dX7_run_0 rfl (lv_at hl 0 rfl) ?_
  obtain ⟨b1, h2⟩ := hwp
  obtain ⟨b3, h4⟩ := h2
  refine zc_vi (As := []) (rest := []) (w2 := fun u_5 => W7 G a s) (c_X7_canRun l G a s r_s b1 b3) ⟨hx, hb, hml, hown, hts⟩ (cwV 0 hts gX7_run_X7_canRun rfl rfl rfl hdX7_canRun ⟨Nat.le_of_ble_eq_true rfl, Nat.le_of_ble_eq_true rfl⟩) hK hP hD hS hA (q0 := 0) rfl rfl [0, 1, 2, 3, 4, 5, 6] [] [0, 1, 2, 3, 4, 5, 6] rfl rfl rfl rfl (by decide) (fun _ => rfl) rfl rfl hl.1 rfl (Nat.le_of_ble_eq_true rfl) dX7_run_1 ⟨Nat.zero_le _, Nat.zero_le _⟩ (fun z6 u_5 H locs hw hP hD hS => ?_)
  obtain ⟨rfl, r7⟩ := hw
  have hP : va_P G.1 vwCl (W7 G a s) H := hP
  have hD : va_D A (W7 G a s) := hD
  refine zr_ifB_ne (tgt := 10)  hx hb dX7_run_4 (by decide) (fun c8 => ?_) (fun c8 => ?_)
  · have h11 := h4.1 c8
    refine lv_aload_n hx hb dX7_run_10 rfl (lv_at hl 0 rfl) ?_
    obtain ⟨b12, h13⟩ := h11
    refine zc_vv (As := []) (rest := []) (w2 := fun u_15 => W7 G a (sS (sA s 1 (recP (s.2 1) (s.1 2) (s.2 0))) 2 (recN (s.1 2) + 1))) (c_X7_record l G a s r_s b12) ⟨hx, hb, hml, hown, hts⟩ (cwV 0 hts gX7_run_X7_record rfl rfl rfl hdX7_record ⟨Nat.le_of_ble_eq_true rfl, Nat.le_of_ble_eq_true rfl⟩) hK hP hD hS hA (q0 := 0) rfl rfl [0, 1, 2, 3, 4, 5, 6] [] [0, 1, 2, 3, 4, 5, 6] rfl rfl rfl rfl (by decide) (fun _ => rfl) rfl rfl hl.1 rfl (Nat.le_of_ble_eq_true rfl) dX7_run_11 ⟨Nat.zero_le _, Nat.zero_le _⟩ (fun u_15 H locs hw hP hD hS => ?_)
    have r14 := hw
    have hP : va_P G.1 vwCl (W7 G a (sS (sA s 1 (recP (s.2 1) (s.1 2) (s.2 0))) 2 (recN (s.1 2) + 1))) H := hP
    have hD : va_D A (W7 G a (sS (sA s 1 (recP (s.2 1) (s.1 2) (s.2 0))) 2 (recN (s.1 2) + 1))) := hD
    refine lv_aload_n hx hb dX7_run_14 rfl (lv_at hl 0 rfl) ?_
    obtain ⟨b17, h18⟩ := h13
    obtain ⟨b19, h20⟩ := h18
    obtain ⟨b21, h22⟩ := h20
    refine zc_vi (As := []) (rest := []) (w2 := fun u_24 => W7 G a u_24) (c_X7_allSteps l G a (sS (sA s 1 (recP (s.2 1) (s.1 2) (s.2 0))) 2 (recN (s.1 2) + 1)) (RG_S (RG_A r_s (r14.2 1)) (r14.1 2)) b17 b19 b21) ⟨hx, hb, hml, hown, hts⟩ (cwV 0 hts gX7_run_X7_allSteps rfl rfl rfl hdX7_allSteps ⟨Nat.le_of_ble_eq_true rfl, Nat.le_of_ble_eq_true rfl⟩) hK hP hD hS hA (q0 := 0) rfl rfl [0, 1, 2, 3, 4, 5, 6] [] [0, 1, 2, 3, 4, 5, 6] rfl rfl rfl rfl (by decide) (fun _ => rfl) rfl rfl hl.1 rfl (Nat.le_of_ble_eq_true rfl) dX7_run_15 ⟨Nat.zero_le _, Nat.zero_le _⟩ (fun z25 u_24 H locs hw hP hD hS => ?_)
    obtain ⟨u_s23, rfl⟩ : ∃ q, q = u_24 := ⟨_, rfl⟩
    obtain ⟨r27, ru_s23, h26⟩ := hw
    have h28 := h22 z25 u_s23 r27 ru_s23 h26
    have hP : va_P G.1 vwCl (W7 G a u_s23) H := hP
    have hD : va_D A (W7 G a u_s23) := hD
    exact zr_iret (z := z25) hx hb hr hlocks hK (u_s23) hP hD hS dX7_run_18 ⟨r27, ru_s23, h28⟩
  · have h29 := h4.2 c8
    refine lv_bipush (v := iI (-3)) hx hb dX7_run_7 (by decide) ?_
    exact zr_iret (z := (-3)) hx hb hr hlocks hK (s) hP hD hS dX7_run_9 ⟨rg_m3, r_s, h29⟩
theorem c_X7_run (l : Launch) (G : ZG) (a : Nat → Nat) (s : SS)   (r_s : RG s)  (p0 : Vz (s.2 0)) (p1 : Bd (s.2 0) 50000) (p2 : 0 ≤ (s.1 2) ∧ (s.1 2) ≤ 4) : ZI l G yX7_run wsX7_run 6 135 [.ref (a 0)] (W7 G a s) (fun u : SS => W7 G a u) (fun (zq : Int) (u : SS) => rg zq ∧ RG u ∧ (rl_run s zq u)) :=
  c0_X7_run l G a s (fun r s' => rl_run s r s') r_s  (sp_X7_run s  r_s  p0 p1 p2)
theorem imX7_row_X7 : ∀ w ∈ wsX70, w ∈ wsX7_row := fun _ h => (List.mem_cons_of_mem _ (List.mem_append_right _ h))
theorem hdX7_row : yX7_row.cls = RX7 ∧ yX7_row.cls ≠ "java/lang/invoke/MethodHandle" ∧ yX7_row.cls ≠ "java/lang/invoke/VarHandle" ∧ (parseMethodDescriptor yX7_row.desc).map (fun d => d.parameters.length) = some 3 := by decide +kernel
set_option maxRecDepth 100000 in
set_option maxHeartbeats 4000000 in
theorem c0_X7_row (l : Launch) (G : ZG) (a : Nat → Nat) (s : SS) (run : Int) (index : Int) (part : Int) (P : Int → Prop) (r_s : RG s) (r_run : rg run) (r_index : rg index) (r_part : rg part) (hwp : wp_X7_row s run index part P) : ZI l G yX7_row wsX7_row 3 65 [.ref (a 0), .int (iI run), .int (iI index), .int (iI part)] (W7 G a s) (fun u : Unit => W7 G a s) (fun (z : Int) (u : Unit) => rg z ∧ P z) := by
  unfold wp_X7_row at hwp
  refine zm_i (cc := cX7_row) (maxL := 6) (ret := some .int) (own := RX7) (lvs := [(0, .ref (a 0)), (1, .int (iI run)), (2, .int (iI index)), (3, .int (iI part))]) (by decide) rfl rfl (Nat.le_of_ble_eq_true rfl) rfl ?_
  intro p e sT m args below meth c ls A hx hb hr hml hown hts hlocks hK hP hD hS hA hl
  have k1 := hts (.fieldLink RX7 7 "GrantedSortModel" "z" "[I") (List.mem_of_getElem? (i := 1) rfl)
  refine lv_aload_n hx hb dX7_row_0 rfl (lv_at hl 0 rfl) ?_
  refine lv_iload_n hx hb dX7_row_1 rfl (lv_at hl 1 rfl) ?_
  obtain ⟨b1, h2⟩ := hwp
  refine zc_vi (As := [.int (iI run)]) (rest := []) (w2 := fun u_3 => W7 G a s) (c_X7_isRun l G a s run r_s r_run b1) ⟨hx, hb, hml, hown, hts⟩ (cwV 1 hts gX7_row_X7_isRun rfl rfl rfl hdX7_isRun ⟨Nat.le_of_ble_eq_true rfl, Nat.le_of_ble_eq_true rfl⟩) hK hP hD hS hA (q0 := 0) rfl rfl [0, 1, 2, 3, 4, 5, 6] [] [0, 1, 2, 3, 4, 5, 6] rfl rfl rfl rfl (by decide) (fun _ => rfl) rfl rfl hl.1 rfl (Nat.le_of_ble_eq_true rfl) dX7_row_2 ⟨Nat.zero_le _, Nat.zero_le _⟩ (fun z4 u_3 H locs hw hP hD hS => ?_)
  obtain ⟨rfl, r5⟩ := hw
  have hP : va_P G.1 vwCl (W7 G a s) H := hP
  have hD : va_D A (W7 G a s) := hD
  refine zr_ifB_eq (tgt := 28)  hx hb dX7_row_5 (by decide) (fun c6 => ?_) (fun c6 => ?_)
  · have h9 := h2.2 c6
    refine lv_iconst (v := iI (-1)) hx hb dX7_row_28 rfl ?_
    exact zr_iret (z := (-1)) hx hb hr hlocks hK () hP hD hS dX7_row_29 ⟨rg_m1, h9⟩
  · have h10 := h2.1 c6
    refine lv_iload_n hx hb dX7_row_8 rfl (lv_at hl 2 rfl) ?_
    refine lv_iconst (v := iI 0) hx hb dX7_row_9 rfl ?_
    refine lv_aload_n hx hb dX7_row_10 rfl (lv_at hl 0 rfl) ?_
    refine lv_bipush (v := iI 10) hx hb dX7_row_11 (by decide) ?_
    refine lv_iconst (v := iI 2) hx hb dX7_row_13 rfl ?_
    refine lv_iload_n hx hb dX7_row_14 rfl (lv_at hl 1 rfl) ?_
    refine zr_imul (x := 2) (y := run) hx hb dX7_row_15 ?_
    obtain ⟨r11, h12⟩ := h10
    refine zr_iadd (x := 10) (y := 2 * run) hx hb dX7_row_16 ?_
    obtain ⟨r13, h14⟩ := h12
    refine zc_vi (As := [.int (iI (10 + (2 * run)))]) (rest := [.int (iI 0), .int (iI index)]) (w2 := fun u_15 => W7 G a s) (c_X7_rowsAt l G a s (10 + (2 * run)) r_s r13 b1) ⟨hx, hb, hml, hown, hts⟩ (cwV 1 hts gX7_row_X7_rowsAt rfl rfl rfl hdX7_rowsAt ⟨Nat.le_of_ble_eq_true rfl, Nat.le_of_ble_eq_true rfl⟩) hK hP hD hS hA (q0 := 0) rfl rfl [0, 1, 2, 3, 4, 5, 6] [] [0, 1, 2, 3, 4, 5, 6] rfl rfl rfl rfl (by decide) (fun _ => rfl) rfl rfl hl.1 rfl (Nat.le_of_ble_eq_true rfl) dX7_row_17 ⟨Nat.zero_le _, Nat.zero_le _⟩ (fun z16 u_15 H locs hw hP hD hS => ?_)
    obtain ⟨rfl, r17⟩ := hw
    have hP : va_P G.1 vwCl (W7 G a s) H := hP
    have hD : va_D A (W7 G a s) := hD
    refine lv_iconst (v := iI 1) hx hb dX7_row_20 rfl ?_
    refine zr_isub (x := rowsAt (s.2 0) (10 + (2 * run))) (y := 1) hx hb dX7_row_21 ?_
    obtain ⟨r18, h19⟩ := h14
    refine zc_si (As := [.int (iI index), .int (iI 0), .int (iI ((rowsAt (s.2 0) (10 + (2 * run))) - 1))]) (rest := []) (c_X7_in l G index 0 ((rowsAt (s.2 0) (10 + (2 * run))) - 1) r_index rg_0 r18) ⟨hx, hb, hml, hown, hts⟩ (va_cwS 3 hts gX7_row_X7_in rfl rfl rfl hdX7_in ⟨Nat.le_of_ble_eq_true rfl, Nat.le_of_ble_eq_true rfl⟩) hK hP hD hS hA rfl hl.1 rfl (Nat.le_of_ble_eq_true rfl) dX7_row_22 ⟨Nat.zero_le _, Nat.zero_le _⟩ (fun z21 H locs hw hP hD hS => ?_)
    obtain ⟨rfl, r22⟩ := hw
    have hP : va_P G.1 vwCl (W7 G a s) H := hP
    have hD : va_D A (W7 G a s) := hD
    refine zr_ifB_ne (tgt := 30)  hx hb dX7_row_25 (by decide) (fun c23 => ?_) (fun c23 => ?_)
    · have h26 := h19.1 c23
      refine lv_bipush (v := iI (-6)) hx hb dX7_row_30 (by decide) ?_
      refine lv_istore (lv' := [(4, .int (iI (-6))), (0, .ref (a 0)), (1, .int (iI run)), (2, .int (iI index)), (3, .int (iI part))]) hx hb dX7_row_32 hl (by decide) rfl (fun ls hl => ?_)
      refine lv_iconst (v := iI 0) hx hb dX7_row_34 rfl ?_
      refine lv_istore (lv' := [(5, .int (iI 0)), (4, .int (iI (-6))), (0, .ref (a 0)), (1, .int (iI run)), (2, .int (iI index)), (3, .int (iI part))]) hx hb dX7_row_35 hl (by decide) rfl (fun ls hl => ?_)
      obtain ⟨I28, μ29, h30, h31⟩ := h26
      refine zr_loop (G := G) (σ := Int × Int) (fun x_27 => (rg x_27.1 ∧ rg x_27.2) ∧ I28 x_27.1 x_27.2) (fun x_27 => μ29 x_27.1 x_27.2) (fun x_27 => W7 G a s) (fun x_27 => [(5, .int (iI x_27.2)), (4, .int (iI x_27.1)), (0, .ref (a 0)), (1, .int (iI run)), (2, .int (iI index)), (3, .int (iI part))]) (((-6), 0)) ⟨⟨rg_m6, rg_0⟩, h30⟩ hP hD hS (lv_sub hl [0, 1, 2, 3, 4, 5] rfl) ?_
      clear hP hD hS hl
      intro x_27 H locs ls ih32 h33 hP hD hS hl
      obtain ⟨x4_27, x5_27⟩ := x_27
      obtain ⟨⟨rx4_27, rx5_27⟩, h33⟩ := h33
      have h34 := h31 x4_27 x5_27 rx4_27 rx5_27 h33
      have hP : va_P G.1 vwCl (W7 G a s) H := hP
      have hD : va_D A (W7 G a s) := hD
      have hl : lv_has ls 6 [(5, .int (iI x5_27)), (4, .int (iI x4_27)), (0, .ref (a 0)), (1, .int (iI run)), (2, .int (iI index)), (3, .int (iI part))] := hl
      refine lv_iload hx hb dX7_row_37 (lv_at hl 0 rfl) ?_
      refine lv_aload_n hx hb dX7_row_39 rfl (lv_at hl 2 rfl) ?_
      refine va_get (v := .ref (a 1)) (ci := 7) (C := RX7) (T := TX7) (N := 12) hx hb hts imX7_row_X7 hown hK hP 0 rfl rfl 0 (by decide) k1 (fun _ h9 => h9) rfl dX7_row_40 ?_
      refine lv_iconst (v := iI 3) hx hb dX7_row_43 rfl ?_
      refine zr_iald (n := 370) (f := (s.2 0)) (i := 3) hx hb hK hP 1 rfl rg_3 ⟨by decide, by decide⟩ dX7_row_44 ?_
      refine zr_icmp_ge (tgt := 88) (x := x5_27) (y := (s.2 0) 3) hx hb rx5_27 ((r_s.2 0) 3) dX7_row_45 (by decide) (fun c35 => ?_) (fun c35 => ?_)
      · have h38 := h34.2 c35
        refine lv_iload_n hx hb dX7_row_88 rfl (lv_at hl 5 rfl) ?_
        rcases (show part = 0 ∨ part = 1 ∨ part = 2 ∨ (part < 0 ∨ 2 < part) by omega) with c39 | c39 | c39 | c39
        · have h40 := h38.1 c39
          refine zr_tsIn (x := part) (v := 0) (tgt := 116) hx hb r_part 0 c39 dX7_row_89 ⟨by decide, rfl⟩ (by decide) ?_
          refine lv_aload_n hx hb dX7_row_116 rfl (lv_at hl 2 rfl) ?_
          refine va_get (v := .ref (a 1)) (ci := 7) (C := RX7) (T := TX7) (N := 12) hx hb hts imX7_row_X7 hown hK hP 0 rfl rfl 0 (by decide) k1 (fun _ h9 => h9) rfl dX7_row_117 ?_
          refine lv_bipush (v := iI 10) hx hb dX7_row_120 (by decide) ?_
          refine lv_iload hx hb dX7_row_122 (lv_at hl 1 rfl) ?_
          refine zr_iadd (x := 10) (y := x4_27) hx hb dX7_row_124 ?_
          obtain ⟨r41, h42⟩ := h40
          obtain ⟨b43, h44⟩ := h42
          refine zr_iald (n := 370) (f := (s.2 0)) (i := 10 + x4_27) hx hb hK hP 1 rfl r41 b43 dX7_row_125 ?_
          exact zr_iret (z := (s.2 0) (10 + x4_27)) hx hb hr hlocks hK () hP hD hS dX7_row_126 ⟨((r_s.2 0) (10 + x4_27)), h44⟩
        · have h45 := h38.2.1 c39
          refine zr_tsIn (x := part) (v := 1) (tgt := 127) hx hb r_part 1 c39 dX7_row_89 ⟨by decide, rfl⟩ (by decide) ?_
          refine lv_iload hx hb dX7_row_127 (lv_at hl 1 rfl) ?_
          exact zr_iret (z := x4_27) hx hb hr hlocks hK () hP hD hS dX7_row_129 ⟨rx4_27, h45⟩
        · have h46 := h38.2.2.1 c39
          refine zr_tsIn (x := part) (v := 2) (tgt := 130) hx hb r_part 2 c39 dX7_row_89 ⟨by decide, rfl⟩ (by decide) ?_
          refine lv_aload_n hx hb dX7_row_130 rfl (lv_at hl 2 rfl) ?_
          refine va_get (v := .ref (a 1)) (ci := 7) (C := RX7) (T := TX7) (N := 12) hx hb hts imX7_row_X7 hown hK hP 0 rfl rfl 0 (by decide) k1 (fun _ h9 => h9) rfl dX7_row_131 ?_
          refine lv_sipush (v := iI 130) hx hb dX7_row_134 (by decide) ?_
          refine lv_iload hx hb dX7_row_137 (lv_at hl 1 rfl) ?_
          refine zr_iadd (x := 130) (y := x4_27) hx hb dX7_row_139 ?_
          obtain ⟨r47, h48⟩ := h46
          obtain ⟨b49, h50⟩ := h48
          refine zr_iald (n := 370) (f := (s.2 0)) (i := 130 + x4_27) hx hb hK hP 1 rfl r47 b49 dX7_row_140 ?_
          exact zr_iret (z := (s.2 0) (130 + x4_27)) hx hb hr hlocks hK () hP hD hS dX7_row_141 ⟨((r_s.2 0) (130 + x4_27)), h50⟩
        · have h51 := h38.2.2.2 c39
          refine zr_tsOut (x := part) (tgt := 142) hx hb r_part c39 dX7_row_89 (by decide) ?_
          refine lv_bipush (v := iI (-2)) hx hb dX7_row_142 (by decide) ?_
          exact zr_iret (z := (-2)) hx hb hr hlocks hK () hP hD hS dX7_row_144 ⟨rg_m2, h51⟩
      · have h52 := h34.1 c35
        refine lv_aload_n hx hb dX7_row_48 rfl (lv_at hl 2 rfl) ?_
        refine lv_iload hx hb dX7_row_49 (lv_at hl 0 rfl) ?_
        obtain ⟨b53, h54⟩ := h52
        refine zc_vi (As := [.int (iI x5_27)]) (rest := []) (w2 := fun u_55 => W7 G a s) (c_X7_place l G a s x5_27 r_s rx5_27 b53) ⟨hx, hb, hml, hown, hts⟩ (cwV 1 hts gX7_row_X7_place rfl rfl rfl hdX7_place ⟨Nat.le_of_ble_eq_true rfl, Nat.le_of_ble_eq_true rfl⟩) hK hP hD hS hA (q0 := 0) rfl rfl [0, 1, 2, 3, 4, 5, 6] [] [0, 1, 2, 3, 4, 5, 6] rfl rfl rfl rfl (by decide) (fun _ => rfl) rfl rfl hl.1 rfl (Nat.le_of_ble_eq_true rfl) dX7_row_51 ⟨Nat.zero_le _, Nat.zero_le _⟩ (fun z56 u_55 H locs hw hP hD hS => ?_)
        obtain ⟨rfl, r57⟩ := hw
        have hP : va_P G.1 vwCl (W7 G a s) H := hP
        have hD : va_D A (W7 G a s) := hD
        refine lv_bipush (v := iI 10) hx hb dX7_row_54 (by decide) ?_
        refine lv_iconst (v := iI 2) hx hb dX7_row_56 rfl ?_
        refine lv_iload_n hx hb dX7_row_57 rfl (lv_at hl 3 rfl) ?_
        refine zr_imul (x := 2) (y := run) hx hb dX7_row_58 ?_
        refine zr_iadd (x := 10) (y := 2 * run) hx hb dX7_row_59 ?_
        refine zr_icmp_ne (tgt := 78) (x := (s.2 0) (250 + x5_27)) (y := 10 + (2 * run)) hx hb r57 r13 dX7_row_60 (by decide) (fun c58 => ?_) (fun c58 => ?_)
        · have h61 := h54.2 c58
          refine lv_iload hx hb dX7_row_78 (lv_at hl 1 rfl) ?_
          refine lv_istore (lv' := [(4, .int (iI x4_27)), (5, .int (iI x5_27)), (0, .ref (a 0)), (1, .int (iI run)), (2, .int (iI index)), (3, .int (iI part))]) hx hb dX7_row_80 hl (by decide) rfl (fun ls hl => ?_)
          obtain ⟨r62, h63⟩ := h61
          refine zr_iinc (x := x5_27) (lv' := [(5, .int (iI (x5_27 + 1))), (4, .int (iI x4_27)), (0, .ref (a 0)), (1, .int (iI run)), (2, .int (iI index)), (3, .int (iI part))]) hx hb dX7_row_82 hl (k := 1) rfl (by decide) rfl (fun ls hl => ?_)
          refine lv_goto (tgt := 37) hx hb dX7_row_85 (by decide) ?_
          obtain ⟨h64, h65⟩ := h63
          exact ih32 ((x4_27, x5_27 + 1)) _ _ _ ⟨⟨rx4_27, r62⟩, h64⟩ h65 hP hD hS (lv_sub hl [0, 1, 2, 3, 4, 5] rfl)
        · have h66 := h54.1 c58
          refine lv_aload_n hx hb dX7_row_63 rfl (lv_at hl 2 rfl) ?_
          refine lv_iload hx hb dX7_row_64 (lv_at hl 0 rfl) ?_
          refine zc_vi (As := [.int (iI x5_27)]) (rest := []) (w2 := fun u_67 => W7 G a s) (c_X7_before l G a s x5_27 r_s rx5_27 b1 b53) ⟨hx, hb, hml, hown, hts⟩ (cwV 1 hts gX7_row_X7_before rfl rfl rfl hdX7_before ⟨Nat.le_of_ble_eq_true rfl, Nat.le_of_ble_eq_true rfl⟩) hK hP hD hS hA (q0 := 0) rfl rfl [0, 1, 2, 3, 4, 5, 6] [] [0, 1, 2, 3, 4, 5, 6] rfl rfl rfl rfl (by decide) (fun _ => rfl) rfl rfl hl.1 rfl (Nat.le_of_ble_eq_true rfl) dX7_row_66 ⟨Nat.zero_le _, Nat.zero_le _⟩ (fun z68 u_67 H locs hw hP hD hS => ?_)
          obtain ⟨rfl, r69⟩ := hw
          have hP : va_P G.1 vwCl (W7 G a s) H := hP
          have hD : va_D A (W7 G a s) := hD
          refine lv_iload_n hx hb dX7_row_69 rfl (lv_at hl 4 rfl) ?_
          refine zr_icmp_ne (tgt := 78) (x := sumI (fun r => pz ((s.2 0) (250 + r) = (s.2 0) (250 + x5_27) ∧ ((s.2 0) (10 + r) < (s.2 0) (10 + x5_27) ∨ (s.2 0) (10 + r) = (s.2 0) (10 + x5_27) ∧ r < x5_27))) ((s.2 0) 3).toNat) (y := index) hx hb r69 r_index dX7_row_70 (by decide) (fun c70 => ?_) (fun c70 => ?_)
          · have h73 := h66.2 c70
            refine lv_iload hx hb dX7_row_78 (lv_at hl 1 rfl) ?_
            refine lv_istore (lv' := [(4, .int (iI x4_27)), (5, .int (iI x5_27)), (0, .ref (a 0)), (1, .int (iI run)), (2, .int (iI index)), (3, .int (iI part))]) hx hb dX7_row_80 hl (by decide) rfl (fun ls hl => ?_)
            obtain ⟨r74, h75⟩ := h73
            refine zr_iinc (x := x5_27) (lv' := [(5, .int (iI (x5_27 + 1))), (4, .int (iI x4_27)), (0, .ref (a 0)), (1, .int (iI run)), (2, .int (iI index)), (3, .int (iI part))]) hx hb dX7_row_82 hl (k := 1) rfl (by decide) rfl (fun ls hl => ?_)
            refine lv_goto (tgt := 37) hx hb dX7_row_85 (by decide) ?_
            obtain ⟨h76, h77⟩ := h75
            exact ih32 ((x4_27, x5_27 + 1)) _ _ _ ⟨⟨rx4_27, r74⟩, h76⟩ h77 hP hD hS (lv_sub hl [0, 1, 2, 3, 4, 5] rfl)
          · have h78 := h66.1 c70
            refine lv_iload hx hb dX7_row_73 (lv_at hl 0 rfl) ?_
            refine lv_goto (tgt := 80) hx hb dX7_row_75 (by decide) ?_
            refine lv_istore (lv' := [(4, .int (iI x5_27)), (5, .int (iI x5_27)), (0, .ref (a 0)), (1, .int (iI run)), (2, .int (iI index)), (3, .int (iI part))]) hx hb dX7_row_80 hl (by decide) rfl (fun ls hl => ?_)
            obtain ⟨r79, h80⟩ := h78
            refine zr_iinc (x := x5_27) (lv' := [(5, .int (iI (x5_27 + 1))), (4, .int (iI x5_27)), (0, .ref (a 0)), (1, .int (iI run)), (2, .int (iI index)), (3, .int (iI part))]) hx hb dX7_row_82 hl (k := 1) rfl (by decide) rfl (fun ls hl => ?_)
            refine lv_goto (tgt := 37) hx hb dX7_row_85 (by decide) ?_
            obtain ⟨h81, h82⟩ := h80
            exact ih32 ((x5_27, x5_27 + 1)) _ _ _ ⟨⟨rx5_27, r79⟩, h81⟩ h82 hP hD hS (lv_sub hl [0, 1, 2, 3, 4, 5] rfl)
    · have h83 := h19.2 c23
      refine lv_iconst (v := iI (-1)) hx hb dX7_row_28 rfl ?_
      exact zr_iret (z := (-1)) hx hb hr hlocks hK () hP hD hS dX7_row_29 ⟨rg_m1, h83⟩
theorem c_X7_row (l : Launch) (G : ZG) (a : Nat → Nat) (s : SS) (run : Int) (index : Int) (part : Int)  (r_s : RG s) (r_run : rg run) (r_index : rg index) (r_part : rg part) (p0 : Vz (s.2 0)) (p1 : Bd (s.2 0) 50000) (p2 : 0 ≤ (s.1 2) ∧ (s.1 2) ≤ 4) (p3 : ∀ run index, 0 ≤ run → run ≤ (s.2 0) 4 - 1 → 0 ≤ index → index ≤ rowsAt (s.2 0) (10 + 2 * run) - 1 → ∃ r, 0 ≤ r ∧ r < (s.2 0) 3 ∧ (s.2 0) (250 + r) = 10 + 2 * run ∧ befZ (s.2 0) r = index) : ZI l G yX7_row wsX7_row 3 65 [.ref (a 0), .int (iI run), .int (iI index), .int (iI part)] (W7 G a s) (fun _ : Unit => W7 G a s) (fun (z : Int) (_ : Unit) => z = (an_row (s.2 0) run index part) ∧ rg z) := by
  refine ZI.fn (w1 := fun u : Unit => W7 G a s) (fun z u hq => ?_) (c0_X7_row l G a s run index part (fun z => z = (an_row (s.2 0) run index part)) r_s r_run r_index r_part (sp_X7_row s run index part r_s r_run r_index r_part p0 p1 p2 p3))
  obtain ⟨rz, ez⟩ := hq
  exact ⟨rfl, ⟨ez, rz⟩⟩
theorem imX7_grown_X7 : ∀ w ∈ wsX70, w ∈ wsX7_grown := fun _ h => (List.mem_cons_of_mem _ (List.mem_append_right _ h))
theorem hdX7_grown : yX7_grown.cls = RX7 ∧ yX7_grown.cls ≠ "java/lang/invoke/MethodHandle" ∧ yX7_grown.cls ≠ "java/lang/invoke/VarHandle" ∧ (parseMethodDescriptor yX7_grown.desc).map (fun d => d.parameters.length) = some 2 := by decide +kernel
set_option maxRecDepth 100000 in
set_option maxHeartbeats 4000000 in
theorem c0_X7_grown (l : Launch) (G : ZG) (a : Nat → Nat) (s : SS) (size : Int) (what : Int) (P : Int → SS → Prop) (r_s : RG s) (r_size : rg size) (r_what : rg what) (hwp : wp_X7_grown s size what P) : ZI l G yX7_grown wsX7_grown 6 135 [.ref (a 0), .int (iI size), .int (iI what)] (W7 G a s) (fun u : SS => W7 G a u) (fun (z : Int) (u : SS) => rg z ∧ RG u ∧ P z u) := by
  unfold wp_X7_grown at hwp
  refine zm_i (cc := cX7_grown) (maxL := 5) (ret := some .int) (own := RX7) (lvs := [(0, .ref (a 0)), (1, .int (iI size)), (2, .int (iI what))]) (by decide) rfl rfl (Nat.le_of_ble_eq_true rfl) rfl ?_
  intro p e sT m args below meth c ls A hx hb hr hml hown hts hlocks hK hP hD hS hA hl
  have k1 := hts (.fieldLink RX7 19 "GrantedSortModel" "aside" "[I") (List.mem_of_getElem? (i := 1) rfl)
  have k2 := hts (.fieldLink RX7 7 "GrantedSortModel" "z" "[I") (List.mem_of_getElem? (i := 2) rfl)
  refine lv_iconst (v := iI 0) hx hb dX7_grown_0 rfl ?_
  refine lv_istore_n (lv' := [(3, .int (iI 0)), (0, .ref (a 0)), (1, .int (iI size)), (2, .int (iI what))]) hx hb dX7_grown_1 rfl hl (by decide) rfl (fun ls hl => ?_)
  obtain ⟨I2, μ3, h4, h5⟩ := hwp
  refine zr_loop (G := G) (σ := Int × SS) (fun x_1 => (rg x_1.1 ∧ RG x_1.2) ∧ I2 x_1.1 x_1.2) (fun x_1 => μ3 x_1.1 x_1.2) (fun x_1 => W7 G a x_1.2) (fun x_1 => [(3, .int (iI x_1.1)), (0, .ref (a 0)), (1, .int (iI size)), (2, .int (iI what))]) ((0, s)) ⟨⟨rg_0, r_s⟩, h4⟩ hP hD hS (lv_sub hl [0, 1, 2, 3] rfl) ?_
  clear hP hD hS hl
  intro x_1 H locs ls ih6 h7 hP hD hS hl
  obtain ⟨x3_1, s0_1⟩ := x_1
  obtain ⟨⟨rx3_1, rs0_1⟩, h7⟩ := h7
  have h8 := h5 x3_1 s0_1 rx3_1 rs0_1 h7
  have hP : va_P G.1 vwCl (W7 G a s0_1) H := hP
  have hD : va_D A (W7 G a s0_1) := hD
  have hl : lv_has ls 5 [(3, .int (iI x3_1)), (0, .ref (a 0)), (1, .int (iI size)), (2, .int (iI what))] := hl
  refine lv_iload_n hx hb dX7_grown_2 rfl (lv_at hl 0 rfl) ?_
  refine lv_sipush (v := iI 370) hx hb dX7_grown_3 (by decide) ?_
  refine zr_icmp_ge (tgt := 27) (x := x3_1) (y := 370) hx hb rx3_1 rg_370 dX7_grown_6 (by decide) (fun c9 => ?_) (fun c9 => ?_)
  · have h12 := h8.2 c9
    refine lv_aload_n hx hb dX7_grown_27 rfl (lv_at hl 1 rfl) ?_
    refine lv_iload_n hx hb dX7_grown_28 rfl (lv_at hl 2 rfl) ?_
    obtain ⟨b13, h14⟩ := h12
    obtain ⟨b15, h16⟩ := h14
    obtain ⟨b17, h18⟩ := h16
    obtain ⟨b19, h20⟩ := h18
    obtain ⟨b21, h22⟩ := h20
    refine zc_vi (As := [.int (iI size)]) (rest := []) (w2 := fun u_24 => W7 G a (sA s0_1 0 (graZ (s0_1.2 0) size))) (c_X7_grants l G a s0_1 size rs0_1 r_size b13 b15 b17 b19 b21) ⟨hx, hb, hml, hown, hts⟩ (cwV 1 hts gX7_grown_X7_grants rfl rfl rfl hdX7_grants ⟨Nat.le_of_ble_eq_true rfl, Nat.le_of_ble_eq_true rfl⟩) hK hP hD hS hA (q0 := 0) rfl rfl [0, 1, 2, 3, 4, 5, 6] [] [0, 1, 2, 3, 4, 5, 6] rfl rfl rfl rfl (by decide) (fun _ => rfl) rfl rfl hl.1 rfl (Nat.le_of_ble_eq_true rfl) dX7_grown_29 ⟨Nat.zero_le _, Nat.zero_le _⟩ (fun z25 u_24 H locs hw hP hD hS => ?_)
    obtain ⟨rfl, r26, r23⟩ := hw
    have hP : va_P G.1 vwCl (W7 G a (sA s0_1 0 (graZ (s0_1.2 0) size))) H := hP
    have hD : va_D A (W7 G a (sA s0_1 0 (graZ (s0_1.2 0) size))) := hD
    refine lv_pop hx hb dX7_grown_32 rfl ?_
    refine lv_bipush (v := iI (-3)) hx hb dX7_grown_33 (by decide) ?_
    refine lv_istore_n (lv' := [(3, .int (iI (-3))), (0, .ref (a 0)), (1, .int (iI size)), (2, .int (iI what))]) hx hb dX7_grown_35 rfl hl (by decide) rfl (fun ls hl => ?_)
    refine lv_aload_n hx hb dX7_grown_36 rfl (lv_at hl 1 rfl) ?_
    obtain ⟨b27, h28⟩ := h22
    obtain ⟨b29, h30⟩ := h28
    refine zc_vi (As := []) (rest := []) (w2 := fun u_31 => W7 G a (sA s0_1 0 (graZ (s0_1.2 0) size))) (c_X7_canRun l G a (sA s0_1 0 (graZ (s0_1.2 0) size)) (RG_A rs0_1 (r23.2 0)) b27 b29) ⟨hx, hb, hml, hown, hts⟩ (cwV 0 hts gX7_grown_X7_canRun rfl rfl rfl hdX7_canRun ⟨Nat.le_of_ble_eq_true rfl, Nat.le_of_ble_eq_true rfl⟩) hK hP hD hS hA (q0 := 0) rfl rfl [0, 1, 2, 3, 4, 5, 6] [] [0, 1, 2, 3, 4, 5, 6] rfl rfl rfl rfl (by decide) (fun _ => rfl) rfl rfl hl.1 rfl (Nat.le_of_ble_eq_true rfl) dX7_grown_37 ⟨Nat.zero_le _, Nat.zero_le _⟩ (fun z32 u_31 H locs hw hP hD hS => ?_)
    obtain ⟨rfl, r33⟩ := hw
    have hP : va_P G.1 vwCl (W7 G a (sA s0_1 0 (graZ (s0_1.2 0) size))) H := hP
    have hD : va_D A (W7 G a (sA s0_1 0 (graZ (s0_1.2 0) size))) := hD
    refine zr_ifB_eq (tgt := 62)  hx hb dX7_grown_40 (by decide) (fun c34 => ?_) (fun c34 => ?_)
    · have h37 := h30.2 c34
      refine lv_iconst (v := iI 0) hx hb dX7_grown_62 rfl ?_
      refine lv_istore (lv' := [(4, .int (iI 0)), (3, .int (iI (-3))), (0, .ref (a 0)), (1, .int (iI size)), (2, .int (iI what))]) hx hb dX7_grown_63 hl (by decide) rfl (fun ls hl => ?_)
      obtain ⟨I39, μ40, h41, h42⟩ := h37
      refine zr_loop (G := G) (σ := Int × SS) (fun x_38 => (rg x_38.1 ∧ RG x_38.2) ∧ I39 x_38.1 x_38.2) (fun x_38 => μ40 x_38.1 x_38.2) (fun x_38 => W7 G a x_38.2) (fun x_38 => [(4, .int (iI x_38.1)), (3, .int (iI (-3))), (0, .ref (a 0))]) ((0, sA s0_1 0 (graZ (s0_1.2 0) size))) ⟨⟨rg_0, (RG_A rs0_1 (r23.2 0))⟩, h41⟩ hP hD hS (lv_sub hl [0, 1, 2] rfl) ?_
      clear hP hD hS hl
      intro x_38 H locs ls ih43 h44 hP hD hS hl
      obtain ⟨x4_38, s0_38⟩ := x_38
      obtain ⟨⟨rx4_38, rs0_38⟩, h44⟩ := h44
      have h45 := h42 x4_38 s0_38 rx4_38 rs0_38 h44
      have hP : va_P G.1 vwCl (W7 G a s0_38) H := hP
      have hD : va_D A (W7 G a s0_38) := hD
      have hl : lv_has ls 5 [(4, .int (iI x4_38)), (3, .int (iI (-3))), (0, .ref (a 0))] := hl
      refine lv_iload hx hb dX7_grown_65 (lv_at hl 0 rfl) ?_
      refine lv_sipush (v := iI 370) hx hb dX7_grown_67 (by decide) ?_
      refine zr_icmp_ge (tgt := 93) (x := x4_38) (y := 370) hx hb rx4_38 rg_370 dX7_grown_70 (by decide) (fun c46 => ?_) (fun c46 => ?_)
      · have h49 := h45.2 c46
        refine lv_iload_n hx hb dX7_grown_93 rfl (lv_at hl 1 rfl) ?_
        exact zr_iret (z := (-3)) hx hb hr hlocks hK (s0_38) hP hD hS dX7_grown_94 ⟨rg_m3, rs0_38, h49⟩
      · have h50 := h45.1 c46
        refine lv_aload_n hx hb dX7_grown_73 rfl (lv_at hl 2 rfl) ?_
        refine va_get (v := .ref (a 1)) (ci := 7) (C := RX7) (T := TX7) (N := 12) hx hb hts imX7_grown_X7 hown hK hP 0 rfl rfl 0 (by decide) k2 (fun _ h9 => h9) rfl dX7_grown_74 ?_
        refine lv_iload hx hb dX7_grown_77 (lv_at hl 0 rfl) ?_
        refine lv_aload_n hx hb dX7_grown_79 rfl (lv_at hl 2 rfl) ?_
        refine va_get (v := .ref (a 4)) (ci := 7) (C := RX7) (T := TX7) (N := 12) hx hb hts imX7_grown_X7 hown hK hP 0 rfl rfl 5 (by decide) k1 (fun _ h9 => h9) rfl dX7_grown_80 ?_
        refine lv_iload hx hb dX7_grown_83 (lv_at hl 0 rfl) ?_
        obtain ⟨b51, h52⟩ := h50
        refine zr_iald (n := 370) (f := (s0_38.2 5)) (i := x4_38) hx hb hK hP 4 rfl rx4_38 b51 dX7_grown_85 ?_
        refine zr_iast (n := 370) (f := (s0_38.2 0)) (i := x4_38) (x := (s0_38.2 5) x4_38) hx hb hK hP hD hS 1 rfl rx4_38 b51 dX7_grown_86 (fun H locs hP hD hS => ?_)
        have hP : va_P G.1 vwCl (W7 G a (sA s0_38 0 (uZ (s0_38.2 0) x4_38 ((s0_38.2 5) x4_38)))) H := hP
        have hD : va_D A (W7 G a (sA s0_38 0 (uZ (s0_38.2 0) x4_38 ((s0_38.2 5) x4_38)))) := hD
        obtain ⟨r53, h54⟩ := h52
        refine zr_iinc (x := x4_38) (lv' := [(4, .int (iI (x4_38 + 1))), (3, .int (iI (-3))), (0, .ref (a 0))]) hx hb dX7_grown_87 hl (k := 0) rfl (by decide) rfl (fun ls hl => ?_)
        refine lv_goto (tgt := 65) hx hb dX7_grown_90 (by decide) ?_
        obtain ⟨h55, h56⟩ := h54
        exact ih43 ((x4_38 + 1, sA s0_38 0 (uZ (s0_38.2 0) x4_38 ((s0_38.2 5) x4_38)))) _ _ _ ⟨⟨r53, (RG_A rs0_38 (rgA_u (i := x4_38) (rs0_38.2 0) ((rs0_38.2 5) x4_38)))⟩, h55⟩ h56 hP hD hS (lv_sub hl [0, 1, 2] rfl)
    · have h57 := h30.1 c34
      refine lv_aload_n hx hb dX7_grown_43 rfl (lv_at hl 1 rfl) ?_
      obtain ⟨b58, h59⟩ := h57
      obtain ⟨b60, h61⟩ := h59
      obtain ⟨b62, h63⟩ := h61
      refine zc_vi (As := []) (rest := []) (w2 := fun u_65 => W7 G a u_65) (c_X7_allSteps l G a (sA s0_1 0 (graZ (s0_1.2 0) size)) (RG_A rs0_1 (r23.2 0)) b58 b60 b62) ⟨hx, hb, hml, hown, hts⟩ (cwV 0 hts gX7_grown_X7_allSteps rfl rfl rfl hdX7_allSteps ⟨Nat.le_of_ble_eq_true rfl, Nat.le_of_ble_eq_true rfl⟩) hK hP hD hS hA (q0 := 0) rfl rfl [0, 1, 2, 3, 4, 5, 6] [] [0, 1, 2, 3, 4, 5, 6] rfl rfl rfl rfl (by decide) (fun _ => rfl) rfl rfl hl.1 rfl (Nat.le_of_ble_eq_true rfl) dX7_grown_44 ⟨Nat.zero_le _, Nat.zero_le _⟩ (fun z66 u_65 H locs hw hP hD hS => ?_)
      obtain ⟨u_s64, rfl⟩ : ∃ q, q = u_65 := ⟨_, rfl⟩
      obtain ⟨r68, ru_s64, h67⟩ := hw
      have h69 := h63 z66 u_s64 r68 ru_s64 h67
      have hP : va_P G.1 vwCl (W7 G a u_s64) H := hP
      have hD : va_D A (W7 G a u_s64) := hD
      refine lv_pop hx hb dX7_grown_47 rfl ?_
      refine lv_aload_n hx hb dX7_grown_48 rfl (lv_at hl 1 rfl) ?_
      refine va_get (v := .ref (a 1)) (ci := 7) (C := RX7) (T := TX7) (N := 12) hx hb hts imX7_grown_X7 hown hK hP 0 rfl rfl 0 (by decide) k2 (fun _ h9 => h9) rfl dX7_grown_49 ?_
      refine lv_iload_n hx hb dX7_grown_52 rfl (lv_at hl 3 rfl) ?_
      obtain ⟨b70, h71⟩ := h69
      refine zr_iald (n := 370) (f := (u_s64.2 0)) (i := what) hx hb hK hP 1 rfl r_what b70 dX7_grown_53 ?_
      refine lv_aload_n hx hb dX7_grown_54 rfl (lv_at hl 1 rfl) ?_
      refine va_get (v := .ref (a 4)) (ci := 7) (C := RX7) (T := TX7) (N := 12) hx hb hts imX7_grown_X7 hown hK hP 0 rfl rfl 5 (by decide) k1 (fun _ h9 => h9) rfl dX7_grown_55 ?_
      refine lv_iload_n hx hb dX7_grown_58 rfl (lv_at hl 3 rfl) ?_
      refine zr_iald (n := 370) (f := (u_s64.2 5)) (i := what) hx hb hK hP 4 rfl r_what b70 dX7_grown_59 ?_
      refine zr_isub (x := (u_s64.2 0) what) (y := (u_s64.2 5) what) hx hb dX7_grown_60 ?_
      obtain ⟨r72, h73⟩ := h71
      refine lv_istore_n (lv' := [(3, .int (iI (((u_s64.2 0) what) - ((u_s64.2 5) what)))), (0, .ref (a 0)), (1, .int (iI size)), (2, .int (iI what))]) hx hb dX7_grown_61 rfl hl (by decide) rfl (fun ls hl => ?_)
      refine lv_iconst (v := iI 0) hx hb dX7_grown_62 rfl ?_
      refine lv_istore (lv' := [(4, .int (iI 0)), (3, .int (iI (((u_s64.2 0) what) - ((u_s64.2 5) what)))), (0, .ref (a 0)), (1, .int (iI size)), (2, .int (iI what))]) hx hb dX7_grown_63 hl (by decide) rfl (fun ls hl => ?_)
      obtain ⟨I75, μ76, h77, h78⟩ := h73
      refine zr_loop (G := G) (σ := Int × SS) (fun x_74 => (rg x_74.1 ∧ RG x_74.2) ∧ I75 x_74.1 x_74.2) (fun x_74 => μ76 x_74.1 x_74.2) (fun x_74 => W7 G a x_74.2) (fun x_74 => [(4, .int (iI x_74.1)), (3, .int (iI (((u_s64.2 0) what) - ((u_s64.2 5) what)))), (0, .ref (a 0))]) ((0, u_s64)) ⟨⟨rg_0, ru_s64⟩, h77⟩ hP hD hS (lv_sub hl [0, 1, 2] rfl) ?_
      clear hP hD hS hl
      intro x_74 H locs ls ih79 h80 hP hD hS hl
      obtain ⟨x4_74, s0_74⟩ := x_74
      obtain ⟨⟨rx4_74, rs0_74⟩, h80⟩ := h80
      have h81 := h78 x4_74 s0_74 rx4_74 rs0_74 h80
      have hP : va_P G.1 vwCl (W7 G a s0_74) H := hP
      have hD : va_D A (W7 G a s0_74) := hD
      have hl : lv_has ls 5 [(4, .int (iI x4_74)), (3, .int (iI (((u_s64.2 0) what) - ((u_s64.2 5) what)))), (0, .ref (a 0))] := hl
      refine lv_iload hx hb dX7_grown_65 (lv_at hl 0 rfl) ?_
      refine lv_sipush (v := iI 370) hx hb dX7_grown_67 (by decide) ?_
      refine zr_icmp_ge (tgt := 93) (x := x4_74) (y := 370) hx hb rx4_74 rg_370 dX7_grown_70 (by decide) (fun c82 => ?_) (fun c82 => ?_)
      · have h85 := h81.2 c82
        refine lv_iload_n hx hb dX7_grown_93 rfl (lv_at hl 1 rfl) ?_
        exact zr_iret (z := ((u_s64.2 0) what) - ((u_s64.2 5) what)) hx hb hr hlocks hK (s0_74) hP hD hS dX7_grown_94 ⟨r72, rs0_74, h85⟩
      · have h86 := h81.1 c82
        refine lv_aload_n hx hb dX7_grown_73 rfl (lv_at hl 2 rfl) ?_
        refine va_get (v := .ref (a 1)) (ci := 7) (C := RX7) (T := TX7) (N := 12) hx hb hts imX7_grown_X7 hown hK hP 0 rfl rfl 0 (by decide) k2 (fun _ h9 => h9) rfl dX7_grown_74 ?_
        refine lv_iload hx hb dX7_grown_77 (lv_at hl 0 rfl) ?_
        refine lv_aload_n hx hb dX7_grown_79 rfl (lv_at hl 2 rfl) ?_
        refine va_get (v := .ref (a 4)) (ci := 7) (C := RX7) (T := TX7) (N := 12) hx hb hts imX7_grown_X7 hown hK hP 0 rfl rfl 5 (by decide) k1 (fun _ h9 => h9) rfl dX7_grown_80 ?_
        refine lv_iload hx hb dX7_grown_83 (lv_at hl 0 rfl) ?_
        obtain ⟨b87, h88⟩ := h86
        refine zr_iald (n := 370) (f := (s0_74.2 5)) (i := x4_74) hx hb hK hP 4 rfl rx4_74 b87 dX7_grown_85 ?_
        refine zr_iast (n := 370) (f := (s0_74.2 0)) (i := x4_74) (x := (s0_74.2 5) x4_74) hx hb hK hP hD hS 1 rfl rx4_74 b87 dX7_grown_86 (fun H locs hP hD hS => ?_)
        have hP : va_P G.1 vwCl (W7 G a (sA s0_74 0 (uZ (s0_74.2 0) x4_74 ((s0_74.2 5) x4_74)))) H := hP
        have hD : va_D A (W7 G a (sA s0_74 0 (uZ (s0_74.2 0) x4_74 ((s0_74.2 5) x4_74)))) := hD
        obtain ⟨r89, h90⟩ := h88
        refine zr_iinc (x := x4_74) (lv' := [(4, .int (iI (x4_74 + 1))), (3, .int (iI (((u_s64.2 0) what) - ((u_s64.2 5) what)))), (0, .ref (a 0))]) hx hb dX7_grown_87 hl (k := 0) rfl (by decide) rfl (fun ls hl => ?_)
        refine lv_goto (tgt := 65) hx hb dX7_grown_90 (by decide) ?_
        obtain ⟨h91, h92⟩ := h90
        exact ih79 ((x4_74 + 1, sA s0_74 0 (uZ (s0_74.2 0) x4_74 ((s0_74.2 5) x4_74)))) _ _ _ ⟨⟨r89, (RG_A rs0_74 (rgA_u (i := x4_74) (rs0_74.2 0) ((rs0_74.2 5) x4_74)))⟩, h91⟩ h92 hP hD hS (lv_sub hl [0, 1, 2] rfl)
  · have h93 := h8.1 c9
    refine lv_aload_n hx hb dX7_grown_9 rfl (lv_at hl 1 rfl) ?_
    refine va_get (v := .ref (a 4)) (ci := 7) (C := RX7) (T := TX7) (N := 12) hx hb hts imX7_grown_X7 hown hK hP 0 rfl rfl 5 (by decide) k1 (fun _ h9 => h9) rfl dX7_grown_10 ?_
    refine lv_iload_n hx hb dX7_grown_13 rfl (lv_at hl 0 rfl) ?_
    refine lv_aload_n hx hb dX7_grown_14 rfl (lv_at hl 1 rfl) ?_
    refine va_get (v := .ref (a 1)) (ci := 7) (C := RX7) (T := TX7) (N := 12) hx hb hts imX7_grown_X7 hown hK hP 0 rfl rfl 0 (by decide) k2 (fun _ h9 => h9) rfl dX7_grown_15 ?_
    refine lv_iload_n hx hb dX7_grown_18 rfl (lv_at hl 0 rfl) ?_
    obtain ⟨b94, h95⟩ := h93
    refine zr_iald (n := 370) (f := (s0_1.2 0)) (i := x3_1) hx hb hK hP 1 rfl rx3_1 b94 dX7_grown_19 ?_
    refine zr_iast (n := 370) (f := (s0_1.2 5)) (i := x3_1) (x := (s0_1.2 0) x3_1) hx hb hK hP hD hS 4 rfl rx3_1 b94 dX7_grown_20 (fun H locs hP hD hS => ?_)
    have hP : va_P G.1 vwCl (W7 G a (sA s0_1 5 (uZ (s0_1.2 5) x3_1 ((s0_1.2 0) x3_1)))) H := hP
    have hD : va_D A (W7 G a (sA s0_1 5 (uZ (s0_1.2 5) x3_1 ((s0_1.2 0) x3_1)))) := hD
    obtain ⟨r96, h97⟩ := h95
    refine zr_iinc (x := x3_1) (lv' := [(3, .int (iI (x3_1 + 1))), (0, .ref (a 0)), (1, .int (iI size)), (2, .int (iI what))]) hx hb dX7_grown_21 hl (k := 0) rfl (by decide) rfl (fun ls hl => ?_)
    refine lv_goto (tgt := 2) hx hb dX7_grown_24 (by decide) ?_
    obtain ⟨h98, h99⟩ := h97
    exact ih6 ((x3_1 + 1, sA s0_1 5 (uZ (s0_1.2 5) x3_1 ((s0_1.2 0) x3_1)))) _ _ _ ⟨⟨r96, (RG_A rs0_1 (rgA_u (i := x3_1) (rs0_1.2 5) ((rs0_1.2 0) x3_1)))⟩, h98⟩ h99 hP hD hS (lv_sub hl [0, 1, 2, 3] rfl)
theorem c_X7_grown (l : Launch) (G : ZG) (a : Nat → Nat) (s : SS) (size : Int) (what : Int)  (r_s : RG s) (r_size : rg size) (r_what : rg what) (p0 : Vz (s.2 0)) (p1 : Bd (s.2 0) 60000) (p2 : 0 ≤ (s.1 2) ∧ (s.1 2) ≤ 4) (p3 : 2 ≤ size ∧ size ≤ 20) (p4 : what = 7 ∨ what = 8) : ZI l G yX7_grown wsX7_grown 6 135 [.ref (a 0), .int (iI size), .int (iI what)] (W7 G a s) (fun u : SS => W7 G a u) (fun (zq : Int) (u : SS) => rg zq ∧ RG u ∧ ((∃ f : Int → Int, u = sA s 5 f) ∧ growZ (s.2 0) size what zq)) :=
  c0_X7_grown l G a s size what (fun r s' => (∃ f : Int → Int, s' = sA s 5 f) ∧ growZ (s.2 0) size what r) r_s r_size r_what (sp_X7_grown s size what  r_s r_size r_what p0 p1 p2 p3 p4)
theorem hdX7_costsWith : yX7_costsWith.cls = RX7 ∧ yX7_costsWith.cls ≠ "java/lang/invoke/MethodHandle" ∧ yX7_costsWith.cls ≠ "java/lang/invoke/VarHandle" ∧ (parseMethodDescriptor yX7_costsWith.desc).map (fun d => d.parameters.length) = some 1 := by decide +kernel
set_option maxRecDepth 100000 in
set_option maxHeartbeats 4000000 in
theorem c0_X7_costsWith (l : Launch) (G : ZG) (a : Nat → Nat) (s : SS) (size : Int) (P : Int → SS → Prop) (r_s : RG s) (r_size : rg size) (hwp : wp_X7_costsWith s size P) : ZI l G yX7_costsWith wsX7_costsWith 7 159 [.ref (a 0), .int (iI size)] (W7 G a s) (fun u : SS => W7 G a u) (fun (z : Int) (u : SS) => rg z ∧ RG u ∧ P z u) := by
  unfold wp_X7_costsWith at hwp
  refine zm_i (cc := cX7_costsWith) (maxL := 2) (ret := some .int) (own := RX7) (lvs := [(0, .ref (a 0)), (1, .int (iI size))]) (by decide) rfl rfl (Nat.le_of_ble_eq_true rfl) rfl ?_
  intro p e sT m args below meth c ls A hx hb hr hml hown hts hlocks hK hP hD hS hA hl
  refine lv_iload_n hx hb dX7_costsWith_0 rfl (lv_at hl 1 rfl) ?_
  refine zc_si (As := [.int (iI size)]) (rest := []) (c_X7_isSize l G size r_size) ⟨hx, hb, hml, hown, hts⟩ (va_cwS 1 hts gX7_costsWith_X7_isSize rfl rfl rfl hdX7_isSize ⟨Nat.le_of_ble_eq_true rfl, Nat.le_of_ble_eq_true rfl⟩) hK hP hD hS hA rfl hl.1 rfl (Nat.le_of_ble_eq_true rfl) dX7_costsWith_1 ⟨Nat.zero_le _, Nat.zero_le _⟩ (fun z2 H locs hw hP hD hS => ?_)
  obtain ⟨rfl, r3⟩ := hw
  have hP : va_P G.1 vwCl (W7 G a s) H := hP
  have hD : va_D A (W7 G a s) := hD
  refine zr_ifB_eq (tgt := 17)  hx hb dX7_costsWith_4 (by decide) (fun c4 => ?_) (fun c4 => ?_)
  · have h7 := hwp.2 c4
    refine lv_bipush (v := iI (-2)) hx hb dX7_costsWith_17 (by decide) ?_
    exact zr_iret (z := (-2)) hx hb hr hlocks hK (s) hP hD hS dX7_costsWith_19 ⟨rg_m2, r_s, h7⟩
  · have h8 := hwp.1 c4
    refine lv_aload_n hx hb dX7_costsWith_7 rfl (lv_at hl 0 rfl) ?_
    refine lv_iload_n hx hb dX7_costsWith_8 rfl (lv_at hl 1 rfl) ?_
    refine lv_bipush (v := iI 7) hx hb dX7_costsWith_9 (by decide) ?_
    obtain ⟨b9, h10⟩ := h8
    obtain ⟨b11, h12⟩ := h10
    obtain ⟨b13, h14⟩ := h12
    obtain ⟨b15, h16⟩ := h14
    obtain ⟨b17, h18⟩ := h16
    refine zc_vi (As := [.int (iI size), .int (iI 7)]) (rest := []) (w2 := fun u_20 => W7 G a u_20) (c_X7_grown l G a s size 7 r_s r_size rg_7 b9 b11 b13 b15 b17) ⟨hx, hb, hml, hown, hts⟩ (cwV 2 hts gX7_costsWith_X7_grown rfl rfl rfl hdX7_grown ⟨Nat.le_of_ble_eq_true rfl, Nat.le_of_ble_eq_true rfl⟩) hK hP hD hS hA (q0 := 0) rfl rfl [0, 1, 2, 3, 4, 5, 6] [] [0, 1, 2, 3, 4, 5, 6] rfl rfl rfl rfl (by decide) (fun _ => rfl) rfl rfl hl.1 rfl (Nat.le_of_ble_eq_true rfl) dX7_costsWith_11 ⟨Nat.zero_le _, Nat.zero_le _⟩ (fun z21 u_20 H locs hw hP hD hS => ?_)
    obtain ⟨u_s19, rfl⟩ : ∃ q, q = u_20 := ⟨_, rfl⟩
    obtain ⟨r23, ru_s19, h22⟩ := hw
    have h24 := h18 z21 u_s19 r23 ru_s19 h22
    have hP : va_P G.1 vwCl (W7 G a u_s19) H := hP
    have hD : va_D A (W7 G a u_s19) := hD
    refine lv_goto (tgt := 19) hx hb dX7_costsWith_14 (by decide) ?_
    exact zr_iret (z := z21) hx hb hr hlocks hK (u_s19) hP hD hS dX7_costsWith_19 ⟨r23, ru_s19, h24⟩
theorem c_X7_costsWith (l : Launch) (G : ZG) (a : Nat → Nat) (s : SS) (size : Int)  (r_s : RG s) (r_size : rg size) (p0 : Vz (s.2 0)) (p1 : Bd (s.2 0) 60000) (p2 : 0 ≤ (s.1 2) ∧ (s.1 2) ≤ 4) : ZI l G yX7_costsWith wsX7_costsWith 7 159 [.ref (a 0), .int (iI size)] (W7 G a s) (fun u : SS => W7 G a u) (fun (zq : Int) (u : SS) => rg zq ∧ RG u ∧ ((∃ f : Int → Int, u = sA s 5 f) ∧ (if 2 ≤ size ∧ size ≤ 20 then growZ (s.2 0) size 7 zq else zq = -2))) :=
  c0_X7_costsWith l G a s size (fun r s' => (∃ f : Int → Int, s' = sA s 5 f) ∧ (if 2 ≤ size ∧ size ≤ 20 then growZ (s.2 0) size 7 r else r = -2)) r_s r_size (sp_X7_costsWith s size  r_s r_size p0 p1 p2)
theorem hdX7_mergesWith : yX7_mergesWith.cls = RX7 ∧ yX7_mergesWith.cls ≠ "java/lang/invoke/MethodHandle" ∧ yX7_mergesWith.cls ≠ "java/lang/invoke/VarHandle" ∧ (parseMethodDescriptor yX7_mergesWith.desc).map (fun d => d.parameters.length) = some 1 := by decide +kernel
set_option maxRecDepth 100000 in
set_option maxHeartbeats 4000000 in
theorem c0_X7_mergesWith (l : Launch) (G : ZG) (a : Nat → Nat) (s : SS) (size : Int) (P : Int → SS → Prop) (r_s : RG s) (r_size : rg size) (hwp : wp_X7_mergesWith s size P) : ZI l G yX7_mergesWith wsX7_mergesWith 7 159 [.ref (a 0), .int (iI size)] (W7 G a s) (fun u : SS => W7 G a u) (fun (z : Int) (u : SS) => rg z ∧ RG u ∧ P z u) := by
  unfold wp_X7_mergesWith at hwp
  refine zm_i (cc := cX7_mergesWith) (maxL := 2) (ret := some .int) (own := RX7) (lvs := [(0, .ref (a 0)), (1, .int (iI size))]) (by decide) rfl rfl (Nat.le_of_ble_eq_true rfl) rfl ?_
  intro p e sT m args below meth c ls A hx hb hr hml hown hts hlocks hK hP hD hS hA hl
  refine lv_iload_n hx hb dX7_mergesWith_0 rfl (lv_at hl 1 rfl) ?_
  refine zc_si (As := [.int (iI size)]) (rest := []) (c_X7_isSize l G size r_size) ⟨hx, hb, hml, hown, hts⟩ (va_cwS 1 hts gX7_mergesWith_X7_isSize rfl rfl rfl hdX7_isSize ⟨Nat.le_of_ble_eq_true rfl, Nat.le_of_ble_eq_true rfl⟩) hK hP hD hS hA rfl hl.1 rfl (Nat.le_of_ble_eq_true rfl) dX7_mergesWith_1 ⟨Nat.zero_le _, Nat.zero_le _⟩ (fun z2 H locs hw hP hD hS => ?_)
  obtain ⟨rfl, r3⟩ := hw
  have hP : va_P G.1 vwCl (W7 G a s) H := hP
  have hD : va_D A (W7 G a s) := hD
  refine zr_ifB_eq (tgt := 17)  hx hb dX7_mergesWith_4 (by decide) (fun c4 => ?_) (fun c4 => ?_)
  · have h7 := hwp.2 c4
    refine lv_bipush (v := iI (-2)) hx hb dX7_mergesWith_17 (by decide) ?_
    exact zr_iret (z := (-2)) hx hb hr hlocks hK (s) hP hD hS dX7_mergesWith_19 ⟨rg_m2, r_s, h7⟩
  · have h8 := hwp.1 c4
    refine lv_aload_n hx hb dX7_mergesWith_7 rfl (lv_at hl 0 rfl) ?_
    refine lv_iload_n hx hb dX7_mergesWith_8 rfl (lv_at hl 1 rfl) ?_
    refine lv_bipush (v := iI 8) hx hb dX7_mergesWith_9 (by decide) ?_
    obtain ⟨b9, h10⟩ := h8
    obtain ⟨b11, h12⟩ := h10
    obtain ⟨b13, h14⟩ := h12
    obtain ⟨b15, h16⟩ := h14
    obtain ⟨b17, h18⟩ := h16
    refine zc_vi (As := [.int (iI size), .int (iI 8)]) (rest := []) (w2 := fun u_20 => W7 G a u_20) (c_X7_grown l G a s size 8 r_s r_size rg_8 b9 b11 b13 b15 b17) ⟨hx, hb, hml, hown, hts⟩ (cwV 2 hts gX7_mergesWith_X7_grown rfl rfl rfl hdX7_grown ⟨Nat.le_of_ble_eq_true rfl, Nat.le_of_ble_eq_true rfl⟩) hK hP hD hS hA (q0 := 0) rfl rfl [0, 1, 2, 3, 4, 5, 6] [] [0, 1, 2, 3, 4, 5, 6] rfl rfl rfl rfl (by decide) (fun _ => rfl) rfl rfl hl.1 rfl (Nat.le_of_ble_eq_true rfl) dX7_mergesWith_11 ⟨Nat.zero_le _, Nat.zero_le _⟩ (fun z21 u_20 H locs hw hP hD hS => ?_)
    obtain ⟨u_s19, rfl⟩ : ∃ q, q = u_20 := ⟨_, rfl⟩
    obtain ⟨r23, ru_s19, h22⟩ := hw
    have h24 := h18 z21 u_s19 r23 ru_s19 h22
    have hP : va_P G.1 vwCl (W7 G a u_s19) H := hP
    have hD : va_D A (W7 G a u_s19) := hD
    refine lv_goto (tgt := 19) hx hb dX7_mergesWith_14 (by decide) ?_
    exact zr_iret (z := z21) hx hb hr hlocks hK (u_s19) hP hD hS dX7_mergesWith_19 ⟨r23, ru_s19, h24⟩
theorem c_X7_mergesWith (l : Launch) (G : ZG) (a : Nat → Nat) (s : SS) (size : Int)  (r_s : RG s) (r_size : rg size) (p0 : Vz (s.2 0)) (p1 : Bd (s.2 0) 60000) (p2 : 0 ≤ (s.1 2) ∧ (s.1 2) ≤ 4) : ZI l G yX7_mergesWith wsX7_mergesWith 7 159 [.ref (a 0), .int (iI size)] (W7 G a s) (fun u : SS => W7 G a u) (fun (zq : Int) (u : SS) => rg zq ∧ RG u ∧ ((∃ f : Int → Int, u = sA s 5 f) ∧ (if 2 ≤ size ∧ size ≤ 20 then growZ (s.2 0) size 8 zq else zq = -2))) :=
  c0_X7_mergesWith l G a s size (fun r s' => (∃ f : Int → Int, s' = sA s 5 f) ∧ (if 2 ≤ size ∧ size ≤ 20 then growZ (s.2 0) size 8 r else r = -2)) r_s r_size (sp_X7_mergesWith s size  r_s r_size p0 p1 p2)
theorem hdX7_bestSize : yX7_bestSize.cls = RX7 ∧ yX7_bestSize.cls ≠ "java/lang/invoke/MethodHandle" ∧ yX7_bestSize.cls ≠ "java/lang/invoke/VarHandle" ∧ (parseMethodDescriptor yX7_bestSize.desc).map (fun d => d.parameters.length) = some 0 := by decide +kernel
set_option maxRecDepth 100000 in
set_option maxHeartbeats 4000000 in
theorem c0_X7_bestSize (l : Launch) (G : ZG) (a : Nat → Nat) (s : SS)  (P : Int → SS → Prop) (r_s : RG s)  (hwp : wp_X7_bestSize s P) : ZI l G yX7_bestSize wsX7_bestSize 7 159 [.ref (a 0)] (W7 G a s) (fun u : SS => W7 G a u) (fun (z : Int) (u : SS) => rg z ∧ RG u ∧ P z u) := by
  unfold wp_X7_bestSize at hwp
  refine zm_i (cc := cX7_bestSize) (maxL := 6) (ret := some .int) (own := RX7) (lvs := [(0, .ref (a 0))]) (by decide) rfl rfl (Nat.le_of_ble_eq_true rfl) rfl ?_
  intro p e sT m args below meth c ls A hx hb hr hml hown hts hlocks hK hP hD hS hA hl
  refine lv_bipush (v := iI (-6)) hx hb dX7_bestSize_0 (by decide) ?_
  refine lv_istore_n (lv' := [(1, .int (iI (-6))), (0, .ref (a 0))]) hx hb dX7_bestSize_2 rfl hl (by decide) rfl (fun ls hl => ?_)
  refine lv_iconst (v := iI 0) hx hb dX7_bestSize_3 rfl ?_
  refine lv_istore_n (lv' := [(2, .int (iI 0)), (1, .int (iI (-6))), (0, .ref (a 0))]) hx hb dX7_bestSize_4 rfl hl (by decide) rfl (fun ls hl => ?_)
  refine lv_iconst (v := iI 2) hx hb dX7_bestSize_5 rfl ?_
  refine lv_istore_n (lv' := [(3, .int (iI 2)), (2, .int (iI 0)), (1, .int (iI (-6))), (0, .ref (a 0))]) hx hb dX7_bestSize_6 rfl hl (by decide) rfl (fun ls hl => ?_)
  obtain ⟨I2, μ3, h4, h5⟩ := hwp
  refine zr_loop (G := G) (σ := Int × Int × Int × SS) (fun x_1 => (rg x_1.1 ∧ rg x_1.2.1 ∧ rg x_1.2.2.1 ∧ RG x_1.2.2.2) ∧ I2 x_1.1 x_1.2.1 x_1.2.2.1 x_1.2.2.2) (fun x_1 => μ3 x_1.1 x_1.2.1 x_1.2.2.1 x_1.2.2.2) (fun x_1 => W7 G a x_1.2.2.2) (fun x_1 => [(3, .int (iI x_1.2.2.1)), (2, .int (iI x_1.2.1)), (1, .int (iI x_1.1)), (0, .ref (a 0))]) (((-6), 0, 2, s)) ⟨⟨rg_m6, rg_0, rg_2, r_s⟩, h4⟩ hP hD hS (lv_sub hl [0, 1, 2, 3] rfl) ?_
  clear hP hD hS hl
  intro x_1 H locs ls ih6 h7 hP hD hS hl
  obtain ⟨x1_1, x2_1, x3_1, s0_1⟩ := x_1
  obtain ⟨⟨rx1_1, rx2_1, rx3_1, rs0_1⟩, h7⟩ := h7
  have h8 := h5 x1_1 x2_1 x3_1 s0_1 rx1_1 rx2_1 rx3_1 rs0_1 h7
  have hP : va_P G.1 vwCl (W7 G a s0_1) H := hP
  have hD : va_D A (W7 G a s0_1) := hD
  have hl : lv_has ls 6 [(3, .int (iI x3_1)), (2, .int (iI x2_1)), (1, .int (iI x1_1)), (0, .ref (a 0))] := hl
  refine lv_iload_n hx hb dX7_bestSize_7 rfl (lv_at hl 0 rfl) ?_
  refine lv_bipush (v := iI 20) hx hb dX7_bestSize_8 (by decide) ?_
  refine zr_icmp_gt (tgt := 75) (x := x3_1) (y := 20) hx hb rx3_1 rg_20 dX7_bestSize_10 (by decide) (fun c9 => ?_) (fun c9 => ?_)
  · have h12 := h8.1 c9
    refine lv_iload_n hx hb dX7_bestSize_75 rfl (lv_at hl 2 rfl) ?_
    exact zr_iret (z := x1_1) hx hb hr hlocks hK (s0_1) hP hD hS dX7_bestSize_76 ⟨rx1_1, rs0_1, h12⟩
  · have h13 := h8.2 c9
    refine lv_aload_n hx hb dX7_bestSize_13 rfl (lv_at hl 3 rfl) ?_
    refine lv_iload_n hx hb dX7_bestSize_14 rfl (lv_at hl 0 rfl) ?_
    refine lv_bipush (v := iI 7) hx hb dX7_bestSize_15 (by decide) ?_
    obtain ⟨b14, h15⟩ := h13
    obtain ⟨b16, h17⟩ := h15
    obtain ⟨b18, h19⟩ := h17
    obtain ⟨b20, h21⟩ := h19
    obtain ⟨b22, h23⟩ := h21
    refine zc_vi (As := [.int (iI x3_1), .int (iI 7)]) (rest := []) (w2 := fun u_25 => W7 G a u_25) (c_X7_grown l G a s0_1 x3_1 7 rs0_1 rx3_1 rg_7 b14 b16 b18 b20 b22) ⟨hx, hb, hml, hown, hts⟩ (cwV 2 hts gX7_bestSize_X7_grown rfl rfl rfl hdX7_grown ⟨Nat.le_of_ble_eq_true rfl, Nat.le_of_ble_eq_true rfl⟩) hK hP hD hS hA (q0 := 0) rfl rfl [0, 1, 2, 3, 4, 5, 6] [] [0, 1, 2, 3, 4, 5, 6] rfl rfl rfl rfl (by decide) (fun _ => rfl) rfl rfl hl.1 rfl (Nat.le_of_ble_eq_true rfl) dX7_bestSize_17 ⟨Nat.zero_le _, Nat.zero_le _⟩ (fun z26 u_25 H locs hw hP hD hS => ?_)
    obtain ⟨u_s24, rfl⟩ : ∃ q, q = u_25 := ⟨_, rfl⟩
    obtain ⟨r28, ru_s24, h27⟩ := hw
    have h29 := h23 z26 u_s24 r28 ru_s24 h27
    have hP : va_P G.1 vwCl (W7 G a u_s24) H := hP
    have hD : va_D A (W7 G a u_s24) := hD
    refine lv_istore (lv' := [(4, .int (iI z26)), (3, .int (iI x3_1)), (2, .int (iI x2_1)), (1, .int (iI x1_1)), (0, .ref (a 0))]) hx hb dX7_bestSize_20 hl (by decide) rfl (fun ls hl => ?_)
    refine lv_iload hx hb dX7_bestSize_22 (lv_at hl 0 rfl) ?_
    refine zr_if_lt (tgt := 43) (x := z26) hx hb r28 dX7_bestSize_24 (by decide) (fun c30 => ?_) (fun c30 => ?_)
    · have h33 := h29.1 c30
      refine lv_iconst (v := iI 0) hx hb dX7_bestSize_43 rfl ?_
      refine lv_istore (lv' := [(5, .int (iI 0)), (4, .int (iI z26)), (3, .int (iI x3_1)), (2, .int (iI x2_1)), (1, .int (iI x1_1)), (0, .ref (a 0))]) hx hb dX7_bestSize_44 hl (by decide) rfl (fun ls hl => ?_)
      refine lv_iload hx hb dX7_bestSize_46 (lv_at hl 0 rfl) ?_
      refine zr_if_eq (tgt := 55) (x := 0) hx hb rg_0 dX7_bestSize_48 (by decide) (fun _ => ?_) (fun c => absurd (by decide) c)
      refine lv_iload_n hx hb dX7_bestSize_55 rfl (lv_at hl 4 rfl) ?_
      refine lv_istore_n (lv' := [(1, .int (iI x1_1)), (5, .int (iI 0)), (4, .int (iI z26)), (3, .int (iI x3_1)), (2, .int (iI x2_1)), (0, .ref (a 0))]) hx hb dX7_bestSize_56 rfl hl (by decide) rfl (fun ls hl => ?_)
      refine lv_iload hx hb dX7_bestSize_57 (lv_at hl 1 rfl) ?_
      refine zr_if_eq (tgt := 67) (x := 0) hx hb rg_0 dX7_bestSize_59 (by decide) (fun _ => ?_) (fun c => absurd (by decide) c)
      refine lv_iload_n hx hb dX7_bestSize_67 rfl (lv_at hl 4 rfl) ?_
      refine lv_istore_n (lv' := [(2, .int (iI x2_1)), (1, .int (iI x1_1)), (5, .int (iI 0)), (4, .int (iI z26)), (3, .int (iI x3_1)), (0, .ref (a 0))]) hx hb dX7_bestSize_68 rfl hl (by decide) rfl (fun ls hl => ?_)
      obtain ⟨r34, h35⟩ := h33
      refine zr_iinc (x := x3_1) (lv' := [(3, .int (iI (x3_1 + 1))), (2, .int (iI x2_1)), (1, .int (iI x1_1)), (5, .int (iI 0)), (4, .int (iI z26)), (0, .ref (a 0))]) hx hb dX7_bestSize_69 hl (k := 4) rfl (by decide) rfl (fun ls hl => ?_)
      refine lv_goto (tgt := 7) hx hb dX7_bestSize_72 (by decide) ?_
      obtain ⟨h36, h37⟩ := h35
      exact ih6 ((x1_1, x2_1, x3_1 + 1, u_s24)) _ _ _ ⟨⟨rx1_1, rx2_1, r34, ru_s24⟩, h36⟩ h37 hP hD hS (lv_sub hl [0, 1, 2, 5] rfl)
    · have h38 := h29.2 c30
      refine lv_iload_n hx hb dX7_bestSize_27 rfl (lv_at hl 3 rfl) ?_
      refine lv_bipush (v := iI (-6)) hx hb dX7_bestSize_28 (by decide) ?_
      refine zr_icmp_eq (tgt := 39) (x := x1_1) (y := (-6)) hx hb rx1_1 rg_m6 dX7_bestSize_30 (by decide) (fun c39 => ?_) (fun c39 => ?_)
      · have h42 := h38.1 c39
        refine lv_iconst (v := iI 1) hx hb dX7_bestSize_39 rfl ?_
        refine lv_goto (tgt := 44) hx hb dX7_bestSize_40 (by decide) ?_
        refine lv_istore (lv' := [(5, .int (iI 1)), (4, .int (iI z26)), (3, .int (iI x3_1)), (2, .int (iI x2_1)), (1, .int (iI x1_1)), (0, .ref (a 0))]) hx hb dX7_bestSize_44 hl (by decide) rfl (fun ls hl => ?_)
        refine lv_iload hx hb dX7_bestSize_46 (lv_at hl 0 rfl) ?_
        refine zr_if_eq (tgt := 55) (x := 1) hx hb rg_1 dX7_bestSize_48 (by decide) (fun c => absurd c (by decide)) (fun _ => ?_)
        refine lv_iload_n hx hb dX7_bestSize_51 rfl (lv_at hl 2 rfl) ?_
        refine lv_goto (tgt := 56) hx hb dX7_bestSize_52 (by decide) ?_
        refine lv_istore_n (lv' := [(1, .int (iI x3_1)), (5, .int (iI 1)), (4, .int (iI z26)), (3, .int (iI x3_1)), (2, .int (iI x2_1)), (0, .ref (a 0))]) hx hb dX7_bestSize_56 rfl hl (by decide) rfl (fun ls hl => ?_)
        refine lv_iload hx hb dX7_bestSize_57 (lv_at hl 1 rfl) ?_
        refine zr_if_eq (tgt := 67) (x := 1) hx hb rg_1 dX7_bestSize_59 (by decide) (fun c => absurd c (by decide)) (fun _ => ?_)
        refine lv_iload hx hb dX7_bestSize_62 (lv_at hl 2 rfl) ?_
        refine lv_goto (tgt := 68) hx hb dX7_bestSize_64 (by decide) ?_
        refine lv_istore_n (lv' := [(2, .int (iI z26)), (1, .int (iI x3_1)), (5, .int (iI 1)), (4, .int (iI z26)), (3, .int (iI x3_1)), (0, .ref (a 0))]) hx hb dX7_bestSize_68 rfl hl (by decide) rfl (fun ls hl => ?_)
        obtain ⟨r43, h44⟩ := h42
        refine zr_iinc (x := x3_1) (lv' := [(3, .int (iI (x3_1 + 1))), (2, .int (iI z26)), (1, .int (iI x3_1)), (5, .int (iI 1)), (4, .int (iI z26)), (0, .ref (a 0))]) hx hb dX7_bestSize_69 hl (k := 4) rfl (by decide) rfl (fun ls hl => ?_)
        refine lv_goto (tgt := 7) hx hb dX7_bestSize_72 (by decide) ?_
        obtain ⟨h45, h46⟩ := h44
        exact ih6 ((x3_1, z26, x3_1 + 1, u_s24)) _ _ _ ⟨⟨rx3_1, r28, r43, ru_s24⟩, h45⟩ h46 hP hD hS (lv_sub hl [0, 1, 2, 5] rfl)
      · have h47 := h38.2 c39
        refine lv_iload hx hb dX7_bestSize_33 (lv_at hl 0 rfl) ?_
        refine lv_iload_n hx hb dX7_bestSize_35 rfl (lv_at hl 2 rfl) ?_
        refine zr_icmp_ge (tgt := 43) (x := z26) (y := x2_1) hx hb r28 rx2_1 dX7_bestSize_36 (by decide) (fun c48 => ?_) (fun c48 => ?_)
        · have h51 := h47.2 c48
          refine lv_iconst (v := iI 0) hx hb dX7_bestSize_43 rfl ?_
          refine lv_istore (lv' := [(5, .int (iI 0)), (4, .int (iI z26)), (3, .int (iI x3_1)), (2, .int (iI x2_1)), (1, .int (iI x1_1)), (0, .ref (a 0))]) hx hb dX7_bestSize_44 hl (by decide) rfl (fun ls hl => ?_)
          refine lv_iload hx hb dX7_bestSize_46 (lv_at hl 0 rfl) ?_
          refine zr_if_eq (tgt := 55) (x := 0) hx hb rg_0 dX7_bestSize_48 (by decide) (fun _ => ?_) (fun c => absurd (by decide) c)
          refine lv_iload_n hx hb dX7_bestSize_55 rfl (lv_at hl 4 rfl) ?_
          refine lv_istore_n (lv' := [(1, .int (iI x1_1)), (5, .int (iI 0)), (4, .int (iI z26)), (3, .int (iI x3_1)), (2, .int (iI x2_1)), (0, .ref (a 0))]) hx hb dX7_bestSize_56 rfl hl (by decide) rfl (fun ls hl => ?_)
          refine lv_iload hx hb dX7_bestSize_57 (lv_at hl 1 rfl) ?_
          refine zr_if_eq (tgt := 67) (x := 0) hx hb rg_0 dX7_bestSize_59 (by decide) (fun _ => ?_) (fun c => absurd (by decide) c)
          refine lv_iload_n hx hb dX7_bestSize_67 rfl (lv_at hl 4 rfl) ?_
          refine lv_istore_n (lv' := [(2, .int (iI x2_1)), (1, .int (iI x1_1)), (5, .int (iI 0)), (4, .int (iI z26)), (3, .int (iI x3_1)), (0, .ref (a 0))]) hx hb dX7_bestSize_68 rfl hl (by decide) rfl (fun ls hl => ?_)
          obtain ⟨r52, h53⟩ := h51
          refine zr_iinc (x := x3_1) (lv' := [(3, .int (iI (x3_1 + 1))), (2, .int (iI x2_1)), (1, .int (iI x1_1)), (5, .int (iI 0)), (4, .int (iI z26)), (0, .ref (a 0))]) hx hb dX7_bestSize_69 hl (k := 4) rfl (by decide) rfl (fun ls hl => ?_)
          refine lv_goto (tgt := 7) hx hb dX7_bestSize_72 (by decide) ?_
          obtain ⟨h54, h55⟩ := h53
          exact ih6 ((x1_1, x2_1, x3_1 + 1, u_s24)) _ _ _ ⟨⟨rx1_1, rx2_1, r52, ru_s24⟩, h54⟩ h55 hP hD hS (lv_sub hl [0, 1, 2, 5] rfl)
        · have h56 := h47.1 c48
          refine lv_iconst (v := iI 1) hx hb dX7_bestSize_39 rfl ?_
          refine lv_goto (tgt := 44) hx hb dX7_bestSize_40 (by decide) ?_
          refine lv_istore (lv' := [(5, .int (iI 1)), (4, .int (iI z26)), (3, .int (iI x3_1)), (2, .int (iI x2_1)), (1, .int (iI x1_1)), (0, .ref (a 0))]) hx hb dX7_bestSize_44 hl (by decide) rfl (fun ls hl => ?_)
          refine lv_iload hx hb dX7_bestSize_46 (lv_at hl 0 rfl) ?_
          refine zr_if_eq (tgt := 55) (x := 1) hx hb rg_1 dX7_bestSize_48 (by decide) (fun c => absurd c (by decide)) (fun _ => ?_)
          refine lv_iload_n hx hb dX7_bestSize_51 rfl (lv_at hl 2 rfl) ?_
          refine lv_goto (tgt := 56) hx hb dX7_bestSize_52 (by decide) ?_
          refine lv_istore_n (lv' := [(1, .int (iI x3_1)), (5, .int (iI 1)), (4, .int (iI z26)), (3, .int (iI x3_1)), (2, .int (iI x2_1)), (0, .ref (a 0))]) hx hb dX7_bestSize_56 rfl hl (by decide) rfl (fun ls hl => ?_)
          refine lv_iload hx hb dX7_bestSize_57 (lv_at hl 1 rfl) ?_
          refine zr_if_eq (tgt := 67) (x := 1) hx hb rg_1 dX7_bestSize_59 (by decide) (fun c => absurd c (by decide)) (fun _ => ?_)
          refine lv_iload hx hb dX7_bestSize_62 (lv_at hl 2 rfl) ?_
          refine lv_goto (tgt := 68) hx hb dX7_bestSize_64 (by decide) ?_
          refine lv_istore_n (lv' := [(2, .int (iI z26)), (1, .int (iI x3_1)), (5, .int (iI 1)), (4, .int (iI z26)), (3, .int (iI x3_1)), (0, .ref (a 0))]) hx hb dX7_bestSize_68 rfl hl (by decide) rfl (fun ls hl => ?_)
          obtain ⟨r57, h58⟩ := h56
          refine zr_iinc (x := x3_1) (lv' := [(3, .int (iI (x3_1 + 1))), (2, .int (iI z26)), (1, .int (iI x3_1)), (5, .int (iI 1)), (4, .int (iI z26)), (0, .ref (a 0))]) hx hb dX7_bestSize_69 hl (k := 4) rfl (by decide) rfl (fun ls hl => ?_)
          refine lv_goto (tgt := 7) hx hb dX7_bestSize_72 (by decide) ?_
          obtain ⟨h59, h60⟩ := h58
          exact ih6 ((x3_1, z26, x3_1 + 1, u_s24)) _ _ _ ⟨⟨rx3_1, r28, r57, ru_s24⟩, h59⟩ h60 hP hD hS (lv_sub hl [0, 1, 2, 5] rfl)
theorem c_X7_bestSize (l : Launch) (G : ZG) (a : Nat → Nat) (s : SS)   (r_s : RG s)  (p0 : Vz (s.2 0)) (p1 : Bd (s.2 0) 60000) (p2 : 0 ≤ (s.1 2) ∧ (s.1 2) ≤ 4) : ZI l G yX7_bestSize wsX7_bestSize 7 159 [.ref (a 0)] (W7 G a s) (fun u : SS => W7 G a u) (fun (zq : Int) (u : SS) => rg zq ∧ RG u ∧ ((∃ f : Int → Int, u = sA s 5 f) ∧ ∃ c : Int → Int, (∀ k, 2 ≤ k → k ≤ 20 → growZ (s.2 0) k 7 (c k)) ∧ zq = bsF c 19)) :=
  c0_X7_bestSize l G a s (fun r s' => (∃ f : Int → Int, s' = sA s 5 f) ∧ ∃ c : Int → Int, (∀ k, 2 ≤ k → k ≤ 20 → growZ (s.2 0) k 7 (c k)) ∧ r = bsF c 19) r_s  (sp_X7_bestSize s  r_s  p0 p1 p2)
