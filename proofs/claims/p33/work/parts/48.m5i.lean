theorem hdX5_makeSteps : yX5_makeSteps.cls = RX5 ∧ yX5_makeSteps.cls ≠ "java/lang/invoke/MethodHandle" ∧ yX5_makeSteps.cls ≠ "java/lang/invoke/VarHandle" ∧ (parseMethodDescriptor yX5_makeSteps.desc).map (fun d => d.parameters.length) = some 1 := by decide +kernel
set_option maxRecDepth 100000 in
set_option maxHeartbeats 4000000 in
theorem c0_X5_makeSteps (l : Launch) (G : ZG) (a : Nat → Nat) (s : SS) (most : Int) (P : Int → SS → Prop) (r_s : RG s) (r_most : rg most) (hwp : wp_X5_makeSteps s most P) : ZI l G yX5_makeSteps wsX5_makeSteps 3 84 [.ref (a 0), .int (iI most)] (W5 G a s) (fun u : SS => W5 G a u) (fun (z : Int) (u : SS) => rg z ∧ RG u ∧ P z u) := by
  unfold wp_X5_makeSteps at hwp
  refine zm_i (cc := cX5_makeSteps) (maxL := 3) (ret := some .int) (own := RX5) (lvs := [(0, .ref (a 0)), (1, .int (iI most))]) (by decide) rfl rfl (Nat.le_of_ble_eq_true rfl) rfl ?_
  intro p e sT m args below meth c ls A hx hb hr hml hown hts hlocks hK hP hD hS hA hl
  refine lv_aload_n hx hb dX5_makeSteps_0 rfl (lv_at hl 0 rfl) ?_
  refine zc_vi (As := []) (rest := []) (w2 := fun u_1 => W5 G a s) (c_X5_hasMerge l G a s r_s) ⟨hx, hb, hml, hown, hts⟩ (cwV 0 hts gX5_makeSteps_X5_hasMerge rfl rfl rfl hdX5_hasMerge ⟨Nat.le_of_ble_eq_true rfl, Nat.le_of_ble_eq_true rfl⟩) hK hP hD hS hA (q0 := 0) rfl rfl [0, 1, 2, 3, 4, 5, 6, 7, 8, 9, 10, 11, 12, 13] [] [0, 1, 2, 3, 4, 5, 6, 7, 8, 9, 10, 11, 12, 13] rfl rfl rfl rfl (by decide) (fun _ => rfl) rfl rfl hl.1 rfl (Nat.le_of_ble_eq_true rfl) dX5_makeSteps_1 ⟨Nat.zero_le _, Nat.zero_le _⟩ (fun z2 u_1 H locs hw hP hD hS => ?_)
  obtain ⟨rfl, r3⟩ := hw
  have hP : va_P G.1 vwCl (W5 G a s) H := hP
  have hD : va_D A (W5 G a s) := hD
  refine zr_ifB_ne (tgt := 9)  hx hb dX5_makeSteps_4 (by decide) (fun c4 => ?_) (fun c4 => ?_)
  · have h7 := hwp.1 c4
    refine lv_iconst (v := iI 0) hx hb dX5_makeSteps_9 rfl ?_
    refine lv_istore_n (lv' := [(2, .int (iI 0)), (0, .ref (a 0)), (1, .int (iI most))]) hx hb dX5_makeSteps_10 rfl hl (by decide) rfl (fun ls hl => ?_)
    obtain ⟨I9, μ10, h11, h12⟩ := h7
    refine zr_loop (G := G) (σ := Int × SS) (fun x_8 => (rg x_8.1 ∧ RG x_8.2) ∧ I9 x_8.1 x_8.2) (fun x_8 => μ10 x_8.1 x_8.2) (fun x_8 => W5 G a x_8.2) (fun x_8 => [(2, .int (iI x_8.1)), (0, .ref (a 0)), (1, .int (iI most))]) ((0, s)) ⟨⟨rg_0, r_s⟩, h11⟩ hP hD hS (lv_sub hl [0, 1, 2] rfl) ?_
    clear hP hD hS hl
    intro x_8 H locs ls ih13 h14 hP hD hS hl
    obtain ⟨x2_8, s0_8⟩ := x_8
    obtain ⟨⟨rx2_8, rs0_8⟩, h14⟩ := h14
    have h15 := h12 x2_8 s0_8 rx2_8 rs0_8 h14
    have hP : va_P G.1 vwCl (W5 G a s0_8) H := hP
    have hD : va_D A (W5 G a s0_8) := hD
    have hl : lv_has ls 3 [(2, .int (iI x2_8)), (0, .ref (a 0)), (1, .int (iI most))] := hl
    refine lv_iload_n hx hb dX5_makeSteps_11 rfl (lv_at hl 0 rfl) ?_
    refine lv_iload_n hx hb dX5_makeSteps_12 rfl (lv_at hl 2 rfl) ?_
    refine zr_icmp_ge (tgt := 33) (x := x2_8) (y := most) hx hb rx2_8 r_most dX5_makeSteps_13 (by decide) (fun c16 => ?_) (fun c16 => ?_)
    · have h19 := h15.2 c16
      refine lv_aload_n hx hb dX5_makeSteps_33 rfl (lv_at hl 1 rfl) ?_
      refine zc_vi (As := []) (rest := []) (w2 := fun u_20 => W5 G a s0_8) (c_X5_hasMerge l G a s0_8 rs0_8) ⟨hx, hb, hml, hown, hts⟩ (cwV 0 hts gX5_makeSteps_X5_hasMerge rfl rfl rfl hdX5_hasMerge ⟨Nat.le_of_ble_eq_true rfl, Nat.le_of_ble_eq_true rfl⟩) hK hP hD hS hA (q0 := 0) rfl rfl [0, 1, 2, 3, 4, 5, 6, 7, 8, 9, 10, 11, 12, 13] [] [0, 1, 2, 3, 4, 5, 6, 7, 8, 9, 10, 11, 12, 13] rfl rfl rfl rfl (by decide) (fun _ => rfl) rfl rfl hl.1 rfl (Nat.le_of_ble_eq_true rfl) dX5_makeSteps_34 ⟨Nat.zero_le _, Nat.zero_le _⟩ (fun z21 u_20 H locs hw hP hD hS => ?_)
      obtain ⟨rfl, r22⟩ := hw
      have hP : va_P G.1 vwCl (W5 G a s0_8) H := hP
      have hD : va_D A (W5 G a s0_8) := hD
      refine zr_ifB_ne (tgt := 44)  hx hb dX5_makeSteps_37 (by decide) (fun c23 => ?_) (fun c23 => ?_)
      · have h26 := h19.1 c23
        refine lv_iload_n hx hb dX5_makeSteps_44 rfl (lv_at hl 0 rfl) ?_
        exact zr_iret (z := x2_8) hx hb hr hlocks hK (s0_8) hP hD hS dX5_makeSteps_45 ⟨rx2_8, rs0_8, h26⟩
      · have h27 := h19.2 c23
        refine lv_aload_n hx hb dX5_makeSteps_40 rfl (lv_at hl 1 rfl) ?_
        obtain ⟨g28, h29⟩ := h27
        obtain ⟨b30, h31⟩ := h29
        obtain ⟨b32, h33⟩ := h31
        refine zc_vv (As := []) (rest := []) (w2 := fun u_35 => W5 G a u_35) (c_X5_closeOutput l G a s0_8 g28 rs0_8 b30 b32) ⟨hx, hb, hml, hown, hts⟩ (cwV 0 hts gX5_makeSteps_X5_closeOutput rfl rfl rfl hdX5_closeOutput ⟨Nat.le_of_ble_eq_true rfl, Nat.le_of_ble_eq_true rfl⟩) hK hP hD hS hA (q0 := 0) rfl rfl [0, 1, 2, 3, 4, 5, 6, 7, 8, 9, 10, 11, 12, 13] [] [0, 1, 2, 3, 4, 5, 6, 7, 8, 9, 10, 11, 12, 13] rfl rfl rfl rfl (by decide) (fun _ => rfl) rfl rfl hl.1 rfl (Nat.le_of_ble_eq_true rfl) dX5_makeSteps_41 ⟨Nat.zero_le _, Nat.zero_le _⟩ (fun u_35 H locs hw hP hD hS => ?_)
        obtain ⟨u_s34, rfl⟩ : ∃ q, q = u_35 := ⟨_, rfl⟩
        obtain ⟨ru_s34, h37⟩ := hw
        have h38 := h33 u_s34 ru_s34 h37
        have hP : va_P G.1 vwCl (W5 G a u_s34) H := hP
        have hD : va_D A (W5 G a u_s34) := hD
        refine lv_iload_n hx hb dX5_makeSteps_44 rfl (lv_at hl 0 rfl) ?_
        exact zr_iret (z := x2_8) hx hb hr hlocks hK (u_s34) hP hD hS dX5_makeSteps_45 ⟨rx2_8, ru_s34, h38⟩
    · have h39 := h15.1 c16
      refine lv_aload_n hx hb dX5_makeSteps_16 rfl (lv_at hl 1 rfl) ?_
      refine zc_vi (As := []) (rest := []) (w2 := fun u_40 => W5 G a s0_8) (c_X5_hasMerge l G a s0_8 rs0_8) ⟨hx, hb, hml, hown, hts⟩ (cwV 0 hts gX5_makeSteps_X5_hasMerge rfl rfl rfl hdX5_hasMerge ⟨Nat.le_of_ble_eq_true rfl, Nat.le_of_ble_eq_true rfl⟩) hK hP hD hS hA (q0 := 0) rfl rfl [0, 1, 2, 3, 4, 5, 6, 7, 8, 9, 10, 11, 12, 13] [] [0, 1, 2, 3, 4, 5, 6, 7, 8, 9, 10, 11, 12, 13] rfl rfl rfl rfl (by decide) (fun _ => rfl) rfl rfl hl.1 rfl (Nat.le_of_ble_eq_true rfl) dX5_makeSteps_17 ⟨Nat.zero_le _, Nat.zero_le _⟩ (fun z41 u_40 H locs hw hP hD hS => ?_)
      obtain ⟨rfl, r42⟩ := hw
      have hP : va_P G.1 vwCl (W5 G a s0_8) H := hP
      have hD : va_D A (W5 G a s0_8) := hD
      refine zr_ifB_eq (tgt := 33)  hx hb dX5_makeSteps_20 (by decide) (fun c43 => ?_) (fun c43 => ?_)
      · have h46 := h39.2 c43
        refine lv_aload_n hx hb dX5_makeSteps_33 rfl (lv_at hl 1 rfl) ?_
        refine zc_vi (As := []) (rest := []) (w2 := fun u_47 => W5 G a s0_8) (c_X5_hasMerge l G a s0_8 rs0_8) ⟨hx, hb, hml, hown, hts⟩ (cwV 0 hts gX5_makeSteps_X5_hasMerge rfl rfl rfl hdX5_hasMerge ⟨Nat.le_of_ble_eq_true rfl, Nat.le_of_ble_eq_true rfl⟩) hK hP hD hS hA (q0 := 0) rfl rfl [0, 1, 2, 3, 4, 5, 6, 7, 8, 9, 10, 11, 12, 13] [] [0, 1, 2, 3, 4, 5, 6, 7, 8, 9, 10, 11, 12, 13] rfl rfl rfl rfl (by decide) (fun _ => rfl) rfl rfl hl.1 rfl (Nat.le_of_ble_eq_true rfl) dX5_makeSteps_34 ⟨Nat.zero_le _, Nat.zero_le _⟩ (fun z48 u_47 H locs hw hP hD hS => ?_)
        obtain ⟨rfl, r49⟩ := hw
        have hP : va_P G.1 vwCl (W5 G a s0_8) H := hP
        have hD : va_D A (W5 G a s0_8) := hD
        refine zr_ifB_ne (tgt := 44)  hx hb dX5_makeSteps_37 (by decide) (fun c => absurd c c43) (fun _ => ?_)
        refine lv_aload_n hx hb dX5_makeSteps_40 rfl (lv_at hl 1 rfl) ?_
        obtain ⟨g50, h51⟩ := h46
        obtain ⟨b52, h53⟩ := h51
        obtain ⟨b54, h55⟩ := h53
        refine zc_vv (As := []) (rest := []) (w2 := fun u_57 => W5 G a u_57) (c_X5_closeOutput l G a s0_8 g50 rs0_8 b52 b54) ⟨hx, hb, hml, hown, hts⟩ (cwV 0 hts gX5_makeSteps_X5_closeOutput rfl rfl rfl hdX5_closeOutput ⟨Nat.le_of_ble_eq_true rfl, Nat.le_of_ble_eq_true rfl⟩) hK hP hD hS hA (q0 := 0) rfl rfl [0, 1, 2, 3, 4, 5, 6, 7, 8, 9, 10, 11, 12, 13] [] [0, 1, 2, 3, 4, 5, 6, 7, 8, 9, 10, 11, 12, 13] rfl rfl rfl rfl (by decide) (fun _ => rfl) rfl rfl hl.1 rfl (Nat.le_of_ble_eq_true rfl) dX5_makeSteps_41 ⟨Nat.zero_le _, Nat.zero_le _⟩ (fun u_57 H locs hw hP hD hS => ?_)
        obtain ⟨u_s56, rfl⟩ : ∃ q, q = u_57 := ⟨_, rfl⟩
        obtain ⟨ru_s56, h59⟩ := hw
        have h60 := h55 u_s56 ru_s56 h59
        have hP : va_P G.1 vwCl (W5 G a u_s56) H := hP
        have hD : va_D A (W5 G a u_s56) := hD
        refine lv_iload_n hx hb dX5_makeSteps_44 rfl (lv_at hl 0 rfl) ?_
        exact zr_iret (z := x2_8) hx hb hr hlocks hK (u_s56) hP hD hS dX5_makeSteps_45 ⟨rx2_8, ru_s56, h60⟩
      · have h61 := h39.1 c43
        refine lv_aload_n hx hb dX5_makeSteps_23 rfl (lv_at hl 1 rfl) ?_
        obtain ⟨g62, h63⟩ := h61
        obtain ⟨b64, h65⟩ := h63
        obtain ⟨b66, h67⟩ := h65
        obtain ⟨b68, h69⟩ := h67
        obtain ⟨b70, h71⟩ := h69
        refine zc_vv (As := []) (rest := []) (w2 := fun u_73 => W5 G a u_73) (c_X5_moveFirstRow l G a s0_8 g62 rs0_8 b64 b66 b68 b70) ⟨hx, hb, hml, hown, hts⟩ (cwV 0 hts gX5_makeSteps_X5_moveFirstRow rfl rfl rfl hdX5_moveFirstRow ⟨Nat.le_of_ble_eq_true rfl, Nat.le_of_ble_eq_true rfl⟩) hK hP hD hS hA (q0 := 0) rfl rfl [0, 1, 2, 3, 4, 5, 6, 7, 8, 9, 10, 11, 12, 13] [] [0, 1, 2, 3, 4, 5, 6, 7, 8, 9, 10, 11, 12, 13] rfl rfl rfl rfl (by decide) (fun _ => rfl) rfl rfl hl.1 rfl (Nat.le_of_ble_eq_true rfl) dX5_makeSteps_24 ⟨Nat.zero_le _, Nat.zero_le _⟩ (fun u_73 H locs hw hP hD hS => ?_)
        obtain ⟨u_s72, rfl⟩ : ∃ q, q = u_73 := ⟨_, rfl⟩
        obtain ⟨ru_s72, h75⟩ := hw
        have h76 := h71 u_s72 ru_s72 h75
        have hP : va_P G.1 vwCl (W5 G a u_s72) H := hP
        have hD : va_D A (W5 G a u_s72) := hD
        obtain ⟨r77, h78⟩ := h76
        refine zr_iinc (x := x2_8) (lv' := [(2, .int (iI (x2_8 + 1))), (0, .ref (a 0)), (1, .int (iI most))]) hx hb dX5_makeSteps_27 hl (k := 0) rfl (by decide) rfl (fun ls hl => ?_)
        refine lv_goto (tgt := 11) hx hb dX5_makeSteps_30 (by decide) ?_
        obtain ⟨h79, h80⟩ := h78
        exact ih13 ((x2_8 + 1, u_s72)) _ _ _ ⟨⟨r77, ru_s72⟩, h79⟩ h80 hP hD hS (lv_sub hl [0, 1, 2] rfl)
  · have h81 := hwp.2 c4
    refine lv_iconst (v := iI 0) hx hb dX5_makeSteps_7 rfl ?_
    exact zr_iret (z := 0) hx hb hr hlocks hK (s) hP hD hS dX5_makeSteps_8 ⟨rg_0, r_s, h81⟩
theorem c_X5_makeSteps (l : Launch) (G : ZG) (a : Nat → Nat) (s : SS) (most : Int) (z : Int → Int) (r_s : RG s) (r_most : rg most) (p0 : Rep s z) (p1 : Vz z) (p2 : Bd z most) (p3 : 1 ≤ most ∧ most ≤ 200) : ZI l G yX5_makeSteps wsX5_makeSteps 3 84 [.ref (a 0), .int (iI most)] (W5 G a s) (fun u : SS => W5 G a u) (fun (zq : Int) (u : SS) => rg zq ∧ RG u ∧ (∃ w : Nat → Int → Int, w 0 = z ∧ (∀ i : Nat, (i : Int) < zq → (w i) 5 = 1 ∧ w (i + 1) = stpZ (w i)) ∧ 0 ≤ zq ∧ zq ≤ most ∧ (zq < most → (w zq.toNat) 5 = 0) ∧ Rep u (w zq.toNat))) :=
  c0_X5_makeSteps l G a s most (fun r s' => ∃ w : Nat → Int → Int, w 0 = z ∧ (∀ i : Nat, (i : Int) < r → (w i) 5 = 1 ∧ w (i + 1) = stpZ (w i)) ∧ 0 ≤ r ∧ r ≤ most ∧ (r < most → (w r.toNat) 5 = 0) ∧ Rep s' (w r.toNat)) r_s r_most (sp_X5_makeSteps s most z r_s r_most p0 p1 p2 p3)
