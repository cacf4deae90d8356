theorem hdX5_runToEnd : yX5_runToEnd.cls = RX5 ∧ yX5_runToEnd.cls ≠ "java/lang/invoke/MethodHandle" ∧ yX5_runToEnd.cls ≠ "java/lang/invoke/VarHandle" ∧ (parseMethodDescriptor yX5_runToEnd.desc).map (fun d => d.parameters.length) = some 0 := by decide +kernel
set_option maxRecDepth 100000 in
set_option maxHeartbeats 4000000 in
theorem c0_X5_runToEnd (l : Launch) (G : ZG) (a : Nat → Nat) (s : SS)  (P : Int → SS → Prop) (r_s : RG s)  (hwp : wp_X5_runToEnd s P) : ZI l G yX5_runToEnd wsX5_runToEnd 4 106 [.ref (a 0)] (W5 G a s) (fun u : SS => W5 G a u) (fun (z : Int) (u : SS) => rg z ∧ RG u ∧ P z u) := by
  unfold wp_X5_runToEnd at hwp
  refine zm_i (cc := cX5_runToEnd) (maxL := 2) (ret := some .int) (own := RX5) (lvs := [(0, .ref (a 0))]) (by decide) rfl rfl (Nat.le_of_ble_eq_true rfl) rfl ?_
  intro p e sT m args below meth c ls A hx hb hr hml hown hts hlocks hK hP hD hS hA hl
  refine lv_aload_n hx hb dX5_runToEnd_0 rfl (lv_at hl 0 rfl) ?_
  obtain ⟨g1, h2⟩ := hwp
  obtain ⟨b3, h4⟩ := h2
  obtain ⟨b5, h6⟩ := h4
  obtain ⟨b7, h8⟩ := h6
  refine zc_vv (As := []) (rest := []) (w2 := fun u_10 => W5 G a u_10) (c_X5_endCollecting l G a s g1 r_s b3 b5 b7) ⟨hx, hb, hml, hown, hts⟩ (cwV 0 hts gX5_runToEnd_X5_endCollecting rfl rfl rfl hdX5_endCollecting ⟨Nat.le_of_ble_eq_true rfl, Nat.le_of_ble_eq_true rfl⟩) hK hP hD hS hA (q0 := 0) rfl rfl [0, 1, 2, 3, 4, 5, 6, 7, 8, 9, 10, 11, 12, 13] [] [0, 1, 2, 3, 4, 5, 6, 7, 8, 9, 10, 11, 12, 13] rfl rfl rfl rfl (by decide) (fun _ => rfl) rfl rfl hl.1 rfl (Nat.le_of_ble_eq_true rfl) dX5_runToEnd_1 ⟨Nat.zero_le _, Nat.zero_le _⟩ (fun u_10 H locs hw hP hD hS => ?_)
  obtain ⟨u_s9, rfl⟩ : ∃ q, q = u_10 := ⟨_, rfl⟩
  obtain ⟨ru_s9, h12⟩ := hw
  have h13 := h8 u_s9 ru_s9 h12
  have hP : va_P G.1 vwCl (W5 G a u_s9) H := hP
  have hD : va_D A (W5 G a u_s9) := hD
  refine lv_aload_n hx hb dX5_runToEnd_4 rfl (lv_at hl 0 rfl) ?_
  refine lv_bipush (v := iI 120) hx hb dX5_runToEnd_5 (by decide) ?_
  obtain ⟨g14, h15⟩ := h13
  obtain ⟨b16, h17⟩ := h15
  obtain ⟨b18, h19⟩ := h17
  obtain ⟨b20, h21⟩ := h19
  obtain ⟨b22, h23⟩ := h21
  refine zc_vi (As := [.int (iI 120)]) (rest := []) (w2 := fun u_25 => W5 G a u_25) (c_X5_makeSteps l G a u_s9 120 g14 ru_s9 rg_120 b16 b18 b20 b22) ⟨hx, hb, hml, hown, hts⟩ (cwV 1 hts gX5_runToEnd_X5_makeSteps rfl rfl rfl hdX5_makeSteps ⟨Nat.le_of_ble_eq_true rfl, Nat.le_of_ble_eq_true rfl⟩) hK hP hD hS hA (q0 := 0) rfl rfl [0, 1, 2, 3, 4, 5, 6, 7, 8, 9, 10, 11, 12, 13] [] [0, 1, 2, 3, 4, 5, 6, 7, 8, 9, 10, 11, 12, 13] rfl rfl rfl rfl (by decide) (fun _ => rfl) rfl rfl hl.1 rfl (Nat.le_of_ble_eq_true rfl) dX5_runToEnd_7 ⟨Nat.zero_le _, Nat.zero_le _⟩ (fun z26 u_25 H locs hw hP hD hS => ?_)
  obtain ⟨u_s24, rfl⟩ : ∃ q, q = u_25 := ⟨_, rfl⟩
  obtain ⟨r28, ru_s24, h27⟩ := hw
  have h29 := h23 z26 u_s24 r28 ru_s24 h27
  have hP : va_P G.1 vwCl (W5 G a u_s24) H := hP
  have hD : va_D A (W5 G a u_s24) := hD
  refine lv_pop hx hb dX5_runToEnd_10 rfl ?_
  refine lv_iconst (v := iI 0) hx hb dX5_runToEnd_11 rfl ?_
  refine lv_istore_n (lv' := [(1, .int (iI 0)), (0, .ref (a 0))]) hx hb dX5_runToEnd_12 rfl hl (by decide) rfl (fun ls hl => ?_)
  obtain ⟨I31, μ32, h33, h34⟩ := h29
  refine zr_loop (G := G) (σ := Int × SS) (fun x_30 => (rg x_30.1 ∧ RG x_30.2) ∧ I31 x_30.1 x_30.2) (fun x_30 => μ32 x_30.1 x_30.2) (fun x_30 => W5 G a x_30.2) (fun x_30 => [(1, .int (iI x_30.1)), (0, .ref (a 0))]) ((0, u_s24)) ⟨⟨rg_0, ru_s24⟩, h33⟩ hP hD hS (lv_sub hl [0, 1] rfl) ?_
  clear hP hD hS hl
  intro x_30 H locs ls ih35 h36 hP hD hS hl
  obtain ⟨x1_30, s0_30⟩ := x_30
  obtain ⟨⟨rx1_30, rs0_30⟩, h36⟩ := h36
  have h37 := h34 x1_30 s0_30 rx1_30 rs0_30 h36
  have hP : va_P G.1 vwCl (W5 G a s0_30) H := hP
  have hD : va_D A (W5 G a s0_30) := hD
  have hl : lv_has ls 2 [(1, .int (iI x1_30)), (0, .ref (a 0))] := hl
  refine lv_iload_n hx hb dX5_runToEnd_13 rfl (lv_at hl 0 rfl) ?_
  refine lv_bipush (v := iI 120) hx hb dX5_runToEnd_14 (by decide) ?_
  refine zr_icmp_ge (tgt := 44) (x := x1_30) (y := 120) hx hb rx1_30 rg_120 dX5_runToEnd_16 (by decide) (fun c38 => ?_) (fun c38 => ?_)
  · have h41 := h37.2 c38
    refine lv_iload_n hx hb dX5_runToEnd_44 rfl (lv_at hl 0 rfl) ?_
    exact zr_iret (z := x1_30) hx hb hr hlocks hK (s0_30) hP hD hS dX5_runToEnd_45 ⟨rx1_30, rs0_30, h41⟩
  · have h42 := h37.1 c38
    refine lv_aload_n hx hb dX5_runToEnd_19 rfl (lv_at hl 1 rfl) ?_
    obtain ⟨b43, h44⟩ := h42
    refine zc_vi (As := []) (rest := []) (w2 := fun u_45 => W5 G a s0_30) (c_X5_canBeginMerge l G a s0_30 rs0_30 b43) ⟨hx, hb, hml, hown, hts⟩ (cwV 0 hts gX5_runToEnd_X5_canBeginMerge rfl rfl rfl hdX5_canBeginMerge ⟨Nat.le_of_ble_eq_true rfl, Nat.le_of_ble_eq_true rfl⟩) hK hP hD hS hA (q0 := 0) rfl rfl [0, 1, 2, 3, 4, 5, 6, 7, 8, 9, 10, 11, 12, 13] [] [0, 1, 2, 3, 4, 5, 6, 7, 8, 9, 10, 11, 12, 13] rfl rfl rfl rfl (by decide) (fun _ => rfl) rfl rfl hl.1 rfl (Nat.le_of_ble_eq_true rfl) dX5_runToEnd_20 ⟨Nat.zero_le _, Nat.zero_le _⟩ (fun z46 u_45 H locs hw hP hD hS => ?_)
    obtain ⟨rfl, r47⟩ := hw
    have hP : va_P G.1 vwCl (W5 G a s0_30) H := hP
    have hD : va_D A (W5 G a s0_30) := hD
    refine zr_ifB_eq (tgt := 44)  hx hb dX5_runToEnd_23 (by decide) (fun c48 => ?_) (fun c48 => ?_)
    · have h51 := h44.2 c48
      refine lv_iload_n hx hb dX5_runToEnd_44 rfl (lv_at hl 0 rfl) ?_
      exact zr_iret (z := x1_30) hx hb hr hlocks hK (s0_30) hP hD hS dX5_runToEnd_45 ⟨rx1_30, rs0_30, h51⟩
    · have h52 := h44.1 c48
      refine lv_aload_n hx hb dX5_runToEnd_26 rfl (lv_at hl 1 rfl) ?_
      obtain ⟨g53, h54⟩ := h52
      obtain ⟨b55, h56⟩ := h54
      obtain ⟨b57, h58⟩ := h56
      obtain ⟨b59, h60⟩ := h58
      obtain ⟨b61, h62⟩ := h60
      obtain ⟨b63, h64⟩ := h62
      refine zc_vi (As := []) (rest := []) (w2 := fun u_66 => W5 G a u_66) (c_X5_beginMerge l G a s0_30 g53 rs0_30 b55 b57 b59 b61 b63) ⟨hx, hb, hml, hown, hts⟩ (cwV 0 hts gX5_runToEnd_X5_beginMerge rfl rfl rfl hdX5_beginMerge ⟨Nat.le_of_ble_eq_true rfl, Nat.le_of_ble_eq_true rfl⟩) hK hP hD hS hA (q0 := 0) rfl rfl [0, 1, 2, 3, 4, 5, 6, 7, 8, 9, 10, 11, 12, 13] [] [0, 1, 2, 3, 4, 5, 6, 7, 8, 9, 10, 11, 12, 13] rfl rfl rfl rfl (by decide) (fun _ => rfl) rfl rfl hl.1 rfl (Nat.le_of_ble_eq_true rfl) dX5_runToEnd_27 ⟨Nat.zero_le _, Nat.zero_le _⟩ (fun z67 u_66 H locs hw hP hD hS => ?_)
      obtain ⟨u_s65, rfl⟩ : ∃ q, q = u_66 := ⟨_, rfl⟩
      obtain ⟨r69, ru_s65, h68⟩ := hw
      have h70 := h64 z67 u_s65 r69 ru_s65 h68
      have hP : va_P G.1 vwCl (W5 G a u_s65) H := hP
      have hD : va_D A (W5 G a u_s65) := hD
      refine lv_pop hx hb dX5_runToEnd_30 rfl ?_
      refine lv_aload_n hx hb dX5_runToEnd_31 rfl (lv_at hl 1 rfl) ?_
      refine lv_bipush (v := iI 120) hx hb dX5_runToEnd_32 (by decide) ?_
      obtain ⟨g71, h72⟩ := h70
      obtain ⟨b73, h74⟩ := h72
      obtain ⟨b75, h76⟩ := h74
      obtain ⟨b77, h78⟩ := h76
      refine zc_vi (As := [.int (iI 120)]) (rest := []) (w2 := fun u_80 => W5 G a u_80) (c_X5_makeSteps l G a u_s65 120 g71 ru_s65 rg_120 b73 b75 b77 b22) ⟨hx, hb, hml, hown, hts⟩ (cwV 1 hts gX5_runToEnd_X5_makeSteps rfl rfl rfl hdX5_makeSteps ⟨Nat.le_of_ble_eq_true rfl, Nat.le_of_ble_eq_true rfl⟩) hK hP hD hS hA (q0 := 0) rfl rfl [0, 1, 2, 3, 4, 5, 6, 7, 8, 9, 10, 11, 12, 13] [] [0, 1, 2, 3, 4, 5, 6, 7, 8, 9, 10, 11, 12, 13] rfl rfl rfl rfl (by decide) (fun _ => rfl) rfl rfl hl.1 rfl (Nat.le_of_ble_eq_true rfl) dX5_runToEnd_34 ⟨Nat.zero_le _, Nat.zero_le _⟩ (fun z81 u_80 H locs hw hP hD hS => ?_)
      obtain ⟨u_s79, rfl⟩ : ∃ q, q = u_80 := ⟨_, rfl⟩
      obtain ⟨r83, ru_s79, h82⟩ := hw
      have h84 := h78 z81 u_s79 r83 ru_s79 h82
      have hP : va_P G.1 vwCl (W5 G a u_s79) H := hP
      have hD : va_D A (W5 G a u_s79) := hD
      refine lv_pop hx hb dX5_runToEnd_37 rfl ?_
      obtain ⟨r85, h86⟩ := h84
      refine zr_iinc (x := x1_30) (lv' := [(1, .int (iI (x1_30 + 1))), (0, .ref (a 0))]) hx hb dX5_runToEnd_38 hl (k := 0) rfl (by decide) rfl (fun ls hl => ?_)
      refine lv_goto (tgt := 13) hx hb dX5_runToEnd_41 (by decide) ?_
      obtain ⟨h87, h88⟩ := h86
      exact ih35 ((x1_30 + 1, u_s79)) _ _ _ ⟨⟨r85, ru_s79⟩, h87⟩ h88 hP hD hS (lv_sub hl [0, 1] rfl)
theorem c_X5_runToEnd (l : Launch) (G : ZG) (a : Nat → Nat) (s : SS)  (z : Int → Int) (r_s : RG s)  (p0 : Rep s z) (p1 : Vz z) (p2 : Bd z 50000) (p3 : goC (finZ z)) : ZI l G yX5_runToEnd wsX5_runToEnd 4 106 [.ref (a 0)] (W5 G a s) (fun u : SS => W5 G a u) (fun (zq : Int) (u : SS) => rg zq ∧ RG u ∧ (∃ z' : Int → Int, AllZ (finZ z) z' ∧ zq = z' 8 - z 8 ∧ Rep u z')) :=
  c0_X5_runToEnd l G a s (fun r s' => ∃ z' : Int → Int, AllZ (finZ z) z' ∧ r = z' 8 - z 8 ∧ Rep s' z') r_s  (sp_X5_runToEnd s z r_s  p0 p1 p2 p3)
