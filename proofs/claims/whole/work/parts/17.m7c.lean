theorem imX7_allSteps_X7 : ∀ w ∈ wsX70, w ∈ wsX7_allSteps := fun _ h => (List.mem_cons_of_mem _ (List.mem_append_right _ h))
theorem hdX7_allSteps : yX7_allSteps.cls = RX7 ∧ yX7_allSteps.cls ≠ "java/lang/invoke/MethodHandle" ∧ yX7_allSteps.cls ≠ "java/lang/invoke/VarHandle" ∧ (parseMethodDescriptor yX7_allSteps.desc).map (fun d => d.parameters.length) = some 0 := by decide +kernel
set_option maxRecDepth 100000 in
set_option maxHeartbeats 4000000 in
theorem c0_X7_allSteps (l : Launch) (G : ZG) (a : Nat → Nat) (s : SS)  (P : Int → SS → Prop) (r_s : RG s)  (hwp : wp_X7_allSteps s P) : ZI l G yX7_allSteps wsX7_allSteps 5 114 [.ref (a 0)] (W7 G a s) (fun u : SS => W7 G a u) (fun (z : Int) (u : SS) => rg z ∧ RG u ∧ P z u) := by
  unfold wp_X7_allSteps at hwp
  refine zm_i (cc := cX7_allSteps) (maxL := 2) (ret := some .int) (own := RX7) (lvs := [(0, .ref (a 0))]) (by decide) rfl rfl (Nat.le_of_ble_eq_true rfl) rfl ?_
  intro p e sT m args below meth c ls A hx hb hr hml hown hts hlocks hK hP hD hS hA hl
  have k1 := hts (.fieldLink RX7 7 "GrantedSortModel" "z" "[I") (List.mem_of_getElem? (i := 1) rfl)
  refine lv_aload_n hx hb dX7_allSteps_0 rfl (lv_at hl 0 rfl) ?_
  refine va_get (v := .ref (a 1)) (ci := 7) (C := RX7) (T := TX7) (N := 12) hx hb hts imX7_allSteps_X7 hown hK hP 0 rfl rfl 0 (by decide) k1 (fun _ h9 => h9) rfl dX7_allSteps_1 ?_
  refine lv_iconst (v := iI 2) hx hb dX7_allSteps_4 rfl ?_
  refine zr_iald (n := 370) (f := (s.2 0)) (i := 2) hx hb hK hP 1 rfl rg_2 ⟨by decide, by decide⟩ dX7_allSteps_5 ?_
  refine lv_iconst (v := iI 1) hx hb dX7_allSteps_6 rfl ?_
  obtain ⟨h1, h15⟩ := hwp
  refine zr_join (G := G) (A := A) (H0 := sT.heap) (nL := 2) 14 (W7 G a (sA s 0 (if ((s.2 0) 2) = 1 then uZ (wriZ (s.2 0)) 2 0 else (s.2 0)))) [(0, .ref (a 0))] [] (rgA (if ((s.2 0) 2) = 1 then uZ (wriZ (s.2 0)) 2 0 else (s.2 0))) ?_ ?_
  · intro p17 H locs ls hP hD hS hl
    have r14 := p17
    clear h1
    refine lv_aload_n hx hb dX7_allSteps_14 rfl (lv_at hl 0 rfl) ?_
    refine va_get (v := .ref (a 1)) (ci := 7) (C := RX7) (T := TX7) (N := 12) hx hb hts imX7_allSteps_X7 hown hK hP 0 rfl rfl 0 (by decide) k1 (fun _ h9 => h9) rfl dX7_allSteps_15 ?_
    refine lv_bipush (v := iI 8) hx hb dX7_allSteps_18 (by decide) ?_
    refine zr_iald (n := 370) (f := (if ((s.2 0) 2) = 1 then uZ (wriZ (s.2 0)) 2 0 else (s.2 0))) (i := 8) hx hb hK hP 1 rfl rg_8 ⟨by decide, by decide⟩ dX7_allSteps_20 ?_
    refine lv_istore_n (lv' := [(1, .int (iI ((if ((s.2 0) 2) = 1 then uZ (wriZ (s.2 0)) 2 0 else (s.2 0)) 8))), (0, .ref (a 0))]) hx hb dX7_allSteps_21 rfl hl (by decide) rfl (fun ls hl => ?_)
    obtain ⟨I20, μ21, h22, h23⟩ := h15
    refine zr_loop (G := G) (σ := SS) (fun x_19 => (RG x_19) ∧ I20 x_19) (fun x_19 => μ21 x_19) (fun x_19 => W7 G a x_19) (fun x_19 => [(1, .int (iI ((if ((s.2 0) 2) = 1 then uZ (wriZ (s.2 0)) 2 0 else (s.2 0)) 8))), (0, .ref (a 0))]) (sA s 0 (if ((s.2 0) 2) = 1 then uZ (wriZ (s.2 0)) 2 0 else (s.2 0))) ⟨(RG_A r_s r14), h22⟩ hP hD hS (lv_sub hl [0, 1] rfl) ?_
    clear hP hD hS hl
    intro x_19 H locs ls ih24 h25 hP hD hS hl
    obtain ⟨s0_19, rfl⟩ : ∃ z, z = x_19 := ⟨_, rfl⟩
    obtain ⟨rs0_19, h25⟩ := h25
    have h26 := h23 s0_19 rs0_19 h25
    have hP : va_P G.1 vwCl (W7 G a s0_19) H := hP
    have hD : va_D A (W7 G a s0_19) := hD
    have hl : lv_has ls 2 [(1, .int (iI ((if ((s.2 0) 2) = 1 then uZ (wriZ (s.2 0)) 2 0 else (s.2 0)) 8))), (0, .ref (a 0))] := hl
    refine lv_aload_n hx hb dX7_allSteps_22 rfl (lv_at hl 1 rfl) ?_
    refine va_get (v := .ref (a 1)) (ci := 7) (C := RX7) (T := TX7) (N := 12) hx hb hts imX7_allSteps_X7 hown hK hP 0 rfl rfl 0 (by decide) k1 (fun _ h9 => h9) rfl dX7_allSteps_23 ?_
    refine lv_iconst (v := iI 5) hx hb dX7_allSteps_26 rfl ?_
    refine zr_iald (n := 370) (f := (s0_19.2 0)) (i := 5) hx hb hK hP 1 rfl rg_5 ⟨by decide, by decide⟩ dX7_allSteps_27 ?_
    refine lv_iconst (v := iI 1) hx hb dX7_allSteps_28 rfl ?_
    refine zr_icmp_eq (tgt := 40) (x := (s0_19.2 0) 5) (y := 1) hx hb ((rs0_19.2 0) 5) rg_1 dX7_allSteps_29 (by decide) (fun c27 => ?_) (fun c27 => ?_)
    · have h30 := h26.1 c27
      refine lv_aload_n hx hb dX7_allSteps_40 rfl (lv_at hl 1 rfl) ?_
      refine va_get (v := .ref (a 1)) (ci := 7) (C := RX7) (T := TX7) (N := 12) hx hb hts imX7_allSteps_X7 hown hK hP 0 rfl rfl 0 (by decide) k1 (fun _ h9 => h9) rfl dX7_allSteps_41 ?_
      refine lv_iconst (v := iI 5) hx hb dX7_allSteps_44 rfl ?_
      refine zr_iald (n := 370) (f := (s0_19.2 0)) (i := 5) hx hb hK hP 1 rfl rg_5 ⟨by decide, by decide⟩ dX7_allSteps_45 ?_
      refine zr_if_ne (tgt := 53) (x := (s0_19.2 0) 5) hx hb ((rs0_19.2 0) 5) dX7_allSteps_46 (by decide) (fun c31 => ?_) (fun c31 => ?_)
      · have h34 := h30.2 c31
        refine lv_aload_n hx hb dX7_allSteps_53 rfl (lv_at hl 1 rfl) ?_
        obtain ⟨b35, h36⟩ := h34
        obtain ⟨b37, h38⟩ := h36
        obtain ⟨b39, h40⟩ := h38
        obtain ⟨b41, h42⟩ := h40
        refine zc_vv (As := []) (rest := []) (w2 := fun u_44 => W7 G a (sA s0_19 0 (stpZ (s0_19.2 0)))) (c_X7_steps l G a s0_19 rs0_19 b35 b37 b39 b41) ⟨hx, hb, hml, hown, hts⟩ (cwV 0 hts gX7_allSteps_X7_steps rfl rfl rfl hdX7_steps ⟨Nat.le_of_ble_eq_true rfl, Nat.le_of_ble_eq_true rfl⟩) hK hP hD hS hA (q0 := 0) rfl rfl [0, 1, 2, 3, 4, 5, 6] [] [0, 1, 2, 3, 4, 5, 6] rfl rfl rfl rfl (by decide) (fun _ => rfl) rfl rfl hl.1 rfl (Nat.le_of_ble_eq_true rfl) dX7_allSteps_54 ⟨Nat.zero_le _, Nat.zero_le _⟩ (fun u_44 H locs hw hP hD hS => ?_)
        have r43 := hw
        have hP : va_P G.1 vwCl (W7 G a (sA s0_19 0 (stpZ (s0_19.2 0)))) H := hP
        have hD : va_D A (W7 G a (sA s0_19 0 (stpZ (s0_19.2 0)))) := hD
        refine lv_goto (tgt := 22) hx hb dX7_allSteps_57 (by decide) ?_
        obtain ⟨h46, h47⟩ := h42
        exact ih24 (sA s0_19 0 (stpZ (s0_19.2 0))) _ _ _ ⟨(RG_A rs0_19 (r43.2 0)), h46⟩ h47 hP hD hS (lv_sub hl [0, 1] rfl)
      · have h48 := h30.1 c31
        refine lv_aload_n hx hb dX7_allSteps_49 rfl (lv_at hl 1 rfl) ?_
        obtain ⟨b49, h50⟩ := h48
        obtain ⟨b51, h52⟩ := h50
        obtain ⟨b53, h54⟩ := h52
        refine zc_vv (As := []) (rest := []) (w2 := fun u_56 => W7 G a (sA s0_19 0 (begZ (s0_19.2 0)))) (c_X7_begins l G a s0_19 rs0_19 b49 b51 b53) ⟨hx, hb, hml, hown, hts⟩ (cwV 0 hts gX7_allSteps_X7_begins rfl rfl rfl hdX7_begins ⟨Nat.le_of_ble_eq_true rfl, Nat.le_of_ble_eq_true rfl⟩) hK hP hD hS hA (q0 := 0) rfl rfl [0, 1, 2, 3, 4, 5, 6] [] [0, 1, 2, 3, 4, 5, 6] rfl rfl rfl rfl (by decide) (fun _ => rfl) rfl rfl hl.1 rfl (Nat.le_of_ble_eq_true rfl) dX7_allSteps_50 ⟨Nat.zero_le _, Nat.zero_le _⟩ (fun u_56 H locs hw hP hD hS => ?_)
        have r55 := hw
        have hP : va_P G.1 vwCl (W7 G a (sA s0_19 0 (begZ (s0_19.2 0)))) H := hP
        have hD : va_D A (W7 G a (sA s0_19 0 (begZ (s0_19.2 0)))) := hD
        refine lv_aload_n hx hb dX7_allSteps_53 rfl (lv_at hl 1 rfl) ?_
        obtain ⟨b58, h59⟩ := h54
        obtain ⟨b60, h61⟩ := h59
        obtain ⟨b62, h63⟩ := h61
        obtain ⟨b64, h65⟩ := h63
        refine zc_vv (As := []) (rest := []) (w2 := fun u_67 => W7 G a (sA s0_19 0 (stpZ (begZ (s0_19.2 0))))) (c_X7_steps l G a (sA s0_19 0 (begZ (s0_19.2 0))) (RG_A rs0_19 (r55.2 0)) b58 b60 b62 b64) ⟨hx, hb, hml, hown, hts⟩ (cwV 0 hts gX7_allSteps_X7_steps rfl rfl rfl hdX7_steps ⟨Nat.le_of_ble_eq_true rfl, Nat.le_of_ble_eq_true rfl⟩) hK hP hD hS hA (q0 := 0) rfl rfl [0, 1, 2, 3, 4, 5, 6] [] [0, 1, 2, 3, 4, 5, 6] rfl rfl rfl rfl (by decide) (fun _ => rfl) rfl rfl hl.1 rfl (Nat.le_of_ble_eq_true rfl) dX7_allSteps_54 ⟨Nat.zero_le _, Nat.zero_le _⟩ (fun u_67 H locs hw hP hD hS => ?_)
        have r66 := hw
        have hP : va_P G.1 vwCl (W7 G a (sA s0_19 0 (stpZ (begZ (s0_19.2 0))))) H := hP
        have hD : va_D A (W7 G a (sA s0_19 0 (stpZ (begZ (s0_19.2 0))))) := hD
        refine lv_goto (tgt := 22) hx hb dX7_allSteps_57 (by decide) ?_
        obtain ⟨h69, h70⟩ := h65
        exact ih24 (sA s0_19 0 (stpZ (begZ (s0_19.2 0)))) _ _ _ ⟨(RG_A rs0_19 (r66.2 0)), h69⟩ h70 hP hD hS (lv_sub hl [0, 1] rfl)
    · have h71 := h26.2 c27
      refine lv_aload_n hx hb dX7_allSteps_32 rfl (lv_at hl 1 rfl) ?_
      obtain ⟨b72, h73⟩ := h71
      refine zc_vi (As := []) (rest := []) (w2 := fun u_74 => W7 G a s0_19) (c_X7_runMany l G a s0_19 rs0_19 b72) ⟨hx, hb, hml, hown, hts⟩ (cwV 0 hts gX7_allSteps_X7_runMany rfl rfl rfl hdX7_runMany ⟨Nat.le_of_ble_eq_true rfl, Nat.le_of_ble_eq_true rfl⟩) hK hP hD hS hA (q0 := 0) rfl rfl [0, 1, 2, 3, 4, 5, 6] [] [0, 1, 2, 3, 4, 5, 6] rfl rfl rfl rfl (by decide) (fun _ => rfl) rfl rfl hl.1 rfl (Nat.le_of_ble_eq_true rfl) dX7_allSteps_33 ⟨Nat.zero_le _, Nat.zero_le _⟩ (fun z75 u_74 H locs hw hP hD hS => ?_)
      obtain ⟨rfl, r76⟩ := hw
      have hP : va_P G.1 vwCl (W7 G a s0_19) H := hP
      have hD : va_D A (W7 G a s0_19) := hD
      refine lv_iconst (v := iI 1) hx hb dX7_allSteps_36 rfl ?_
      refine zr_icmp_le (tgt := 60) (x := manyZ (s0_19.2 0) 0) (y := 1) hx hb r76 rg_1 dX7_allSteps_37 (by decide) (fun c77 => ?_) (fun c77 => ?_)
      · have h80 := h73.2 c77
        refine lv_aload_n hx hb dX7_allSteps_60 rfl (lv_at hl 1 rfl) ?_
        refine va_get (v := .ref (a 1)) (ci := 7) (C := RX7) (T := TX7) (N := 12) hx hb hts imX7_allSteps_X7 hown hK hP 0 rfl rfl 0 (by decide) k1 (fun _ h9 => h9) rfl dX7_allSteps_61 ?_
        refine lv_bipush (v := iI 8) hx hb dX7_allSteps_64 (by decide) ?_
        refine zr_iald (n := 370) (f := (s0_19.2 0)) (i := 8) hx hb hK hP 1 rfl rg_8 ⟨by decide, by decide⟩ dX7_allSteps_66 ?_
        refine lv_iload_n hx hb dX7_allSteps_67 rfl (lv_at hl 0 rfl) ?_
        refine zr_isub (x := (s0_19.2 0) 8) (y := (if ((s.2 0) 2) = 1 then uZ (wriZ (s.2 0)) 2 0 else (s.2 0)) 8) hx hb dX7_allSteps_68 ?_
        obtain ⟨r81, h82⟩ := h80
        exact zr_iret (z := ((s0_19.2 0) 8) - ((if ((s.2 0) 2) = 1 then uZ (wriZ (s.2 0)) 2 0 else (s.2 0)) 8)) hx hb hr hlocks hK (s0_19) hP hD hS dX7_allSteps_69 ⟨r81, rs0_19, h82⟩
      · have h83 := h73.1 c77
        refine lv_aload_n hx hb dX7_allSteps_40 rfl (lv_at hl 1 rfl) ?_
        refine va_get (v := .ref (a 1)) (ci := 7) (C := RX7) (T := TX7) (N := 12) hx hb hts imX7_allSteps_X7 hown hK hP 0 rfl rfl 0 (by decide) k1 (fun _ h9 => h9) rfl dX7_allSteps_41 ?_
        refine lv_iconst (v := iI 5) hx hb dX7_allSteps_44 rfl ?_
        refine zr_iald (n := 370) (f := (s0_19.2 0)) (i := 5) hx hb hK hP 1 rfl rg_5 ⟨by decide, by decide⟩ dX7_allSteps_45 ?_
        refine zr_if_ne (tgt := 53) (x := (s0_19.2 0) 5) hx hb ((rs0_19.2 0) 5) dX7_allSteps_46 (by decide) (fun c84 => ?_) (fun c84 => ?_)
        · have h87 := h83.2 c84
          refine lv_aload_n hx hb dX7_allSteps_53 rfl (lv_at hl 1 rfl) ?_
          obtain ⟨b88, h89⟩ := h87
          obtain ⟨b90, h91⟩ := h89
          obtain ⟨b92, h93⟩ := h91
          refine zc_vv (As := []) (rest := []) (w2 := fun u_95 => W7 G a (sA s0_19 0 (stpZ (s0_19.2 0)))) (c_X7_steps l G a s0_19 rs0_19 b72 b88 b90 b92) ⟨hx, hb, hml, hown, hts⟩ (cwV 0 hts gX7_allSteps_X7_steps rfl rfl rfl hdX7_steps ⟨Nat.le_of_ble_eq_true rfl, Nat.le_of_ble_eq_true rfl⟩) hK hP hD hS hA (q0 := 0) rfl rfl [0, 1, 2, 3, 4, 5, 6] [] [0, 1, 2, 3, 4, 5, 6] rfl rfl rfl rfl (by decide) (fun _ => rfl) rfl rfl hl.1 rfl (Nat.le_of_ble_eq_true rfl) dX7_allSteps_54 ⟨Nat.zero_le _, Nat.zero_le _⟩ (fun u_95 H locs hw hP hD hS => ?_)
          have r94 := hw
          have hP : va_P G.1 vwCl (W7 G a (sA s0_19 0 (stpZ (s0_19.2 0)))) H := hP
          have hD : va_D A (W7 G a (sA s0_19 0 (stpZ (s0_19.2 0)))) := hD
          refine lv_goto (tgt := 22) hx hb dX7_allSteps_57 (by decide) ?_
          obtain ⟨h97, h98⟩ := h93
          exact ih24 (sA s0_19 0 (stpZ (s0_19.2 0))) _ _ _ ⟨(RG_A rs0_19 (r94.2 0)), h97⟩ h98 hP hD hS (lv_sub hl [0, 1] rfl)
        · have h99 := h83.1 c84
          refine lv_aload_n hx hb dX7_allSteps_49 rfl (lv_at hl 1 rfl) ?_
          obtain ⟨b100, h101⟩ := h99
          obtain ⟨b102, h103⟩ := h101
          refine zc_vv (As := []) (rest := []) (w2 := fun u_105 => W7 G a (sA s0_19 0 (begZ (s0_19.2 0)))) (c_X7_begins l G a s0_19 rs0_19 b72 b100 b102) ⟨hx, hb, hml, hown, hts⟩ (cwV 0 hts gX7_allSteps_X7_begins rfl rfl rfl hdX7_begins ⟨Nat.le_of_ble_eq_true rfl, Nat.le_of_ble_eq_true rfl⟩) hK hP hD hS hA (q0 := 0) rfl rfl [0, 1, 2, 3, 4, 5, 6] [] [0, 1, 2, 3, 4, 5, 6] rfl rfl rfl rfl (by decide) (fun _ => rfl) rfl rfl hl.1 rfl (Nat.le_of_ble_eq_true rfl) dX7_allSteps_50 ⟨Nat.zero_le _, Nat.zero_le _⟩ (fun u_105 H locs hw hP hD hS => ?_)
          have r104 := hw
          have hP : va_P G.1 vwCl (W7 G a (sA s0_19 0 (begZ (s0_19.2 0)))) H := hP
          have hD : va_D A (W7 G a (sA s0_19 0 (begZ (s0_19.2 0)))) := hD
          refine lv_aload_n hx hb dX7_allSteps_53 rfl (lv_at hl 1 rfl) ?_
          obtain ⟨b107, h108⟩ := h103
          obtain ⟨b109, h110⟩ := h108
          obtain ⟨b111, h112⟩ := h110
          obtain ⟨b113, h114⟩ := h112
          refine zc_vv (As := []) (rest := []) (w2 := fun u_116 => W7 G a (sA s0_19 0 (stpZ (begZ (s0_19.2 0))))) (c_X7_steps l G a (sA s0_19 0 (begZ (s0_19.2 0))) (RG_A rs0_19 (r104.2 0)) b107 b109 b111 b113) ⟨hx, hb, hml, hown, hts⟩ (cwV 0 hts gX7_allSteps_X7_steps rfl rfl rfl hdX7_steps ⟨Nat.le_of_ble_eq_true rfl, Nat.le_of_ble_eq_true rfl⟩) hK hP hD hS hA (q0 := 0) rfl rfl [0, 1, 2, 3, 4, 5, 6] [] [0, 1, 2, 3, 4, 5, 6] rfl rfl rfl rfl (by decide) (fun _ => rfl) rfl rfl hl.1 rfl (Nat.le_of_ble_eq_true rfl) dX7_allSteps_54 ⟨Nat.zero_le _, Nat.zero_le _⟩ (fun u_116 H locs hw hP hD hS => ?_)
          have r115 := hw
          have hP : va_P G.1 vwCl (W7 G a (sA s0_19 0 (stpZ (begZ (s0_19.2 0))))) H := hP
          have hD : va_D A (W7 G a (sA s0_19 0 (stpZ (begZ (s0_19.2 0))))) := hD
          refine lv_goto (tgt := 22) hx hb dX7_allSteps_57 (by decide) ?_
          obtain ⟨h118, h119⟩ := h114
          exact ih24 (sA s0_19 0 (stpZ (begZ (s0_19.2 0)))) _ _ _ ⟨(RG_A rs0_19 (r115.2 0)), h118⟩ h119 hP hD hS (lv_sub hl [0, 1] rfl)
  · intro J16
    refine zr_icmp_ne (tgt := 14) (x := (s.2 0) 2) (y := 1) hx hb ((r_s.2 0) 2) rg_1 dX7_allSteps_7 (by decide) (fun c2 => ?_) (fun c2 => ?_)
    · have h5 := h1.2 c2
      have e0_J16 : (if ((s.2 0) 2) = 1 then uZ (wriZ (s.2 0)) 2 0 else (s.2 0)) = (s.2 0) := (if_neg c2)
      have J9 := J16 _ _ _ (by (try rw [e0_J16]); exact hP) (by (try rw [e0_J16]); exact hD) hS (by (try rw [e0_J16]); exact lv_sub hl [0] rfl) (by rw [show (if ((s.2 0) 2) = 1 then uZ (wriZ (s.2 0)) 2 0 else (s.2 0)) = (s.2 0) from (if_neg c2)]; exact (r_s.2 0))
      exact J9
    · have h6 := h1.1 c2
      refine lv_aload_n hx hb dX7_allSteps_10 rfl (lv_at hl 0 rfl) ?_
      obtain ⟨b7, h8⟩ := h6
      obtain ⟨b9, h10⟩ := h8
      refine zc_vv (As := []) (rest := []) (w2 := fun u_12 => W7 G a (sA s 0 (uZ (wriZ (s.2 0)) 2 0))) (c_X7_finishes l G a s r_s b7 b9) ⟨hx, hb, hml, hown, hts⟩ (cwV 0 hts gX7_allSteps_X7_finishes rfl rfl rfl hdX7_finishes ⟨Nat.le_of_ble_eq_true rfl, Nat.le_of_ble_eq_true rfl⟩) hK hP hD hS hA (q0 := 0) rfl rfl [0, 1, 2, 3, 4, 5, 6] [] [0, 1, 2, 3, 4, 5, 6] rfl rfl rfl rfl (by decide) (fun _ => rfl) rfl rfl hl.1 rfl (Nat.le_of_ble_eq_true rfl) dX7_allSteps_11 ⟨Nat.zero_le _, Nat.zero_le _⟩ (fun u_12 H locs hw hP hD hS => ?_)
      have r11 := hw
      have hP : va_P G.1 vwCl (W7 G a (sA s 0 (uZ (wriZ (s.2 0)) 2 0))) H := hP
      have hD : va_D A (W7 G a (sA s 0 (uZ (wriZ (s.2 0)) 2 0))) := hD
      have e0_J16 : (if ((s.2 0) 2) = 1 then uZ (wriZ (s.2 0)) 2 0 else (s.2 0)) = uZ (wriZ (s.2 0)) 2 0 := (if_pos c2)
      have J9 := J16 _ _ _ (by (try rw [e0_J16]); exact hP) (by (try rw [e0_J16]); exact hD) hS (by (try rw [e0_J16]); exact lv_sub hl [0] rfl) (by rw [show (if ((s.2 0) 2) = 1 then uZ (wriZ (s.2 0)) 2 0 else (s.2 0)) = uZ (wriZ (s.2 0)) 2 0 from (if_pos c2)]; exact (r11.2 0))
      exact J9
theorem c_X7_allSteps (l : Launch) (G : ZG) (a : Nat → Nat) (s : SS)   (r_s : RG s)  (p0 : Vz (s.2 0)) (p1 : Bd (s.2 0) 50000) (p2 : crZ (s.2 0)) : ZI l G yX7_allSteps wsX7_allSteps 5 114 [.ref (a 0)] (W7 G a s) (fun u : SS => W7 G a u) (fun (z : Int) (u : SS) => rg z ∧ RG u ∧ (∃ y : Int → Int, u = sA s 0 y ∧ AllZ (finZ (s.2 0)) y ∧ z = y 8 - (s.2 0) 8 ∧ Vz y ∧ y 4 ≤ (s.2 0) 4 + 50000 ∧ y 7 ≤ (s.2 0) 7 + 100000 ∧ y 8 ≤ (s.2 0) 8 + 50000 ∧ y 9 = (s.2 0) 9 ∧ (s.2 0) 8 ≤ y 8)) :=
  c0_X7_allSteps l G a s (fun r s' => ∃ y : Int → Int, s' = sA s 0 y ∧ AllZ (finZ (s.2 0)) y ∧ r = y 8 - (s.2 0) 8 ∧ Vz y ∧ y 4 ≤ (s.2 0) 4 + 50000 ∧ y 7 ≤ (s.2 0) 7 + 100000 ∧ y 8 ≤ (s.2 0) 8 + 50000 ∧ y 9 = (s.2 0) 9 ∧ (s.2 0) 8 ≤ y 8) r_s  (sp_X7_allSteps s  r_s  p0 p1 p2)
theorem imX7_record_X7 : ∀ w ∈ wsX70, w ∈ wsX7_record := fun _ h => (List.mem_cons_of_mem _ (List.mem_append_right _ h))
theorem hdX7_record : yX7_record.cls = RX7 ∧ yX7_record.cls ≠ "java/lang/invoke/MethodHandle" ∧ yX7_record.cls ≠ "java/lang/invoke/VarHandle" ∧ (parseMethodDescriptor yX7_record.desc).map (fun d => d.parameters.length) = some 0 := by decide +kernel
set_option maxRecDepth 100000 in
set_option maxHeartbeats 4000000 in
theorem c0_X7_record (l : Launch) (G : ZG) (a : Nat → Nat) (s : SS)  (P : SS → Prop) (r_s : RG s)  (hwp : wp_X7_record s P) : ZV l G yX7_record wsX7_record 0 0 [.ref (a 0)] (W7 G a s) (fun u : SS => W7 G a u) (fun (u : SS) => RG u ∧ P u) := by
  unfold wp_X7_record at hwp
  refine zm_v (cc := cX7_record) (maxL := 2) (ret := none) (own := RX7) (lvs := [(0, .ref (a 0))]) (by decide) rfl rfl (Nat.le_of_ble_eq_true rfl) rfl ?_
  intro p e sT m args below meth c ls A hx hb hr hml hown hts hlocks hK hP hD hS hA hl
  have k1 := hts (.fieldLink RX7 29 "GrantedSortModel" "pastMany" "I") (List.mem_of_getElem? (i := 1) rfl)
  have k2 := hts (.fieldLink RX7 13 "GrantedSortModel" "past" "[I") (List.mem_of_getElem? (i := 2) rfl)
  have k3 := hts (.fieldLink RX7 7 "GrantedSortModel" "z" "[I") (List.mem_of_getElem? (i := 3) rfl)
  refine lv_aload_n hx hb dX7_record_0 rfl (lv_at hl 0 rfl) ?_
  refine va_get (v := .int (iI (s.1 2))) (ci := 7) (C := RX7) (T := TX7) (N := 12) hx hb hts imX7_record_X7 hown hK hP 0 rfl rfl 2 (by decide) k1 (fun _ h9 => h9) rfl dX7_record_1 ?_
  refine lv_iconst (v := iI 4) hx hb dX7_record_4 rfl ?_
  refine zr_icmp_ne (tgt := 49) (x := (s.1 2)) (y := 4) hx hb (r_s.1 2) rg_4 dX7_record_5 (by decide) (fun c1 => ?_) (fun c1 => ?_)
  · have h4 := hwp.2 c1
    refine lv_iconst (v := iI 0) hx hb dX7_record_49 rfl ?_
    refine lv_istore_n (lv' := [(1, .int (iI 0)), (0, .ref (a 0))]) hx hb dX7_record_50 rfl hl (by decide) rfl (fun ls hl => ?_)
    obtain ⟨I6, μ7, h8, h9⟩ := h4
    refine zr_loop (G := G) (σ := Int × SS) (fun x_5 => (rg x_5.1 ∧ RG x_5.2) ∧ I6 x_5.1 x_5.2) (fun x_5 => μ7 x_5.1 x_5.2) (fun x_5 => W7 G a x_5.2) (fun x_5 => [(1, .int (iI x_5.1)), (0, .ref (a 0))]) ((0, s)) ⟨⟨rg_0, r_s⟩, h8⟩ hP hD hS (lv_sub hl [0, 1] rfl) ?_
    clear hP hD hS hl
    intro x_5 H locs ls ih10 h11 hP hD hS hl
    obtain ⟨x1_5, s0_5⟩ := x_5
    obtain ⟨⟨rx1_5, rs0_5⟩, h11⟩ := h11
    have h12 := h9 x1_5 s0_5 rx1_5 rs0_5 h11
    have hP : va_P G.1 vwCl (W7 G a s0_5) H := hP
    have hD : va_D A (W7 G a s0_5) := hD
    have hl : lv_has ls 2 [(1, .int (iI x1_5)), (0, .ref (a 0))] := hl
    refine lv_iload_n hx hb dX7_record_51 rfl (lv_at hl 0 rfl) ?_
    refine lv_sipush (v := iI 370) hx hb dX7_record_52 (by decide) ?_
    refine zr_icmp_ge (tgt := 85) (x := x1_5) (y := 370) hx hb rx1_5 rg_370 dX7_record_55 (by decide) (fun c13 => ?_) (fun c13 => ?_)
    · have h16 := h12.2 c13
      refine lv_aload_n hx hb dX7_record_85 rfl (lv_at hl 1 rfl) ?_
      refine lv_dup hx hb dX7_record_86 rfl ?_
      refine va_get (v := .int (iI (s0_5.1 2))) (ci := 7) (C := RX7) (T := TX7) (N := 12) hx hb hts imX7_record_X7 hown hK hP 0 rfl rfl 2 (by decide) k1 (fun _ h9 => h9) rfl dX7_record_87 ?_
      refine lv_iconst (v := iI 1) hx hb dX7_record_90 rfl ?_
      refine zr_iadd (x := (s0_5.1 2)) (y := 1) hx hb dX7_record_91 ?_
      obtain ⟨r17, h18⟩ := h16
      refine va_put (v := .int (iI ((s0_5.1 2) + 1))) (ty := .int) (ci := 7) (C := RX7) (T := TX7) (N := 12) hx hb hts imX7_record_X7 tyX7 tyX7_ok nmX7 hown hK hP hD hS 0 rfl rfl 2 (by decide) k1 (fun _ h9 => h9) rfl (tyX7_ok 2 (by decide)) rfl rfl (Nat.le_of_ble_eq_true rfl) dX7_record_92 (fun H locs hP hD hS => ?_)
      have hP : va_P G.1 vwCl (W7 G a (sS s0_5 2 ((s0_5.1 2) + 1))) H := hP
      have hD : va_D A (W7 G a (sS s0_5 2 ((s0_5.1 2) + 1))) := hD
      exact zr_vret hx hb hr hlocks hK (sS s0_5 2 ((s0_5.1 2) + 1)) hP hD hS dX7_record_95 ⟨(RG_S rs0_5 r17), h18⟩
    · have h19 := h12.1 c13
      refine lv_aload_n hx hb dX7_record_58 rfl (lv_at hl 1 rfl) ?_
      refine va_get (v := .ref (a 2)) (ci := 7) (C := RX7) (T := TX7) (N := 12) hx hb hts imX7_record_X7 hown hK hP 0 rfl rfl 1 (by decide) k2 (fun _ h9 => h9) rfl dX7_record_59 ?_
      refine lv_aload_n hx hb dX7_record_62 rfl (lv_at hl 1 rfl) ?_
      refine va_get (v := .int (iI (s0_5.1 2))) (ci := 7) (C := RX7) (T := TX7) (N := 12) hx hb hts imX7_record_X7 hown hK hP 0 rfl rfl 2 (by decide) k1 (fun _ h9 => h9) rfl dX7_record_63 ?_
      refine lv_sipush (v := iI 370) hx hb dX7_record_66 (by decide) ?_
      refine zr_imul (x := (s0_5.1 2)) (y := 370) hx hb dX7_record_69 ?_
      obtain ⟨r20, h21⟩ := h19
      refine lv_iload_n hx hb dX7_record_70 rfl (lv_at hl 0 rfl) ?_
      refine zr_iadd (x := (s0_5.1 2) * 370) (y := x1_5) hx hb dX7_record_71 ?_
      obtain ⟨r22, h23⟩ := h21
      refine lv_aload_n hx hb dX7_record_72 rfl (lv_at hl 1 rfl) ?_
      refine va_get (v := .ref (a 1)) (ci := 7) (C := RX7) (T := TX7) (N := 12) hx hb hts imX7_record_X7 hown hK hP 0 rfl rfl 0 (by decide) k3 (fun _ h9 => h9) rfl dX7_record_73 ?_
      refine lv_iload_n hx hb dX7_record_76 rfl (lv_at hl 0 rfl) ?_
      obtain ⟨b24, h25⟩ := h23
      refine zr_iald (n := 370) (f := (s0_5.2 0)) (i := x1_5) hx hb hK hP 1 rfl rx1_5 b24 dX7_record_77 ?_
      obtain ⟨b26, h27⟩ := h25
      refine zr_iast (n := 1480) (f := (s0_5.2 1)) (i := ((s0_5.1 2) * 370) + x1_5) (x := (s0_5.2 0) x1_5) hx hb hK hP hD hS 2 rfl r22 b26 dX7_record_78 (fun H locs hP hD hS => ?_)
      have hP : va_P G.1 vwCl (W7 G a (sA s0_5 1 (uZ (s0_5.2 1) (((s0_5.1 2) * 370) + x1_5) ((s0_5.2 0) x1_5)))) H := hP
      have hD : va_D A (W7 G a (sA s0_5 1 (uZ (s0_5.2 1) (((s0_5.1 2) * 370) + x1_5) ((s0_5.2 0) x1_5)))) := hD
      obtain ⟨r28, h29⟩ := h27
      refine zr_iinc (x := x1_5) (lv' := [(1, .int (iI (x1_5 + 1))), (0, .ref (a 0))]) hx hb dX7_record_79 hl (k := 0) rfl (by decide) rfl (fun ls hl => ?_)
      refine lv_goto (tgt := 51) hx hb dX7_record_82 (by decide) ?_
      obtain ⟨h30, h31⟩ := h29
      exact ih10 ((x1_5 + 1, sA s0_5 1 (uZ (s0_5.2 1) (((s0_5.1 2) * 370) + x1_5) ((s0_5.2 0) x1_5)))) _ _ _ ⟨⟨r28, (RG_A rs0_5 (rgA_u (i := ((s0_5.1 2) * 370) + x1_5) (rs0_5.2 1) ((rs0_5.2 0) x1_5)))⟩, h30⟩ h31 hP hD hS (lv_sub hl [0, 1] rfl)
  · have h32 := hwp.1 c1
    refine lv_iconst (v := iI 0) hx hb dX7_record_8 rfl ?_
    refine lv_istore_n (lv' := [(1, .int (iI 0)), (0, .ref (a 0))]) hx hb dX7_record_9 rfl hl (by decide) rfl (fun ls hl => ?_)
    obtain ⟨I34, μ35, h36, h37⟩ := h32
    refine zr_loop (G := G) (σ := Int × SS) (fun x_33 => (rg x_33.1 ∧ RG x_33.2) ∧ I34 x_33.1 x_33.2) (fun x_33 => μ35 x_33.1 x_33.2) (fun x_33 => W7 G a x_33.2) (fun x_33 => [(1, .int (iI x_33.1)), (0, .ref (a 0))]) ((0, s)) ⟨⟨rg_0, r_s⟩, h36⟩ hP hD hS (lv_sub hl [0, 1] rfl) ?_
    clear hP hD hS hl
    intro x_33 H locs ls ih38 h39 hP hD hS hl
    obtain ⟨x1_33, s0_33⟩ := x_33
    obtain ⟨⟨rx1_33, rs0_33⟩, h39⟩ := h39
    have h40 := h37 x1_33 s0_33 rx1_33 rs0_33 h39
    have hP : va_P G.1 vwCl (W7 G a s0_33) H := hP
    have hD : va_D A (W7 G a s0_33) := hD
    have hl : lv_has ls 2 [(1, .int (iI x1_33)), (0, .ref (a 0))] := hl
    refine lv_iload_n hx hb dX7_record_10 rfl (lv_at hl 0 rfl) ?_
    refine lv_sipush (v := iI 1110) hx hb dX7_record_11 (by decide) ?_
    refine zr_icmp_ge (tgt := 39) (x := x1_33) (y := 1110) hx hb rx1_33 rg_1110 dX7_record_14 (by decide) (fun c41 => ?_) (fun c41 => ?_)
    · have h44 := h40.2 c41
      refine lv_aload_n hx hb dX7_record_39 rfl (lv_at hl 1 rfl) ?_
      refine lv_dup hx hb dX7_record_40 rfl ?_
      refine va_get (v := .int (iI (s0_33.1 2))) (ci := 7) (C := RX7) (T := TX7) (N := 12) hx hb hts imX7_record_X7 hown hK hP 0 rfl rfl 2 (by decide) k1 (fun _ h9 => h9) rfl dX7_record_41 ?_
      refine lv_iconst (v := iI 1) hx hb dX7_record_44 rfl ?_
      refine zr_isub (x := (s0_33.1 2)) (y := 1) hx hb dX7_record_45 ?_
      obtain ⟨r45, h46⟩ := h44
      refine va_put (v := .int (iI ((s0_33.1 2) - 1))) (ty := .int) (ci := 7) (C := RX7) (T := TX7) (N := 12) hx hb hts imX7_record_X7 tyX7 tyX7_ok nmX7 hown hK hP hD hS 0 rfl rfl 2 (by decide) k1 (fun _ h9 => h9) rfl (tyX7_ok 2 (by decide)) rfl rfl (Nat.le_of_ble_eq_true rfl) dX7_record_46 (fun H locs hP hD hS => ?_)
      have hP : va_P G.1 vwCl (W7 G a (sS s0_33 2 ((s0_33.1 2) - 1))) H := hP
      have hD : va_D A (W7 G a (sS s0_33 2 ((s0_33.1 2) - 1))) := hD
      refine lv_iconst (v := iI 0) hx hb dX7_record_49 rfl ?_
      refine lv_istore_n (lv' := [(1, .int (iI 0)), (0, .ref (a 0))]) hx hb dX7_record_50 rfl hl (by decide) rfl (fun ls hl => ?_)
      obtain ⟨I48, μ49, h50, h51⟩ := h46
      refine zr_loop (G := G) (σ := Int × SS) (fun x_47 => (rg x_47.1 ∧ RG x_47.2) ∧ I48 x_47.1 x_47.2) (fun x_47 => μ49 x_47.1 x_47.2) (fun x_47 => W7 G a x_47.2) (fun x_47 => [(1, .int (iI x_47.1)), (0, .ref (a 0))]) ((0, sS s0_33 2 ((s0_33.1 2) - 1))) ⟨⟨rg_0, (RG_S rs0_33 r45)⟩, h50⟩ hP hD hS (lv_sub hl [0, 1] rfl) ?_
      clear hP hD hS hl
      intro x_47 H locs ls ih52 h53 hP hD hS hl
      obtain ⟨x1_47, s0_47⟩ := x_47
      obtain ⟨⟨rx1_47, rs0_47⟩, h53⟩ := h53
      have h54 := h51 x1_47 s0_47 rx1_47 rs0_47 h53
      have hP : va_P G.1 vwCl (W7 G a s0_47) H := hP
      have hD : va_D A (W7 G a s0_47) := hD
      have hl : lv_has ls 2 [(1, .int (iI x1_47)), (0, .ref (a 0))] := hl
      refine lv_iload_n hx hb dX7_record_51 rfl (lv_at hl 0 rfl) ?_
      refine lv_sipush (v := iI 370) hx hb dX7_record_52 (by decide) ?_
      refine zr_icmp_ge (tgt := 85) (x := x1_47) (y := 370) hx hb rx1_47 rg_370 dX7_record_55 (by decide) (fun c55 => ?_) (fun c55 => ?_)
      · have h58 := h54.2 c55
        refine lv_aload_n hx hb dX7_record_85 rfl (lv_at hl 1 rfl) ?_
        refine lv_dup hx hb dX7_record_86 rfl ?_
        refine va_get (v := .int (iI (s0_47.1 2))) (ci := 7) (C := RX7) (T := TX7) (N := 12) hx hb hts imX7_record_X7 hown hK hP 0 rfl rfl 2 (by decide) k1 (fun _ h9 => h9) rfl dX7_record_87 ?_
        refine lv_iconst (v := iI 1) hx hb dX7_record_90 rfl ?_
        refine zr_iadd (x := (s0_47.1 2)) (y := 1) hx hb dX7_record_91 ?_
        obtain ⟨r59, h60⟩ := h58
        refine va_put (v := .int (iI ((s0_47.1 2) + 1))) (ty := .int) (ci := 7) (C := RX7) (T := TX7) (N := 12) hx hb hts imX7_record_X7 tyX7 tyX7_ok nmX7 hown hK hP hD hS 0 rfl rfl 2 (by decide) k1 (fun _ h9 => h9) rfl (tyX7_ok 2 (by decide)) rfl rfl (Nat.le_of_ble_eq_true rfl) dX7_record_92 (fun H locs hP hD hS => ?_)
        have hP : va_P G.1 vwCl (W7 G a (sS s0_47 2 ((s0_47.1 2) + 1))) H := hP
        have hD : va_D A (W7 G a (sS s0_47 2 ((s0_47.1 2) + 1))) := hD
        exact zr_vret hx hb hr hlocks hK (sS s0_47 2 ((s0_47.1 2) + 1)) hP hD hS dX7_record_95 ⟨(RG_S rs0_47 r59), h60⟩
      · have h61 := h54.1 c55
        refine lv_aload_n hx hb dX7_record_58 rfl (lv_at hl 1 rfl) ?_
        refine va_get (v := .ref (a 2)) (ci := 7) (C := RX7) (T := TX7) (N := 12) hx hb hts imX7_record_X7 hown hK hP 0 rfl rfl 1 (by decide) k2 (fun _ h9 => h9) rfl dX7_record_59 ?_
        refine lv_aload_n hx hb dX7_record_62 rfl (lv_at hl 1 rfl) ?_
        refine va_get (v := .int (iI (s0_47.1 2))) (ci := 7) (C := RX7) (T := TX7) (N := 12) hx hb hts imX7_record_X7 hown hK hP 0 rfl rfl 2 (by decide) k1 (fun _ h9 => h9) rfl dX7_record_63 ?_
        refine lv_sipush (v := iI 370) hx hb dX7_record_66 (by decide) ?_
        refine zr_imul (x := (s0_47.1 2)) (y := 370) hx hb dX7_record_69 ?_
        obtain ⟨r62, h63⟩ := h61
        refine lv_iload_n hx hb dX7_record_70 rfl (lv_at hl 0 rfl) ?_
        refine zr_iadd (x := (s0_47.1 2) * 370) (y := x1_47) hx hb dX7_record_71 ?_
        obtain ⟨r64, h65⟩ := h63
        refine lv_aload_n hx hb dX7_record_72 rfl (lv_at hl 1 rfl) ?_
        refine va_get (v := .ref (a 1)) (ci := 7) (C := RX7) (T := TX7) (N := 12) hx hb hts imX7_record_X7 hown hK hP 0 rfl rfl 0 (by decide) k3 (fun _ h9 => h9) rfl dX7_record_73 ?_
        refine lv_iload_n hx hb dX7_record_76 rfl (lv_at hl 0 rfl) ?_
        obtain ⟨b66, h67⟩ := h65
        refine zr_iald (n := 370) (f := (s0_47.2 0)) (i := x1_47) hx hb hK hP 1 rfl rx1_47 b66 dX7_record_77 ?_
        obtain ⟨b68, h69⟩ := h67
        refine zr_iast (n := 1480) (f := (s0_47.2 1)) (i := ((s0_47.1 2) * 370) + x1_47) (x := (s0_47.2 0) x1_47) hx hb hK hP hD hS 2 rfl r64 b68 dX7_record_78 (fun H locs hP hD hS => ?_)
        have hP : va_P G.1 vwCl (W7 G a (sA s0_47 1 (uZ (s0_47.2 1) (((s0_47.1 2) * 370) + x1_47) ((s0_47.2 0) x1_47)))) H := hP
        have hD : va_D A (W7 G a (sA s0_47 1 (uZ (s0_47.2 1) (((s0_47.1 2) * 370) + x1_47) ((s0_47.2 0) x1_47)))) := hD
        obtain ⟨r70, h71⟩ := h69
        refine zr_iinc (x := x1_47) (lv' := [(1, .int (iI (x1_47 + 1))), (0, .ref (a 0))]) hx hb dX7_record_79 hl (k := 0) rfl (by decide) rfl (fun ls hl => ?_)
        refine lv_goto (tgt := 51) hx hb dX7_record_82 (by decide) ?_
        obtain ⟨h72, h73⟩ := h71
        exact ih52 ((x1_47 + 1, sA s0_47 1 (uZ (s0_47.2 1) (((s0_47.1 2) * 370) + x1_47) ((s0_47.2 0) x1_47)))) _ _ _ ⟨⟨r70, (RG_A rs0_47 (rgA_u (i := ((s0_47.1 2) * 370) + x1_47) (rs0_47.2 1) ((rs0_47.2 0) x1_47)))⟩, h72⟩ h73 hP hD hS (lv_sub hl [0, 1] rfl)
    · have h74 := h40.1 c41
      refine lv_aload_n hx hb dX7_record_17 rfl (lv_at hl 1 rfl) ?_
      refine va_get (v := .ref (a 2)) (ci := 7) (C := RX7) (T := TX7) (N := 12) hx hb hts imX7_record_X7 hown hK hP 0 rfl rfl 1 (by decide) k2 (fun _ h9 => h9) rfl dX7_record_18 ?_
      refine lv_iload_n hx hb dX7_record_21 rfl (lv_at hl 0 rfl) ?_
      refine lv_aload_n hx hb dX7_record_22 rfl (lv_at hl 1 rfl) ?_
      refine va_get (v := .ref (a 2)) (ci := 7) (C := RX7) (T := TX7) (N := 12) hx hb hts imX7_record_X7 hown hK hP 0 rfl rfl 1 (by decide) k2 (fun _ h9 => h9) rfl dX7_record_23 ?_
      refine lv_iload_n hx hb dX7_record_26 rfl (lv_at hl 0 rfl) ?_
      refine lv_sipush (v := iI 370) hx hb dX7_record_27 (by decide) ?_
      refine zr_iadd (x := x1_33) (y := 370) hx hb dX7_record_30 ?_
      obtain ⟨r75, h76⟩ := h74
      obtain ⟨b77, h78⟩ := h76
      refine zr_iald (n := 1480) (f := (s0_33.2 1)) (i := x1_33 + 370) hx hb hK hP 2 rfl r75 b77 dX7_record_31 ?_
      obtain ⟨b79, h80⟩ := h78
      refine zr_iast (n := 1480) (f := (s0_33.2 1)) (i := x1_33) (x := (s0_33.2 1) (x1_33 + 370)) hx hb hK hP hD hS 2 rfl rx1_33 b79 dX7_record_32 (fun H locs hP hD hS => ?_)
      have hP : va_P G.1 vwCl (W7 G a (sA s0_33 1 (uZ (s0_33.2 1) x1_33 ((s0_33.2 1) (x1_33 + 370))))) H := hP
      have hD : va_D A (W7 G a (sA s0_33 1 (uZ (s0_33.2 1) x1_33 ((s0_33.2 1) (x1_33 + 370))))) := hD
      obtain ⟨r81, h82⟩ := h80
      refine zr_iinc (x := x1_33) (lv' := [(1, .int (iI (x1_33 + 1))), (0, .ref (a 0))]) hx hb dX7_record_33 hl (k := 0) rfl (by decide) rfl (fun ls hl => ?_)
      refine lv_goto (tgt := 10) hx hb dX7_record_36 (by decide) ?_
      obtain ⟨h83, h84⟩ := h82
      exact ih38 ((x1_33 + 1, sA s0_33 1 (uZ (s0_33.2 1) x1_33 ((s0_33.2 1) (x1_33 + 370))))) _ _ _ ⟨⟨r81, (RG_A rs0_33 (rgA_u (i := x1_33) (rs0_33.2 1) ((rs0_33.2 1) (x1_33 + 370))))⟩, h83⟩ h84 hP hD hS (lv_sub hl [0, 1] rfl)
theorem c_X7_record (l : Launch) (G : ZG) (a : Nat → Nat) (s : SS)   (r_s : RG s)  (p0 : 0 ≤ (s.1 2) ∧ (s.1 2) ≤ 4) : ZV l G yX7_record wsX7_record 0 0 [.ref (a 0)] (W7 G a s) (fun _ : Unit => W7 G a (sS (sA s 1 (recP (s.2 1) (s.1 2) (s.2 0))) 2 (recN (s.1 2) + 1))) (fun (_ : Unit) => RG (sS (sA s 1 (recP (s.2 1) (s.1 2) (s.2 0))) 2 (recN (s.1 2) + 1))) := by
  refine ZV.fn (w1 := fun u : SS => W7 G a u) (fun  u hq => ?_) (c0_X7_record l G a s (fun o0 => o0 = (sS (sA s 1 (recP (s.2 1) (s.1 2) (s.2 0))) 2 (recN (s.1 2) + 1))) r_s  (sp_X7_record s r_s  p0))
  obtain ⟨ro0, eo0⟩ := hq
  exact ⟨by rw [eo0], (by rw [← eo0]; exact ro0)⟩
theorem imX7_undo_X7 : ∀ w ∈ wsX70, w ∈ wsX7_undo := fun _ h => (List.mem_cons_of_mem _ (List.mem_append_right _ h))
theorem hdX7_undo : yX7_undo.cls = RX7 ∧ yX7_undo.cls ≠ "java/lang/invoke/MethodHandle" ∧ yX7_undo.cls ≠ "java/lang/invoke/VarHandle" ∧ (parseMethodDescriptor yX7_undo.desc).map (fun d => d.parameters.length) = some 0 := by decide +kernel
set_option maxRecDepth 100000 in
set_option maxHeartbeats 4000000 in
theorem c0_X7_undo (l : Launch) (G : ZG) (a : Nat → Nat) (s : SS)  (P : Int → SS → Prop) (r_s : RG s)  (hwp : wp_X7_undo s P) : ZI l G yX7_undo wsX7_undo 0 0 [.ref (a 0)] (W7 G a s) (fun u : SS => W7 G a u) (fun (z : Int) (u : SS) => rg z ∧ RG u ∧ P z u) := by
  unfold wp_X7_undo at hwp
  refine zm_i (cc := cX7_undo) (maxL := 2) (ret := some .int) (own := RX7) (lvs := [(0, .ref (a 0))]) (by decide) rfl rfl (Nat.le_of_ble_eq_true rfl) rfl ?_
  intro p e sT m args below meth c ls A hx hb hr hml hown hts hlocks hK hP hD hS hA hl
  have k1 := hts (.fieldLink RX7 29 "GrantedSortModel" "pastMany" "I") (List.mem_of_getElem? (i := 1) rfl)
  have k2 := hts (.fieldLink RX7 7 "GrantedSortModel" "z" "[I") (List.mem_of_getElem? (i := 2) rfl)
  have k3 := hts (.fieldLink RX7 13 "GrantedSortModel" "past" "[I") (List.mem_of_getElem? (i := 3) rfl)
  refine lv_aload_n hx hb dX7_undo_0 rfl (lv_at hl 0 rfl) ?_
  refine va_get (v := .int (iI (s.1 2))) (ci := 7) (C := RX7) (T := TX7) (N := 12) hx hb hts imX7_undo_X7 hown hK hP 0 rfl rfl 2 (by decide) k1 (fun _ h9 => h9) rfl dX7_undo_1 ?_
  refine zr_if_ne (tgt := 10) (x := (s.1 2)) hx hb (r_s.1 2) dX7_undo_4 (by decide) (fun c1 => ?_) (fun c1 => ?_)
  · have h4 := hwp.2 c1
    refine lv_aload_n hx hb dX7_undo_10 rfl (lv_at hl 0 rfl) ?_
    refine lv_dup hx hb dX7_undo_11 rfl ?_
    refine va_get (v := .int (iI (s.1 2))) (ci := 7) (C := RX7) (T := TX7) (N := 12) hx hb hts imX7_undo_X7 hown hK hP 0 rfl rfl 2 (by decide) k1 (fun _ h9 => h9) rfl dX7_undo_12 ?_
    refine lv_iconst (v := iI 1) hx hb dX7_undo_15 rfl ?_
    refine zr_isub (x := (s.1 2)) (y := 1) hx hb dX7_undo_16 ?_
    obtain ⟨r5, h6⟩ := h4
    refine va_put (v := .int (iI ((s.1 2) - 1))) (ty := .int) (ci := 7) (C := RX7) (T := TX7) (N := 12) hx hb hts imX7_undo_X7 tyX7 tyX7_ok nmX7 hown hK hP hD hS 0 rfl rfl 2 (by decide) k1 (fun _ h9 => h9) rfl (tyX7_ok 2 (by decide)) rfl rfl (Nat.le_of_ble_eq_true rfl) dX7_undo_17 (fun H locs hP hD hS => ?_)
    have hP : va_P G.1 vwCl (W7 G a (sS s 2 ((s.1 2) - 1))) H := hP
    have hD : va_D A (W7 G a (sS s 2 ((s.1 2) - 1))) := hD
    refine lv_iconst (v := iI 0) hx hb dX7_undo_20 rfl ?_
    refine lv_istore_n (lv' := [(1, .int (iI 0)), (0, .ref (a 0))]) hx hb dX7_undo_21 rfl hl (by decide) rfl (fun ls hl => ?_)
    obtain ⟨I8, μ9, h10, h11⟩ := h6
    refine zr_loop (G := G) (σ := Int × SS) (fun x_7 => (rg x_7.1 ∧ RG x_7.2) ∧ I8 x_7.1 x_7.2) (fun x_7 => μ9 x_7.1 x_7.2) (fun x_7 => W7 G a x_7.2) (fun x_7 => [(1, .int (iI x_7.1)), (0, .ref (a 0))]) ((0, sS s 2 ((s.1 2) - 1))) ⟨⟨rg_0, (RG_S r_s r5)⟩, h10⟩ hP hD hS (lv_sub hl [0, 1] rfl) ?_
    clear hP hD hS hl
    intro x_7 H locs ls ih12 h13 hP hD hS hl
    obtain ⟨x1_7, s0_7⟩ := x_7
    obtain ⟨⟨rx1_7, rs0_7⟩, h13⟩ := h13
    have h14 := h11 x1_7 s0_7 rx1_7 rs0_7 h13
    have hP : va_P G.1 vwCl (W7 G a s0_7) H := hP
    have hD : va_D A (W7 G a s0_7) := hD
    have hl : lv_has ls 2 [(1, .int (iI x1_7)), (0, .ref (a 0))] := hl
    refine lv_iload_n hx hb dX7_undo_22 rfl (lv_at hl 0 rfl) ?_
    refine lv_sipush (v := iI 370) hx hb dX7_undo_23 (by decide) ?_
    refine zr_icmp_ge (tgt := 56) (x := x1_7) (y := 370) hx hb rx1_7 rg_370 dX7_undo_26 (by decide) (fun c15 => ?_) (fun c15 => ?_)
    · have h18 := h14.2 c15
      refine lv_aload_n hx hb dX7_undo_56 rfl (lv_at hl 1 rfl) ?_
      refine va_get (v := .int (iI (s0_7.1 2))) (ci := 7) (C := RX7) (T := TX7) (N := 12) hx hb hts imX7_undo_X7 hown hK hP 0 rfl rfl 2 (by decide) k1 (fun _ h9 => h9) rfl dX7_undo_57 ?_
      exact zr_iret (z := (s0_7.1 2)) hx hb hr hlocks hK (s0_7) hP hD hS dX7_undo_60 ⟨(rs0_7.1 2), rs0_7, h18⟩
    · have h19 := h14.1 c15
      refine lv_aload_n hx hb dX7_undo_29 rfl (lv_at hl 1 rfl) ?_
      refine va_get (v := .ref (a 1)) (ci := 7) (C := RX7) (T := TX7) (N := 12) hx hb hts imX7_undo_X7 hown hK hP 0 rfl rfl 0 (by decide) k2 (fun _ h9 => h9) rfl dX7_undo_30 ?_
      refine lv_iload_n hx hb dX7_undo_33 rfl (lv_at hl 0 rfl) ?_
      refine lv_aload_n hx hb dX7_undo_34 rfl (lv_at hl 1 rfl) ?_
      refine va_get (v := .ref (a 2)) (ci := 7) (C := RX7) (T := TX7) (N := 12) hx hb hts imX7_undo_X7 hown hK hP 0 rfl rfl 1 (by decide) k3 (fun _ h9 => h9) rfl dX7_undo_35 ?_
      refine lv_aload_n hx hb dX7_undo_38 rfl (lv_at hl 1 rfl) ?_
      refine va_get (v := .int (iI (s0_7.1 2))) (ci := 7) (C := RX7) (T := TX7) (N := 12) hx hb hts imX7_undo_X7 hown hK hP 0 rfl rfl 2 (by decide) k1 (fun _ h9 => h9) rfl dX7_undo_39 ?_
      refine lv_sipush (v := iI 370) hx hb dX7_undo_42 (by decide) ?_
      refine zr_imul (x := (s0_7.1 2)) (y := 370) hx hb dX7_undo_45 ?_
      obtain ⟨r20, h21⟩ := h19
      refine lv_iload_n hx hb dX7_undo_46 rfl (lv_at hl 0 rfl) ?_
      refine zr_iadd (x := (s0_7.1 2) * 370) (y := x1_7) hx hb dX7_undo_47 ?_
      obtain ⟨r22, h23⟩ := h21
      obtain ⟨b24, h25⟩ := h23
      refine zr_iald (n := 1480) (f := (s0_7.2 1)) (i := ((s0_7.1 2) * 370) + x1_7) hx hb hK hP 2 rfl r22 b24 dX7_undo_48 ?_
      obtain ⟨b26, h27⟩ := h25
      refine zr_iast (n := 370) (f := (s0_7.2 0)) (i := x1_7) (x := (s0_7.2 1) (((s0_7.1 2) * 370) + x1_7)) hx hb hK hP hD hS 1 rfl rx1_7 b26 dX7_undo_49 (fun H locs hP hD hS => ?_)
      have hP : va_P G.1 vwCl (W7 G a (sA s0_7 0 (uZ (s0_7.2 0) x1_7 ((s0_7.2 1) (((s0_7.1 2) * 370) + x1_7))))) H := hP
      have hD : va_D A (W7 G a (sA s0_7 0 (uZ (s0_7.2 0) x1_7 ((s0_7.2 1) (((s0_7.1 2) * 370) + x1_7))))) := hD
      obtain ⟨r28, h29⟩ := h27
      refine zr_iinc (x := x1_7) (lv' := [(1, .int (iI (x1_7 + 1))), (0, .ref (a 0))]) hx hb dX7_undo_50 hl (k := 0) rfl (by decide) rfl (fun ls hl => ?_)
      refine lv_goto (tgt := 22) hx hb dX7_undo_53 (by decide) ?_
      obtain ⟨h30, h31⟩ := h29
      exact ih12 ((x1_7 + 1, sA s0_7 0 (uZ (s0_7.2 0) x1_7 ((s0_7.2 1) (((s0_7.1 2) * 370) + x1_7))))) _ _ _ ⟨⟨r28, (RG_A rs0_7 (rgA_u (i := x1_7) (rs0_7.2 0) ((rs0_7.2 1) (((s0_7.1 2) * 370) + x1_7))))⟩, h30⟩ h31 hP hD hS (lv_sub hl [0, 1] rfl)
  · have h32 := hwp.1 c1
    refine lv_bipush (v := iI (-3)) hx hb dX7_undo_7 (by decide) ?_
    exact zr_iret (z := (-3)) hx hb hr hlocks hK (s) hP hD hS dX7_undo_9 ⟨rg_m3, r_s, h32⟩
theorem c_X7_undo (l : Launch) (G : ZG) (a : Nat → Nat) (s : SS)   (r_s : RG s)  (p0 : 0 ≤ (s.1 2) ∧ (s.1 2) ≤ 4) : ZI l G yX7_undo wsX7_undo 0 0 [.ref (a 0)] (W7 G a s) (fun _ : Unit => W7 G a (sS (sA s 0 (if (s.1 2) = 0 then (s.2 0) else cpF (s.2 1) (s.2 0) (((s.1 2) - 1) * 370))) 2 (if (s.1 2) = 0 then (s.1 2) else (s.1 2) - 1))) (fun (z : Int) (_ : Unit) => z = (if (s.1 2) = 0 then -3 else (s.1 2) - 1) ∧ rg z ∧ RG (sS (sA s 0 (if (s.1 2) = 0 then (s.2 0) else cpF (s.2 1) (s.2 0) (((s.1 2) - 1) * 370))) 2 (if (s.1 2) = 0 then (s.1 2) else (s.1 2) - 1))) := by
  refine ZI.fn (w1 := fun u : SS => W7 G a u) (fun z u hq => ?_) (c0_X7_undo l G a s (fun z o0 => z = (if (s.1 2) = 0 then -3 else (s.1 2) - 1) ∧ o0 = (sS (sA s 0 (if (s.1 2) = 0 then (s.2 0) else cpF (s.2 1) (s.2 0) (((s.1 2) - 1) * 370))) 2 (if (s.1 2) = 0 then (s.1 2) else (s.1 2) - 1))) r_s  (sp_X7_undo s r_s  p0))
  obtain ⟨rz, ro0, ⟨ez, eo0⟩⟩ := hq
  exact ⟨by rw [eo0], ⟨ez, rz, (by rw [← eo0]; exact ro0)⟩⟩
theorem imX7_save_X7 : ∀ w ∈ wsX70, w ∈ wsX7_save := fun _ h => (List.mem_cons_of_mem _ (List.mem_append_right _ h))
theorem hdX7_save : yX7_save.cls = RX7 ∧ yX7_save.cls ≠ "java/lang/invoke/MethodHandle" ∧ yX7_save.cls ≠ "java/lang/invoke/VarHandle" ∧ (parseMethodDescriptor yX7_save.desc).map (fun d => d.parameters.length) = some 0 := by decide +kernel
set_option maxRecDepth 100000 in
set_option maxHeartbeats 4000000 in
theorem c0_X7_save (l : Launch) (G : ZG) (a : Nat → Nat) (s : SS)  (P : Int → SS → Prop) (r_s : RG s)  (hwp : wp_X7_save s P) : ZI l G yX7_save wsX7_save 0 0 [.ref (a 0)] (W7 G a s) (fun u : SS => W7 G a u) (fun (z : Int) (u : SS) => rg z ∧ RG u ∧ P z u) := by
  unfold wp_X7_save at hwp
  refine zm_i (cc := cX7_save) (maxL := 2) (ret := some .int) (own := RX7) (lvs := [(0, .ref (a 0))]) (by decide) rfl rfl (Nat.le_of_ble_eq_true rfl) rfl ?_
  intro p e sT m args below meth c ls A hx hb hr hml hown hts hlocks hK hP hD hS hA hl
  have k1 := hts (.fieldLink RX7 33 "GrantedSortModel" "isKept" "Z") (List.mem_of_getElem? (i := 1) rfl)
  have k2 := hts (.fieldLink RX7 16 "GrantedSortModel" "kept" "[I") (List.mem_of_getElem? (i := 2) rfl)
  have k3 := hts (.fieldLink RX7 7 "GrantedSortModel" "z" "[I") (List.mem_of_getElem? (i := 3) rfl)
  refine lv_aload_n hx hb dX7_save_0 rfl (lv_at hl 0 rfl) ?_
  refine lv_iconst (v := iI 1) hx hb dX7_save_1 rfl ?_
  refine va_put (v := .int (iI 1)) (ty := .boolean) (ci := 7) (C := RX7) (T := TX7) (N := 12) hx hb hts imX7_save_X7 tyX7 tyX7_ok nmX7 hown hK hP hD hS 0 rfl rfl 4 (by decide) k1 (fun _ h9 => h9) rfl (tyX7_ok 4 (by decide)) rfl rfl (Nat.le_of_ble_eq_true rfl) dX7_save_2 (fun H locs hP hD hS => ?_)
  have hP : va_P G.1 vwCl (W7 G a (sS s 4 1)) H := hP
  have hD : va_D A (W7 G a (sS s 4 1)) := hD
  refine lv_iconst (v := iI 0) hx hb dX7_save_5 rfl ?_
  refine lv_istore_n (lv' := [(1, .int (iI 0)), (0, .ref (a 0))]) hx hb dX7_save_6 rfl hl (by decide) rfl (fun ls hl => ?_)
  obtain ⟨I2, μ3, h4, h5⟩ := hwp
  refine zr_loop (G := G) (σ := Int × SS) (fun x_1 => (rg x_1.1 ∧ RG x_1.2) ∧ I2 x_1.1 x_1.2) (fun x_1 => μ3 x_1.1 x_1.2) (fun x_1 => W7 G a x_1.2) (fun x_1 => [(1, .int (iI x_1.1)), (0, .ref (a 0))]) ((0, sS s 4 1)) ⟨⟨rg_0, (RG_S r_s rg_1)⟩, h4⟩ hP hD hS (lv_sub hl [0, 1] rfl) ?_
  clear hP hD hS hl
  intro x_1 H locs ls ih6 h7 hP hD hS hl
  obtain ⟨x1_1, s0_1⟩ := x_1
  obtain ⟨⟨rx1_1, rs0_1⟩, h7⟩ := h7
  have h8 := h5 x1_1 s0_1 rx1_1 rs0_1 h7
  have hP : va_P G.1 vwCl (W7 G a s0_1) H := hP
  have hD : va_D A (W7 G a s0_1) := hD
  have hl : lv_has ls 2 [(1, .int (iI x1_1)), (0, .ref (a 0))] := hl
  refine lv_iload_n hx hb dX7_save_7 rfl (lv_at hl 0 rfl) ?_
  refine lv_sipush (v := iI 370) hx hb dX7_save_8 (by decide) ?_
  refine zr_icmp_ge (tgt := 32) (x := x1_1) (y := 370) hx hb rx1_1 rg_370 dX7_save_11 (by decide) (fun c9 => ?_) (fun c9 => ?_)
  · have h12 := h8.2 c9
    refine lv_aload_n hx hb dX7_save_32 rfl (lv_at hl 1 rfl) ?_
    refine va_get (v := .ref (a 1)) (ci := 7) (C := RX7) (T := TX7) (N := 12) hx hb hts imX7_save_X7 hown hK hP 0 rfl rfl 0 (by decide) k3 (fun _ h9 => h9) rfl dX7_save_33 ?_
    refine lv_iconst (v := iI 3) hx hb dX7_save_36 rfl ?_
    refine zr_iald (n := 370) (f := (s0_1.2 0)) (i := 3) hx hb hK hP 1 rfl rg_3 ⟨by decide, by decide⟩ dX7_save_37 ?_
    exact zr_iret (z := (s0_1.2 0) 3) hx hb hr hlocks hK (s0_1) hP hD hS dX7_save_38 ⟨((rs0_1.2 0) 3), rs0_1, h12⟩
  · have h13 := h8.1 c9
    refine lv_aload_n hx hb dX7_save_14 rfl (lv_at hl 1 rfl) ?_
    refine va_get (v := .ref (a 3)) (ci := 7) (C := RX7) (T := TX7) (N := 12) hx hb hts imX7_save_X7 hown hK hP 0 rfl rfl 3 (by decide) k2 (fun _ h9 => h9) rfl dX7_save_15 ?_
    refine lv_iload_n hx hb dX7_save_18 rfl (lv_at hl 0 rfl) ?_
    refine lv_aload_n hx hb dX7_save_19 rfl (lv_at hl 1 rfl) ?_
    refine va_get (v := .ref (a 1)) (ci := 7) (C := RX7) (T := TX7) (N := 12) hx hb hts imX7_save_X7 hown hK hP 0 rfl rfl 0 (by decide) k3 (fun _ h9 => h9) rfl dX7_save_20 ?_
    refine lv_iload_n hx hb dX7_save_23 rfl (lv_at hl 0 rfl) ?_
    obtain ⟨b14, h15⟩ := h13
    refine zr_iald (n := 370) (f := (s0_1.2 0)) (i := x1_1) hx hb hK hP 1 rfl rx1_1 b14 dX7_save_24 ?_
    refine zr_iast (n := 370) (f := (s0_1.2 3)) (i := x1_1) (x := (s0_1.2 0) x1_1) hx hb hK hP hD hS 3 rfl rx1_1 b14 dX7_save_25 (fun H locs hP hD hS => ?_)
    have hP : va_P G.1 vwCl (W7 G a (sA s0_1 3 (uZ (s0_1.2 3) x1_1 ((s0_1.2 0) x1_1)))) H := hP
    have hD : va_D A (W7 G a (sA s0_1 3 (uZ (s0_1.2 3) x1_1 ((s0_1.2 0) x1_1)))) := hD
    obtain ⟨r16, h17⟩ := h15
    refine zr_iinc (x := x1_1) (lv' := [(1, .int (iI (x1_1 + 1))), (0, .ref (a 0))]) hx hb dX7_save_26 hl (k := 0) rfl (by decide) rfl (fun ls hl => ?_)
    refine lv_goto (tgt := 7) hx hb dX7_save_29 (by decide) ?_
    obtain ⟨h18, h19⟩ := h17
    exact ih6 ((x1_1 + 1, sA s0_1 3 (uZ (s0_1.2 3) x1_1 ((s0_1.2 0) x1_1)))) _ _ _ ⟨⟨r16, (RG_A rs0_1 (rgA_u (i := x1_1) (rs0_1.2 3) ((rs0_1.2 0) x1_1)))⟩, h18⟩ h19 hP hD hS (lv_sub hl [0, 1] rfl)
theorem c_X7_save (l : Launch) (G : ZG) (a : Nat → Nat) (s : SS)   (r_s : RG s)   : ZI l G yX7_save wsX7_save 0 0 [.ref (a 0)] (W7 G a s) (fun _ : Unit => W7 G a (sS (sA s 3 (cpF (s.2 0) (s.2 3) 0)) 4 1)) (fun (z : Int) (_ : Unit) => z = ((s.2 0) 3) ∧ rg z ∧ RG (sS (sA s 3 (cpF (s.2 0) (s.2 3) 0)) 4 1)) := by
  refine ZI.fn (w1 := fun u : SS => W7 G a u) (fun z u hq => ?_) (c0_X7_save l G a s (fun z o0 => z = ((s.2 0) 3) ∧ o0 = (sS (sA s 3 (cpF (s.2 0) (s.2 3) 0)) 4 1)) r_s  (sp_X7_save s r_s  ))
  obtain ⟨rz, ro0, ⟨ez, eo0⟩⟩ := hq
  exact ⟨by rw [eo0], ⟨ez, rz, (by rw [← eo0]; exact ro0)⟩⟩
