theorem hdL_run : yL_run.cls ≠ "java/lang/invoke/MethodHandle" ∧ yL_run.cls ≠ "java/lang/invoke/VarHandle" ∧ (parseMethodDescriptor yL_run.desc).map (fun d => d.parameters.length) = some 8 := by decide +kernel
set_option maxRecDepth 100000 in
set_option maxHeartbeats 4000000 in
theorem c0_L_run (l : Launch) (G : ZG) (f_a0 : Nat) (n_a0 : Nat) (l_a0 : Nat) (d_a0 : Nat) (m_a0 : Nat) (k_a0 : Nat) (c_a0 : Nat) (t_a0 : Nat) (f_x : Int → Int) (n_x : Int → Int) (l_x : Int → Int) (d_x : Int → Int) (m_x : Int → Int) (k_x : Int → Int) (c_x : Int → Int) (t_x : Int → Int)  (P : Int → (Int → Int) → (Int → Int) → (Int → Int) → (Int → Int) → (Int → Int) → (Int → Int) → Prop) (r_f_x : rgA f_x) (r_n_x : rgA n_x) (r_l_x : rgA l_x) (r_d_x : rgA d_x) (r_m_x : rgA m_x) (r_k_x : rgA k_x) (r_c_x : rgA c_x) (r_t_x : rgA t_x)  (hwp : wp_L_run f_x n_x l_x d_x m_x k_x c_x t_x P) : ZI l G yL_run wsL_run 2 58 [.ref f_a0, .ref n_a0, .ref l_a0, .ref d_a0, .ref m_a0, .ref k_a0, .ref c_a0, .ref t_a0] (flt [[(f_a0, eI G 60 f_x)], [(n_a0, eI G 64 n_x)], [(l_a0, eI G 64 l_x)], [(d_a0, eI G 64 d_x)], [(m_a0, eI G 20 m_x)], [(k_a0, eI G 60 k_x)], [(c_a0, eI G 60 c_x)], [(t_a0, eI G 12 t_x)]]) (fun u : (Int → Int) × (Int → Int) × (Int → Int) × (Int → Int) × (Int → Int) × (Int → Int) => flt [[(f_a0, eI G 60 u.1)], [(n_a0, eI G 64 u.2.1)], [(l_a0, eI G 64 u.2.2.1)], [(d_a0, eI G 64 u.2.2.2.1)], [(m_a0, eI G 20 m_x)], [(k_a0, eI G 60 k_x)], [(c_a0, eI G 60 u.2.2.2.2.1)], [(t_a0, eI G 12 u.2.2.2.2.2)]]) (fun (z : Int) (u : (Int → Int) × (Int → Int) × (Int → Int) × (Int → Int) × (Int → Int) × (Int → Int)) => rg z ∧ rgA u.1 ∧ rgA u.2.1 ∧ rgA u.2.2.1 ∧ rgA u.2.2.2.1 ∧ rgA u.2.2.2.2.1 ∧ rgA u.2.2.2.2.2 ∧ P z u.1 u.2.1 u.2.2.1 u.2.2.2.1 u.2.2.2.2.1 u.2.2.2.2.2) := by
  unfold wp_L_run at hwp
  refine zm_i (cc := cL_run) (maxL := 9) (ret := some .int) (own := RL) (lvs := [(0, .ref f_a0), (1, .ref n_a0), (2, .ref l_a0), (3, .ref d_a0), (4, .ref m_a0), (5, .ref k_a0), (6, .ref c_a0), (7, .ref t_a0)]) (by decide) rfl rfl (Nat.le_of_ble_eq_true rfl) rfl ?_
  intro p e sT m args below meth c ls A hx hb hr hml hown hts hlocks hK hP hD hS hA hl
  refine lv_aload hx hb dL_run_0 (lv_at hl 7 rfl) ?_
  refine lv_iconst (v := iI 2) hx hb dL_run_2 rfl ?_
  refine zr_iald (n := 12) (f := t_x) (i := 2) hx hb hK hP 7 rfl rg_2 ⟨by decide, by decide⟩ dL_run_3 ?_
  refine lv_iconst (v := iI 1) hx hb dL_run_4 rfl ?_
  refine zr_icmp_ne (tgt := 27) (x := t_x 2) (y := 1) hx hb (r_t_x 2) rg_1 dL_run_5 (by decide) (fun c1 => ?_) (fun c1 => ?_)
  · have h4 := hwp.2 c1
    refine lv_aload hx hb dL_run_27 (lv_at hl 7 rfl) ?_
    refine lv_bipush (v := iI 8) hx hb dL_run_29 (by decide) ?_
    refine zr_iald (n := 12) (f := t_x) (i := 8) hx hb hK hP 7 rfl rg_8 ⟨by decide, by decide⟩ dL_run_31 ?_
    refine lv_istore (lv' := [(8, .int (iI (t_x 8))), (0, .ref f_a0), (1, .ref n_a0), (2, .ref l_a0), (3, .ref d_a0), (4, .ref m_a0), (5, .ref k_a0), (6, .ref c_a0), (7, .ref t_a0)]) hx hb dL_run_32 hl (by decide) rfl (fun ls hl => ?_)
    obtain ⟨I6, μ7, h8, h9⟩ := h4
    refine zr_loop (G := G) (σ := (Int → Int) × (Int → Int) × (Int → Int) × (Int → Int) × (Int → Int) × (Int → Int)) (fun x_5 => (rgA x_5.1 ∧ rgA x_5.2.1 ∧ rgA x_5.2.2.1 ∧ rgA x_5.2.2.2.1 ∧ rgA x_5.2.2.2.2.1 ∧ rgA x_5.2.2.2.2.2) ∧ I6 x_5.1 x_5.2.1 x_5.2.2.1 x_5.2.2.2.1 x_5.2.2.2.2.1 x_5.2.2.2.2.2) (fun x_5 => μ7 x_5.1 x_5.2.1 x_5.2.2.1 x_5.2.2.2.1 x_5.2.2.2.2.1 x_5.2.2.2.2.2) (fun x_5 => flt [[(f_a0, eI G 60 x_5.1)], [(n_a0, eI G 64 x_5.2.1)], [(l_a0, eI G 64 x_5.2.2.1)], [(d_a0, eI G 64 x_5.2.2.2.1)], [(m_a0, eI G 20 m_x)], [(k_a0, eI G 60 k_x)], [(c_a0, eI G 60 x_5.2.2.2.2.1)], [(t_a0, eI G 12 x_5.2.2.2.2.2)]]) (fun x_5 => [(8, .int (iI (t_x 8))), (0, .ref f_a0), (1, .ref n_a0), (2, .ref l_a0), (3, .ref d_a0), (5, .ref k_a0), (6, .ref c_a0), (7, .ref t_a0)]) ((f_x, n_x, l_x, d_x, c_x, t_x)) ⟨⟨r_f_x, r_n_x, r_l_x, r_d_x, r_c_x, r_t_x⟩, h8⟩ hP hD hS (lv_sub hl [0, 1, 2, 3, 4, 6, 7, 8] rfl) ?_
    clear hP hD hS hl
    intro x_5 H locs ls ih10 h11 hP hD hS hl
    obtain ⟨x0_5, x1_5, x2_5, x3_5, x6_5, x7_5⟩ := x_5
    obtain ⟨⟨rx0_5, rx1_5, rx2_5, rx3_5, rx6_5, rx7_5⟩, h11⟩ := h11
    have h12 := h9 x0_5 x1_5 x2_5 x3_5 x6_5 x7_5 rx0_5 rx1_5 rx2_5 rx3_5 rx6_5 rx7_5 h11
    have hP : va_P G.1 vwCl (flt [[(f_a0, eI G 60 x0_5)], [(n_a0, eI G 64 x1_5)], [(l_a0, eI G 64 x2_5)], [(d_a0, eI G 64 x3_5)], [(m_a0, eI G 20 m_x)], [(k_a0, eI G 60 k_x)], [(c_a0, eI G 60 x6_5)], [(t_a0, eI G 12 x7_5)]]) H := hP
    have hD : va_D A (flt [[(f_a0, eI G 60 x0_5)], [(n_a0, eI G 64 x1_5)], [(l_a0, eI G 64 x2_5)], [(d_a0, eI G 64 x3_5)], [(m_a0, eI G 20 m_x)], [(k_a0, eI G 60 k_x)], [(c_a0, eI G 60 x6_5)], [(t_a0, eI G 12 x7_5)]]) := hD
    have hl : lv_has ls 9 [(8, .int (iI (t_x 8))), (0, .ref f_a0), (1, .ref n_a0), (2, .ref l_a0), (3, .ref d_a0), (5, .ref k_a0), (6, .ref c_a0), (7, .ref t_a0)] := hl
    refine lv_aload hx hb dL_run_34 (lv_at hl 7 rfl) ?_
    refine lv_iconst (v := iI 5) hx hb dL_run_36 rfl ?_
    refine zr_iald (n := 12) (f := x7_5) (i := 5) hx hb hK hP 7 rfl rg_5 ⟨by decide, by decide⟩ dL_run_37 ?_
    refine lv_iconst (v := iI 1) hx hb dL_run_38 rfl ?_
    refine zr_icmp_eq (tgt := 51) (x := x7_5 5) (y := 1) hx hb (rx7_5 5) rg_1 dL_run_39 (by decide) (fun c13 => ?_) (fun c13 => ?_)
    · have h16 := h12.1 c13
      refine lv_aload hx hb dL_run_51 (lv_at hl 7 rfl) ?_
      refine lv_iconst (v := iI 5) hx hb dL_run_53 rfl ?_
      refine zr_iald (n := 12) (f := x7_5) (i := 5) hx hb hK hP 7 rfl rg_5 ⟨by decide, by decide⟩ dL_run_54 ?_
      refine zr_if_ne (tgt := 72) (x := x7_5 5) hx hb (rx7_5 5) dL_run_55 (by decide) (fun c17 => ?_) (fun c17 => ?_)
      · have h20 := h16.2 c17
        refine lv_aload hx hb dL_run_72 (lv_at hl 7 rfl) ?_
        refine lv_iconst (v := iI 5) hx hb dL_run_74 rfl ?_
        refine zr_iald (n := 12) (f := x7_5) (i := 5) hx hb hK hP 7 rfl rg_5 ⟨by decide, by decide⟩ dL_run_75 ?_
        refine zr_if_ne (tgt := 87) (x := x7_5 5) hx hb (rx7_5 5) dL_run_76 (by decide) (fun _ => ?_) (fun c => absurd c c17)
        refine lv_aload_n hx hb dL_run_87 rfl (lv_at hl 1 rfl) ?_
        refine lv_aload_n hx hb dL_run_88 rfl (lv_at hl 2 rfl) ?_
        refine lv_aload_n hx hb dL_run_89 rfl (lv_at hl 3 rfl) ?_
        refine lv_aload_n hx hb dL_run_90 rfl (lv_at hl 4 rfl) ?_
        refine lv_aload hx hb dL_run_91 (lv_at hl 5 rfl) ?_
        refine lv_aload hx hb dL_run_93 (lv_at hl 6 rfl) ?_
        refine lv_aload hx hb dL_run_95 (lv_at hl 7 rfl) ?_
        obtain ⟨g21, g22, h23⟩ := h20
        obtain ⟨b24, h25⟩ := h23
        obtain ⟨b26, h27⟩ := h25
        obtain ⟨b28, h29⟩ := h27
        obtain ⟨b30, h31⟩ := h29
        refine zs_vv (As := [.ref f_a0, .ref n_a0, .ref l_a0, .ref d_a0, .ref k_a0, .ref c_a0, .ref t_a0]) (rest := []) (L := [[(f_a0, eI G 60 x0_5)], [(n_a0, eI G 64 x1_5)], [(l_a0, eI G 64 x2_5)], [(d_a0, eI G 64 x3_5)], [(m_a0, eI G 20 m_x)], [(k_a0, eI G 60 k_x)], [(c_a0, eI G 60 x6_5)], [(t_a0, eI G 12 x7_5)]]) (LC := [[(f_a0, eI G 60 x0_5)], [(n_a0, eI G 64 x1_5)], [(l_a0, eI G 64 x2_5)], [(d_a0, eI G 64 x3_5)], [(k_a0, eI G 60 k_x)], [(c_a0, eI G 60 x6_5)], [(t_a0, eI G 12 x7_5)]]) (LR := [[(m_a0, eI G 20 m_x)]]) (LC1 := fun (u_38 : (Int → Int) × (Int → Int) × (Int → Int) × (Int → Int) × (Int → Int) × (Int → Int)) => [[(f_a0, eI G 60 u_38.1)], [(n_a0, eI G 64 u_38.2.1)], [(l_a0, eI G 64 u_38.2.2.1)], [(d_a0, eI G 64 u_38.2.2.2.1)], [(k_a0, eI G 60 k_x)], [(c_a0, eI G 60 u_38.2.2.2.2.1)], [(t_a0, eI G 12 u_38.2.2.2.2.2)]]) (L2 := fun (u_38 : (Int → Int) × (Int → Int) × (Int → Int) × (Int → Int) × (Int → Int) × (Int → Int)) => [[(f_a0, eI G 60 u_38.1)], [(n_a0, eI G 64 u_38.2.1)], [(l_a0, eI G 64 u_38.2.2.1)], [(d_a0, eI G 64 u_38.2.2.2.1)], [(m_a0, eI G 20 m_x)], [(k_a0, eI G 60 k_x)], [(c_a0, eI G 60 u_38.2.2.2.2.1)], [(t_a0, eI G 12 u_38.2.2.2.2.2)]]) (c_L_step l G f_a0 n_a0 l_a0 d_a0 k_a0 c_a0 t_a0 x0_5 x1_5 x2_5 x3_5 k_x x6_5 x7_5 g21 g22 rx0_5 rx1_5 rx2_5 rx3_5 r_k_x rx6_5 rx7_5 b24 b26 b28 b30) ⟨hx, hb, hml, hown, hts⟩ (va_cwS 7 hts gL_run_L_step rfl rfl rfl hdL_step ⟨Nat.le_of_ble_eq_true rfl, Nat.le_of_ble_eq_true rfl⟩) hK hP hD hS hA [0, 1, 2, 3, 5, 6, 7] [4] [0, 1, 2, 3, 7, 4, 5, 6] rfl rfl 8 rfl (by decide) (fun _ => rfl) (fun _ => rfl) (by decide) rfl hl.1 rfl (Nat.le_of_ble_eq_true rfl) dL_run_97 ⟨Nat.zero_le _, Nat.zero_le _⟩ (fun u_38 H locs hw hP hD hS => ?_)
        obtain ⟨u_f_x32, u_n_x33, u_l_x34, u_d_x35, u_c_x36, u_t_x37⟩ := u_38
        obtain ⟨ru_f_x32, ru_n_x33, ru_l_x34, ru_d_x35, ru_c_x36, ru_t_x37, h40⟩ := hw
        have h41 := h31 u_f_x32 u_n_x33 u_l_x34 u_d_x35 u_c_x36 u_t_x37 ru_f_x32 ru_n_x33 ru_l_x34 ru_d_x35 ru_c_x36 ru_t_x37 h40
        have hP : va_P G.1 vwCl (flt [[(f_a0, eI G 60 u_f_x32)], [(n_a0, eI G 64 u_n_x33)], [(l_a0, eI G 64 u_l_x34)], [(d_a0, eI G 64 u_d_x35)], [(m_a0, eI G 20 m_x)], [(k_a0, eI G 60 k_x)], [(c_a0, eI G 60 u_c_x36)], [(t_a0, eI G 12 u_t_x37)]]) H := hP
        have hD : va_D A (flt [[(f_a0, eI G 60 u_f_x32)], [(n_a0, eI G 64 u_n_x33)], [(l_a0, eI G 64 u_l_x34)], [(d_a0, eI G 64 u_d_x35)], [(m_a0, eI G 20 m_x)], [(k_a0, eI G 60 k_x)], [(c_a0, eI G 60 u_c_x36)], [(t_a0, eI G 12 u_t_x37)]]) := hD
        refine lv_goto (tgt := 34) hx hb dL_run_100 (by decide) ?_
        obtain ⟨h42, h43⟩ := h41
        exact ih10 ((u_f_x32, u_n_x33, u_l_x34, u_d_x35, u_c_x36, u_t_x37)) _ _ _ ⟨⟨ru_f_x32, ru_n_x33, ru_l_x34, ru_d_x35, ru_c_x36, ru_t_x37⟩, h42⟩ h43 hP hD hS (lv_sub hl [0, 1, 2, 3, 4, 5, 6, 7] rfl)
      · have h44 := h16.1 c17
        refine lv_aload hx hb dL_run_58 (lv_at hl 7 rfl) ?_
        refine lv_iconst (v := iI 0) hx hb dL_run_60 rfl ?_
        refine zr_iald (n := 12) (f := x7_5) (i := 0) hx hb hK hP 7 rfl rg_0 ⟨by decide, by decide⟩ dL_run_61 ?_
        obtain ⟨b45, h46⟩ := h44
        refine zc_si (As := [.int (iI (x7_5 0))]) (rest := []) (c_L_ways l G (x7_5 0) (rx7_5 0) b45) ⟨hx, hb, hml, hown, hts⟩ (va_cwS 1 hts gL_run_L_ways rfl rfl rfl hdL_ways ⟨Nat.le_of_ble_eq_true rfl, Nat.le_of_ble_eq_true rfl⟩) hK hP hD hS hA rfl hl.1 rfl (Nat.le_of_ble_eq_true rfl) dL_run_62 ⟨Nat.zero_le _, Nat.zero_le _⟩ (fun z48 H locs hw hP hD hS => ?_)
        obtain ⟨rfl, r49⟩ := hw
        have hP : va_P G.1 vwCl (flt [[(f_a0, eI G 60 x0_5)], [(n_a0, eI G 64 x1_5)], [(l_a0, eI G 64 x2_5)], [(d_a0, eI G 64 x3_5)], [(m_a0, eI G 20 m_x)], [(k_a0, eI G 60 k_x)], [(c_a0, eI G 60 x6_5)], [(t_a0, eI G 12 x7_5)]]) H := hP
        have hD : va_D A (flt [[(f_a0, eI G 60 x0_5)], [(n_a0, eI G 64 x1_5)], [(l_a0, eI G 64 x2_5)], [(d_a0, eI G 64 x3_5)], [(m_a0, eI G 20 m_x)], [(k_a0, eI G 60 k_x)], [(c_a0, eI G 60 x6_5)], [(t_a0, eI G 12 x7_5)]]) := hD
        refine lv_iconst (v := iI 2) hx hb dL_run_65 rfl ?_
        refine zr_icmp_ge (tgt := 72) (x := waysZ (x7_5 0)) (y := 2) hx hb r49 rg_2 dL_run_66 (by decide) (fun c50 => ?_) (fun c50 => ?_)
        · have h53 := h46.2 c50
          refine lv_aload hx hb dL_run_72 (lv_at hl 7 rfl) ?_
          refine lv_iconst (v := iI 5) hx hb dL_run_74 rfl ?_
          refine zr_iald (n := 12) (f := x7_5) (i := 5) hx hb hK hP 7 rfl rg_5 ⟨by decide, by decide⟩ dL_run_75 ?_
          refine zr_if_ne (tgt := 87) (x := x7_5 5) hx hb (rx7_5 5) dL_run_76 (by decide) (fun c => absurd c17 c) (fun _ => ?_)
          refine lv_aload_n hx hb dL_run_79 rfl (lv_at hl 2 rfl) ?_
          refine lv_aload_n hx hb dL_run_80 rfl (lv_at hl 3 rfl) ?_
          refine lv_aload_n hx hb dL_run_81 rfl (lv_at hl 4 rfl) ?_
          refine lv_aload hx hb dL_run_82 (lv_at hl 7 rfl) ?_
          obtain ⟨g54, g55, g56, g57, h58⟩ := h53
          obtain ⟨b59, h60⟩ := h58
          obtain ⟨b61, h62⟩ := h60
          obtain ⟨b63, h64⟩ := h62
          refine zs_vv (As := [.ref n_a0, .ref l_a0, .ref d_a0, .ref t_a0]) (rest := []) (L := [[(f_a0, eI G 60 x0_5)], [(n_a0, eI G 64 x1_5)], [(l_a0, eI G 64 x2_5)], [(d_a0, eI G 64 x3_5)], [(m_a0, eI G 20 m_x)], [(k_a0, eI G 60 k_x)], [(c_a0, eI G 60 x6_5)], [(t_a0, eI G 12 x7_5)]]) (LC := [[(n_a0, eI G 64 x1_5)], [(l_a0, eI G 64 x2_5)], [(d_a0, eI G 64 x3_5)], [(t_a0, eI G 12 x7_5)]]) (LR := [[(f_a0, eI G 60 x0_5)], [(m_a0, eI G 20 m_x)], [(k_a0, eI G 60 k_x)], [(c_a0, eI G 60 x6_5)]]) (LC1 := fun (u_69 : (Int → Int) × (Int → Int) × (Int → Int) × (Int → Int)) => [[(n_a0, eI G 64 u_69.1)], [(l_a0, eI G 64 u_69.2.1)], [(d_a0, eI G 64 u_69.2.2.1)], [(t_a0, eI G 12 u_69.2.2.2)]]) (L2 := fun (u_69 : (Int → Int) × (Int → Int) × (Int → Int) × (Int → Int)) => [[(f_a0, eI G 60 x0_5)], [(n_a0, eI G 64 u_69.1)], [(l_a0, eI G 64 u_69.2.1)], [(d_a0, eI G 64 u_69.2.2.1)], [(m_a0, eI G 20 m_x)], [(k_a0, eI G 60 k_x)], [(c_a0, eI G 60 x6_5)], [(t_a0, eI G 12 u_69.2.2.2)]]) (c_L_begin l G n_a0 l_a0 d_a0 t_a0 x1_5 x2_5 x3_5 x7_5 g54 g55 g56 g57 rx1_5 rx2_5 rx3_5 rx7_5 b59 b61 b63) ⟨hx, hb, hml, hown, hts⟩ (va_cwS 4 hts gL_run_L_begin rfl rfl rfl hdL_begin ⟨Nat.le_of_ble_eq_true rfl, Nat.le_of_ble_eq_true rfl⟩) hK hP hD hS hA [1, 2, 3, 7] [0, 4, 5, 6] [4, 0, 1, 2, 5, 6, 7, 3] rfl rfl 8 rfl (by decide) (fun _ => rfl) (fun _ => rfl) (by decide) rfl hl.1 rfl (Nat.le_of_ble_eq_true rfl) dL_run_84 ⟨Nat.zero_le _, Nat.zero_le _⟩ (fun u_69 H locs hw hP hD hS => ?_)
          obtain ⟨u_n_x65, u_l_x66, u_d_x67, u_t_x68⟩ := u_69
          obtain ⟨ru_n_x65, ru_l_x66, ru_d_x67, ru_t_x68, h71⟩ := hw
          have h72 := h64 u_n_x65 u_l_x66 u_d_x67 u_t_x68 ru_n_x65 ru_l_x66 ru_d_x67 ru_t_x68 h71
          have hP : va_P G.1 vwCl (flt [[(f_a0, eI G 60 x0_5)], [(n_a0, eI G 64 u_n_x65)], [(l_a0, eI G 64 u_l_x66)], [(d_a0, eI G 64 u_d_x67)], [(m_a0, eI G 20 m_x)], [(k_a0, eI G 60 k_x)], [(c_a0, eI G 60 x6_5)], [(t_a0, eI G 12 u_t_x68)]]) H := hP
          have hD : va_D A (flt [[(f_a0, eI G 60 x0_5)], [(n_a0, eI G 64 u_n_x65)], [(l_a0, eI G 64 u_l_x66)], [(d_a0, eI G 64 u_d_x67)], [(m_a0, eI G 20 m_x)], [(k_a0, eI G 60 k_x)], [(c_a0, eI G 60 x6_5)], [(t_a0, eI G 12 u_t_x68)]]) := hD
          refine lv_aload_n hx hb dL_run_87 rfl (lv_at hl 1 rfl) ?_
          refine lv_aload_n hx hb dL_run_88 rfl (lv_at hl 2 rfl) ?_
          refine lv_aload_n hx hb dL_run_89 rfl (lv_at hl 3 rfl) ?_
          refine lv_aload_n hx hb dL_run_90 rfl (lv_at hl 4 rfl) ?_
          refine lv_aload hx hb dL_run_91 (lv_at hl 5 rfl) ?_
          refine lv_aload hx hb dL_run_93 (lv_at hl 6 rfl) ?_
          refine lv_aload hx hb dL_run_95 (lv_at hl 7 rfl) ?_
          obtain ⟨g73, g74, h75⟩ := h72
          obtain ⟨b76, h77⟩ := h75
          obtain ⟨b78, h79⟩ := h77
          obtain ⟨b80, h81⟩ := h79
          obtain ⟨b82, h83⟩ := h81
          refine zs_vv (As := [.ref f_a0, .ref n_a0, .ref l_a0, .ref d_a0, .ref k_a0, .ref c_a0, .ref t_a0]) (rest := []) (L := [[(f_a0, eI G 60 x0_5)], [(n_a0, eI G 64 u_n_x65)], [(l_a0, eI G 64 u_l_x66)], [(d_a0, eI G 64 u_d_x67)], [(m_a0, eI G 20 m_x)], [(k_a0, eI G 60 k_x)], [(c_a0, eI G 60 x6_5)], [(t_a0, eI G 12 u_t_x68)]]) (LC := [[(f_a0, eI G 60 x0_5)], [(n_a0, eI G 64 u_n_x65)], [(l_a0, eI G 64 u_l_x66)], [(d_a0, eI G 64 u_d_x67)], [(k_a0, eI G 60 k_x)], [(c_a0, eI G 60 x6_5)], [(t_a0, eI G 12 u_t_x68)]]) (LR := [[(m_a0, eI G 20 m_x)]]) (LC1 := fun (u_90 : (Int → Int) × (Int → Int) × (Int → Int) × (Int → Int) × (Int → Int) × (Int → Int)) => [[(f_a0, eI G 60 u_90.1)], [(n_a0, eI G 64 u_90.2.1)], [(l_a0, eI G 64 u_90.2.2.1)], [(d_a0, eI G 64 u_90.2.2.2.1)], [(k_a0, eI G 60 k_x)], [(c_a0, eI G 60 u_90.2.2.2.2.1)], [(t_a0, eI G 12 u_90.2.2.2.2.2)]]) (L2 := fun (u_90 : (Int → Int) × (Int → Int) × (Int → Int) × (Int → Int) × (Int → Int) × (Int → Int)) => [[(f_a0, eI G 60 u_90.1)], [(n_a0, eI G 64 u_90.2.1)], [(l_a0, eI G 64 u_90.2.2.1)], [(d_a0, eI G 64 u_90.2.2.2.1)], [(m_a0, eI G 20 m_x)], [(k_a0, eI G 60 k_x)], [(c_a0, eI G 60 u_90.2.2.2.2.1)], [(t_a0, eI G 12 u_90.2.2.2.2.2)]]) (c_L_step l G f_a0 n_a0 l_a0 d_a0 k_a0 c_a0 t_a0 x0_5 u_n_x65 u_l_x66 u_d_x67 k_x x6_5 u_t_x68 g73 g74 rx0_5 ru_n_x65 ru_l_x66 ru_d_x67 r_k_x rx6_5 ru_t_x68 b76 b78 b80 b82) ⟨hx, hb, hml, hown, hts⟩ (va_cwS 7 hts gL_run_L_step rfl rfl rfl hdL_step ⟨Nat.le_of_ble_eq_true rfl, Nat.le_of_ble_eq_true rfl⟩) hK hP hD hS hA [0, 1, 2, 3, 5, 6, 7] [4] [0, 1, 2, 3, 7, 4, 5, 6] rfl rfl 8 rfl (by decide) (fun _ => rfl) (fun _ => rfl) (by decide) rfl hl.1 rfl (Nat.le_of_ble_eq_true rfl) dL_run_97 ⟨Nat.zero_le _, Nat.zero_le _⟩ (fun u_90 H locs hw hP hD hS => ?_)
          obtain ⟨u_f_x84, u_n_x85, u_l_x86, u_d_x87, u_c_x88, u_t_x89⟩ := u_90
          obtain ⟨ru_f_x84, ru_n_x85, ru_l_x86, ru_d_x87, ru_c_x88, ru_t_x89, h92⟩ := hw
          have h93 := h83 u_f_x84 u_n_x85 u_l_x86 u_d_x87 u_c_x88 u_t_x89 ru_f_x84 ru_n_x85 ru_l_x86 ru_d_x87 ru_c_x88 ru_t_x89 h92
          have hP : va_P G.1 vwCl (flt [[(f_a0, eI G 60 u_f_x84)], [(n_a0, eI G 64 u_n_x85)], [(l_a0, eI G 64 u_l_x86)], [(d_a0, eI G 64 u_d_x87)], [(m_a0, eI G 20 m_x)], [(k_a0, eI G 60 k_x)], [(c_a0, eI G 60 u_c_x88)], [(t_a0, eI G 12 u_t_x89)]]) H := hP
          have hD : va_D A (flt [[(f_a0, eI G 60 u_f_x84)], [(n_a0, eI G 64 u_n_x85)], [(l_a0, eI G 64 u_l_x86)], [(d_a0, eI G 64 u_d_x87)], [(m_a0, eI G 20 m_x)], [(k_a0, eI G 60 k_x)], [(c_a0, eI G 60 u_c_x88)], [(t_a0, eI G 12 u_t_x89)]]) := hD
          refine lv_goto (tgt := 34) hx hb dL_run_100 (by decide) ?_
          obtain ⟨h94, h95⟩ := h93
          exact ih10 ((u_f_x84, u_n_x85, u_l_x86, u_d_x87, u_c_x88, u_t_x89)) _ _ _ ⟨⟨ru_f_x84, ru_n_x85, ru_l_x86, ru_d_x87, ru_c_x88, ru_t_x89⟩, h94⟩ h95 hP hD hS (lv_sub hl [0, 1, 2, 3, 4, 5, 6, 7] rfl)
        · have h96 := h46.1 c50
          refine lv_bipush (v := iI (-3)) hx hb dL_run_69 (by decide) ?_
          exact zr_iret (z := (-3)) hx hb hr hlocks hK ((x0_5, x1_5, x2_5, x3_5, x6_5, x7_5)) hP hD hS dL_run_71 ⟨rg_m3, rx0_5, rx1_5, rx2_5, rx3_5, rx6_5, rx7_5, h96⟩
    · have h97 := h12.2 c13
      refine lv_aload hx hb dL_run_42 (lv_at hl 7 rfl) ?_
      refine lv_bipush (v := iI 10) hx hb dL_run_44 (by decide) ?_
      refine zr_iald (n := 12) (f := x7_5) (i := 10) hx hb hK hP 7 rfl rg_10 ⟨by decide, by decide⟩ dL_run_46 ?_
      refine lv_iconst (v := iI 1) hx hb dL_run_47 rfl ?_
      refine zr_icmp_le (tgt := 103) (x := x7_5 10) (y := 1) hx hb (rx7_5 10) rg_1 dL_run_48 (by decide) (fun c98 => ?_) (fun c98 => ?_)
      · have h101 := h97.2 c98
        refine lv_aload hx hb dL_run_103 (lv_at hl 7 rfl) ?_
        refine lv_bipush (v := iI 8) hx hb dL_run_105 (by decide) ?_
        refine zr_iald (n := 12) (f := x7_5) (i := 8) hx hb hK hP 7 rfl rg_8 ⟨by decide, by decide⟩ dL_run_107 ?_
        refine lv_iload hx hb dL_run_108 (lv_at hl 0 rfl) ?_
        refine zr_isub (x := x7_5 8) (y := t_x 8) hx hb dL_run_110 ?_
        obtain ⟨r102, h103⟩ := h101
        exact zr_iret (z := (x7_5 8) - (t_x 8)) hx hb hr hlocks hK ((x0_5, x1_5, x2_5, x3_5, x6_5, x7_5)) hP hD hS dL_run_111 ⟨r102, rx0_5, rx1_5, rx2_5, rx3_5, rx6_5, rx7_5, h103⟩
      · have h104 := h97.1 c98
        refine lv_aload hx hb dL_run_51 (lv_at hl 7 rfl) ?_
        refine lv_iconst (v := iI 5) hx hb dL_run_53 rfl ?_
        refine zr_iald (n := 12) (f := x7_5) (i := 5) hx hb hK hP 7 rfl rg_5 ⟨by decide, by decide⟩ dL_run_54 ?_
        refine zr_if_ne (tgt := 72) (x := x7_5 5) hx hb (rx7_5 5) dL_run_55 (by decide) (fun c105 => ?_) (fun c105 => ?_)
        · have h108 := h104.2 c105
          refine lv_aload hx hb dL_run_72 (lv_at hl 7 rfl) ?_
          refine lv_iconst (v := iI 5) hx hb dL_run_74 rfl ?_
          refine zr_iald (n := 12) (f := x7_5) (i := 5) hx hb hK hP 7 rfl rg_5 ⟨by decide, by decide⟩ dL_run_75 ?_
          refine zr_if_ne (tgt := 87) (x := x7_5 5) hx hb (rx7_5 5) dL_run_76 (by decide) (fun _ => ?_) (fun c => absurd c c105)
          refine lv_aload_n hx hb dL_run_87 rfl (lv_at hl 1 rfl) ?_
          refine lv_aload_n hx hb dL_run_88 rfl (lv_at hl 2 rfl) ?_
          refine lv_aload_n hx hb dL_run_89 rfl (lv_at hl 3 rfl) ?_
          refine lv_aload_n hx hb dL_run_90 rfl (lv_at hl 4 rfl) ?_
          refine lv_aload hx hb dL_run_91 (lv_at hl 5 rfl) ?_
          refine lv_aload hx hb dL_run_93 (lv_at hl 6 rfl) ?_
          refine lv_aload hx hb dL_run_95 (lv_at hl 7 rfl) ?_
          obtain ⟨g109, g110, h111⟩ := h108
          obtain ⟨b112, h113⟩ := h111
          obtain ⟨b114, h115⟩ := h113
          obtain ⟨b116, h117⟩ := h115
          obtain ⟨b118, h119⟩ := h117
          refine zs_vv (As := [.ref f_a0, .ref n_a0, .ref l_a0, .ref d_a0, .ref k_a0, .ref c_a0, .ref t_a0]) (rest := []) (L := [[(f_a0, eI G 60 x0_5)], [(n_a0, eI G 64 x1_5)], [(l_a0, eI G 64 x2_5)], [(d_a0, eI G 64 x3_5)], [(m_a0, eI G 20 m_x)], [(k_a0, eI G 60 k_x)], [(c_a0, eI G 60 x6_5)], [(t_a0, eI G 12 x7_5)]]) (LC := [[(f_a0, eI G 60 x0_5)], [(n_a0, eI G 64 x1_5)], [(l_a0, eI G 64 x2_5)], [(d_a0, eI G 64 x3_5)], [(k_a0, eI G 60 k_x)], [(c_a0, eI G 60 x6_5)], [(t_a0, eI G 12 x7_5)]]) (LR := [[(m_a0, eI G 20 m_x)]]) (LC1 := fun (u_126 : (Int → Int) × (Int → Int) × (Int → Int) × (Int → Int) × (Int → Int) × (Int → Int)) => [[(f_a0, eI G 60 u_126.1)], [(n_a0, eI G 64 u_126.2.1)], [(l_a0, eI G 64 u_126.2.2.1)], [(d_a0, eI G 64 u_126.2.2.2.1)], [(k_a0, eI G 60 k_x)], [(c_a0, eI G 60 u_126.2.2.2.2.1)], [(t_a0, eI G 12 u_126.2.2.2.2.2)]]) (L2 := fun (u_126 : (Int → Int) × (Int → Int) × (Int → Int) × (Int → Int) × (Int → Int) × (Int → Int)) => [[(f_a0, eI G 60 u_126.1)], [(n_a0, eI G 64 u_126.2.1)], [(l_a0, eI G 64 u_126.2.2.1)], [(d_a0, eI G 64 u_126.2.2.2.1)], [(m_a0, eI G 20 m_x)], [(k_a0, eI G 60 k_x)], [(c_a0, eI G 60 u_126.2.2.2.2.1)], [(t_a0, eI G 12 u_126.2.2.2.2.2)]]) (c_L_step l G f_a0 n_a0 l_a0 d_a0 k_a0 c_a0 t_a0 x0_5 x1_5 x2_5 x3_5 k_x x6_5 x7_5 g109 g110 rx0_5 rx1_5 rx2_5 rx3_5 r_k_x rx6_5 rx7_5 b112 b114 b116 b118) ⟨hx, hb, hml, hown, hts⟩ (va_cwS 7 hts gL_run_L_step rfl rfl rfl hdL_step ⟨Nat.le_of_ble_eq_true rfl, Nat.le_of_ble_eq_true rfl⟩) hK hP hD hS hA [0, 1, 2, 3, 5, 6, 7] [4] [0, 1, 2, 3, 7, 4, 5, 6] rfl rfl 8 rfl (by decide) (fun _ => rfl) (fun _ => rfl) (by decide) rfl hl.1 rfl (Nat.le_of_ble_eq_true rfl) dL_run_97 ⟨Nat.zero_le _, Nat.zero_le _⟩ (fun u_126 H locs hw hP hD hS => ?_)
          obtain ⟨u_f_x120, u_n_x121, u_l_x122, u_d_x123, u_c_x124, u_t_x125⟩ := u_126
          obtain ⟨ru_f_x120, ru_n_x121, ru_l_x122, ru_d_x123, ru_c_x124, ru_t_x125, h128⟩ := hw
          have h129 := h119 u_f_x120 u_n_x121 u_l_x122 u_d_x123 u_c_x124 u_t_x125 ru_f_x120 ru_n_x121 ru_l_x122 ru_d_x123 ru_c_x124 ru_t_x125 h128
          have hP : va_P G.1 vwCl (flt [[(f_a0, eI G 60 u_f_x120)], [(n_a0, eI G 64 u_n_x121)], [(l_a0, eI G 64 u_l_x122)], [(d_a0, eI G 64 u_d_x123)], [(m_a0, eI G 20 m_x)], [(k_a0, eI G 60 k_x)], [(c_a0, eI G 60 u_c_x124)], [(t_a0, eI G 12 u_t_x125)]]) H := hP
          have hD : va_D A (flt [[(f_a0, eI G 60 u_f_x120)], [(n_a0, eI G 64 u_n_x121)], [(l_a0, eI G 64 u_l_x122)], [(d_a0, eI G 64 u_d_x123)], [(m_a0, eI G 20 m_x)], [(k_a0, eI G 60 k_x)], [(c_a0, eI G 60 u_c_x124)], [(t_a0, eI G 12 u_t_x125)]]) := hD
          refine lv_goto (tgt := 34) hx hb dL_run_100 (by decide) ?_
          obtain ⟨h130, h131⟩ := h129
          exact ih10 ((u_f_x120, u_n_x121, u_l_x122, u_d_x123, u_c_x124, u_t_x125)) _ _ _ ⟨⟨ru_f_x120, ru_n_x121, ru_l_x122, ru_d_x123, ru_c_x124, ru_t_x125⟩, h130⟩ h131 hP hD hS (lv_sub hl [0, 1, 2, 3, 4, 5, 6, 7] rfl)
        · have h132 := h104.1 c105
          refine lv_aload hx hb dL_run_58 (lv_at hl 7 rfl) ?_
          refine lv_iconst (v := iI 0) hx hb dL_run_60 rfl ?_
          refine zr_iald (n := 12) (f := x7_5) (i := 0) hx hb hK hP 7 rfl rg_0 ⟨by decide, by decide⟩ dL_run_61 ?_
          obtain ⟨b133, h134⟩ := h132
          refine zc_si (As := [.int (iI (x7_5 0))]) (rest := []) (c_L_ways l G (x7_5 0) (rx7_5 0) b133) ⟨hx, hb, hml, hown, hts⟩ (va_cwS 1 hts gL_run_L_ways rfl rfl rfl hdL_ways ⟨Nat.le_of_ble_eq_true rfl, Nat.le_of_ble_eq_true rfl⟩) hK hP hD hS hA rfl hl.1 rfl (Nat.le_of_ble_eq_true rfl) dL_run_62 ⟨Nat.zero_le _, Nat.zero_le _⟩ (fun z136 H locs hw hP hD hS => ?_)
          obtain ⟨rfl, r137⟩ := hw
          have hP : va_P G.1 vwCl (flt [[(f_a0, eI G 60 x0_5)], [(n_a0, eI G 64 x1_5)], [(l_a0, eI G 64 x2_5)], [(d_a0, eI G 64 x3_5)], [(m_a0, eI G 20 m_x)], [(k_a0, eI G 60 k_x)], [(c_a0, eI G 60 x6_5)], [(t_a0, eI G 12 x7_5)]]) H := hP
          have hD : va_D A (flt [[(f_a0, eI G 60 x0_5)], [(n_a0, eI G 64 x1_5)], [(l_a0, eI G 64 x2_5)], [(d_a0, eI G 64 x3_5)], [(m_a0, eI G 20 m_x)], [(k_a0, eI G 60 k_x)], [(c_a0, eI G 60 x6_5)], [(t_a0, eI G 12 x7_5)]]) := hD
          refine lv_iconst (v := iI 2) hx hb dL_run_65 rfl ?_
          refine zr_icmp_ge (tgt := 72) (x := waysZ (x7_5 0)) (y := 2) hx hb r137 rg_2 dL_run_66 (by decide) (fun c138 => ?_) (fun c138 => ?_)
          · have h141 := h134.2 c138
            refine lv_aload hx hb dL_run_72 (lv_at hl 7 rfl) ?_
            refine lv_iconst (v := iI 5) hx hb dL_run_74 rfl ?_
            refine zr_iald (n := 12) (f := x7_5) (i := 5) hx hb hK hP 7 rfl rg_5 ⟨by decide, by decide⟩ dL_run_75 ?_
            refine zr_if_ne (tgt := 87) (x := x7_5 5) hx hb (rx7_5 5) dL_run_76 (by decide) (fun c => absurd c105 c) (fun _ => ?_)
            refine lv_aload_n hx hb dL_run_79 rfl (lv_at hl 2 rfl) ?_
            refine lv_aload_n hx hb dL_run_80 rfl (lv_at hl 3 rfl) ?_
            refine lv_aload_n hx hb dL_run_81 rfl (lv_at hl 4 rfl) ?_
            refine lv_aload hx hb dL_run_82 (lv_at hl 7 rfl) ?_
            obtain ⟨g142, g143, g144, g145, h146⟩ := h141
            obtain ⟨b147, h148⟩ := h146
            obtain ⟨b149, h150⟩ := h148
            obtain ⟨b151, h152⟩ := h150
            refine zs_vv (As := [.ref n_a0, .ref l_a0, .ref d_a0, .ref t_a0]) (rest := []) (L := [[(f_a0, eI G 60 x0_5)], [(n_a0, eI G 64 x1_5)], [(l_a0, eI G 64 x2_5)], [(d_a0, eI G 64 x3_5)], [(m_a0, eI G 20 m_x)], [(k_a0, eI G 60 k_x)], [(c_a0, eI G 60 x6_5)], [(t_a0, eI G 12 x7_5)]]) (LC := [[(n_a0, eI G 64 x1_5)], [(l_a0, eI G 64 x2_5)], [(d_a0, eI G 64 x3_5)], [(t_a0, eI G 12 x7_5)]]) (LR := [[(f_a0, eI G 60 x0_5)], [(m_a0, eI G 20 m_x)], [(k_a0, eI G 60 k_x)], [(c_a0, eI G 60 x6_5)]]) (LC1 := fun (u_157 : (Int → Int) × (Int → Int) × (Int → Int) × (Int → Int)) => [[(n_a0, eI G 64 u_157.1)], [(l_a0, eI G 64 u_157.2.1)], [(d_a0, eI G 64 u_157.2.2.1)], [(t_a0, eI G 12 u_157.2.2.2)]]) (L2 := fun (u_157 : (Int → Int) × (Int → Int) × (Int → Int) × (Int → Int)) => [[(f_a0, eI G 60 x0_5)], [(n_a0, eI G 64 u_157.1)], [(l_a0, eI G 64 u_157.2.1)], [(d_a0, eI G 64 u_157.2.2.1)], [(m_a0, eI G 20 m_x)], [(k_a0, eI G 60 k_x)], [(c_a0, eI G 60 x6_5)], [(t_a0, eI G 12 u_157.2.2.2)]]) (c_L_begin l G n_a0 l_a0 d_a0 t_a0 x1_5 x2_5 x3_5 x7_5 g142 g143 g144 g145 rx1_5 rx2_5 rx3_5 rx7_5 b147 b149 b151) ⟨hx, hb, hml, hown, hts⟩ (va_cwS 4 hts gL_run_L_begin rfl rfl rfl hdL_begin ⟨Nat.le_of_ble_eq_true rfl, Nat.le_of_ble_eq_true rfl⟩) hK hP hD hS hA [1, 2, 3, 7] [0, 4, 5, 6] [4, 0, 1, 2, 5, 6, 7, 3] rfl rfl 8 rfl (by decide) (fun _ => rfl) (fun _ => rfl) (by decide) rfl hl.1 rfl (Nat.le_of_ble_eq_true rfl) dL_run_84 ⟨Nat.zero_le _, Nat.zero_le _⟩ (fun u_157 H locs hw hP hD hS => ?_)
            obtain ⟨u_n_x153, u_l_x154, u_d_x155, u_t_x156⟩ := u_157
            obtain ⟨ru_n_x153, ru_l_x154, ru_d_x155, ru_t_x156, h159⟩ := hw
            have h160 := h152 u_n_x153 u_l_x154 u_d_x155 u_t_x156 ru_n_x153 ru_l_x154 ru_d_x155 ru_t_x156 h159
            have hP : va_P G.1 vwCl (flt [[(f_a0, eI G 60 x0_5)], [(n_a0, eI G 64 u_n_x153)], [(l_a0, eI G 64 u_l_x154)], [(d_a0, eI G 64 u_d_x155)], [(m_a0, eI G 20 m_x)], [(k_a0, eI G 60 k_x)], [(c_a0, eI G 60 x6_5)], [(t_a0, eI G 12 u_t_x156)]]) H := hP
            have hD : va_D A (flt [[(f_a0, eI G 60 x0_5)], [(n_a0, eI G 64 u_n_x153)], [(l_a0, eI G 64 u_l_x154)], [(d_a0, eI G 64 u_d_x155)], [(m_a0, eI G 20 m_x)], [(k_a0, eI G 60 k_x)], [(c_a0, eI G 60 x6_5)], [(t_a0, eI G 12 u_t_x156)]]) := hD
            refine lv_aload_n hx hb dL_run_87 rfl (lv_at hl 1 rfl) ?_
            refine lv_aload_n hx hb dL_run_88 rfl (lv_at hl 2 rfl) ?_
            refine lv_aload_n hx hb dL_run_89 rfl (lv_at hl 3 rfl) ?_
            refine lv_aload_n hx hb dL_run_90 rfl (lv_at hl 4 rfl) ?_
            refine lv_aload hx hb dL_run_91 (lv_at hl 5 rfl) ?_
            refine lv_aload hx hb dL_run_93 (lv_at hl 6 rfl) ?_
            refine lv_aload hx hb dL_run_95 (lv_at hl 7 rfl) ?_
            obtain ⟨g161, g162, h163⟩ := h160
            obtain ⟨b164, h165⟩ := h163
            obtain ⟨b166, h167⟩ := h165
            obtain ⟨b168, h169⟩ := h167
            obtain ⟨b170, h171⟩ := h169
            refine zs_vv (As := [.ref f_a0, .ref n_a0, .ref l_a0, .ref d_a0, .ref k_a0, .ref c_a0, .ref t_a0]) (rest := []) (L := [[(f_a0, eI G 60 x0_5)], [(n_a0, eI G 64 u_n_x153)], [(l_a0, eI G 64 u_l_x154)], [(d_a0, eI G 64 u_d_x155)], [(m_a0, eI G 20 m_x)], [(k_a0, eI G 60 k_x)], [(c_a0, eI G 60 x6_5)], [(t_a0, eI G 12 u_t_x156)]]) (LC := [[(f_a0, eI G 60 x0_5)], [(n_a0, eI G 64 u_n_x153)], [(l_a0, eI G 64 u_l_x154)], [(d_a0, eI G 64 u_d_x155)], [(k_a0, eI G 60 k_x)], [(c_a0, eI G 60 x6_5)], [(t_a0, eI G 12 u_t_x156)]]) (LR := [[(m_a0, eI G 20 m_x)]]) (LC1 := fun (u_178 : (Int → Int) × (Int → Int) × (Int → Int) × (Int → Int) × (Int → Int) × (Int → Int)) => [[(f_a0, eI G 60 u_178.1)], [(n_a0, eI G 64 u_178.2.1)], [(l_a0, eI G 64 u_178.2.2.1)], [(d_a0, eI G 64 u_178.2.2.2.1)], [(k_a0, eI G 60 k_x)], [(c_a0, eI G 60 u_178.2.2.2.2.1)], [(t_a0, eI G 12 u_178.2.2.2.2.2)]]) (L2 := fun (u_178 : (Int → Int) × (Int → Int) × (Int → Int) × (Int → Int) × (Int → Int) × (Int → Int)) => [[(f_a0, eI G 60 u_178.1)], [(n_a0, eI G 64 u_178.2.1)], [(l_a0, eI G 64 u_178.2.2.1)], [(d_a0, eI G 64 u_178.2.2.2.1)], [(m_a0, eI G 20 m_x)], [(k_a0, eI G 60 k_x)], [(c_a0, eI G 60 u_178.2.2.2.2.1)], [(t_a0, eI G 12 u_178.2.2.2.2.2)]]) (c_L_step l G f_a0 n_a0 l_a0 d_a0 k_a0 c_a0 t_a0 x0_5 u_n_x153 u_l_x154 u_d_x155 k_x x6_5 u_t_x156 g161 g162 rx0_5 ru_n_x153 ru_l_x154 ru_d_x155 r_k_x rx6_5 ru_t_x156 b164 b166 b168 b170) ⟨hx, hb, hml, hown, hts⟩ (va_cwS 7 hts gL_run_L_step rfl rfl rfl hdL_step ⟨Nat.le_of_ble_eq_true rfl, Nat.le_of_ble_eq_true rfl⟩) hK hP hD hS hA [0, 1, 2, 3, 5, 6, 7] [4] [0, 1, 2, 3, 7, 4, 5, 6] rfl rfl 8 rfl (by decide) (fun _ => rfl) (fun _ => rfl) (by decide) rfl hl.1 rfl (Nat.le_of_ble_eq_true rfl) dL_run_97 ⟨Nat.zero_le _, Nat.zero_le _⟩ (fun u_178 H locs hw hP hD hS => ?_)
            obtain ⟨u_f_x172, u_n_x173, u_l_x174, u_d_x175, u_c_x176, u_t_x177⟩ := u_178
            obtain ⟨ru_f_x172, ru_n_x173, ru_l_x174, ru_d_x175, ru_c_x176, ru_t_x177, h180⟩ := hw
            have h181 := h171 u_f_x172 u_n_x173 u_l_x174 u_d_x175 u_c_x176 u_t_x177 ru_f_x172 ru_n_x173 ru_l_x174 ru_d_x175 ru_c_x176 ru_t_x177 h180
            have hP : va_P G.1 vwCl (flt [[(f_a0, eI G 60 u_f_x172)], [(n_a0, eI G 64 u_n_x173)], [(l_a0, eI G 64 u_l_x174)], [(d_a0, eI G 64 u_d_x175)], [(m_a0, eI G 20 m_x)], [(k_a0, eI G 60 k_x)], [(c_a0, eI G 60 u_c_x176)], [(t_a0, eI G 12 u_t_x177)]]) H := hP
            have hD : va_D A (flt [[(f_a0, eI G 60 u_f_x172)], [(n_a0, eI G 64 u_n_x173)], [(l_a0, eI G 64 u_l_x174)], [(d_a0, eI G 64 u_d_x175)], [(m_a0, eI G 20 m_x)], [(k_a0, eI G 60 k_x)], [(c_a0, eI G 60 u_c_x176)], [(t_a0, eI G 12 u_t_x177)]]) := hD
            refine lv_goto (tgt := 34) hx hb dL_run_100 (by decide) ?_
            obtain ⟨h182, h183⟩ := h181
            exact ih10 ((u_f_x172, u_n_x173, u_l_x174, u_d_x175, u_c_x176, u_t_x177)) _ _ _ ⟨⟨ru_f_x172, ru_n_x173, ru_l_x174, ru_d_x175, ru_c_x176, ru_t_x177⟩, h182⟩ h183 hP hD hS (lv_sub hl [0, 1, 2, 3, 4, 5, 6, 7] rfl)
          · have h184 := h134.1 c138
            refine lv_bipush (v := iI (-3)) hx hb dL_run_69 (by decide) ?_
            exact zr_iret (z := (-3)) hx hb hr hlocks hK ((x0_5, x1_5, x2_5, x3_5, x6_5, x7_5)) hP hD hS dL_run_71 ⟨rg_m3, rx0_5, rx1_5, rx2_5, rx3_5, rx6_5, rx7_5, h184⟩
  · have h185 := hwp.1 c1
    refine lv_aload_n hx hb dL_run_8 rfl (lv_at hl 0 rfl) ?_
    refine lv_aload_n hx hb dL_run_9 rfl (lv_at hl 1 rfl) ?_
    refine lv_aload_n hx hb dL_run_10 rfl (lv_at hl 2 rfl) ?_
    refine lv_aload_n hx hb dL_run_11 rfl (lv_at hl 3 rfl) ?_
    refine lv_aload hx hb dL_run_12 (lv_at hl 4 rfl) ?_
    refine lv_aload hx hb dL_run_14 (lv_at hl 5 rfl) ?_
    refine lv_aload hx hb dL_run_16 (lv_at hl 7 rfl) ?_
    obtain ⟨g186, h187⟩ := h185
    obtain ⟨b188, h189⟩ := h187
    obtain ⟨b190, h191⟩ := h189
    obtain ⟨b192, h193⟩ := h191
    refine zs_vi (As := [.ref f_a0, .ref n_a0, .ref l_a0, .ref d_a0, .ref m_a0, .ref k_a0, .ref t_a0]) (rest := []) (L := [[(f_a0, eI G 60 f_x)], [(n_a0, eI G 64 n_x)], [(l_a0, eI G 64 l_x)], [(d_a0, eI G 64 d_x)], [(m_a0, eI G 20 m_x)], [(k_a0, eI G 60 k_x)], [(c_a0, eI G 60 c_x)], [(t_a0, eI G 12 t_x)]]) (LC := [[(f_a0, eI G 60 f_x)], [(n_a0, eI G 64 n_x)], [(l_a0, eI G 64 l_x)], [(d_a0, eI G 64 d_x)], [(m_a0, eI G 20 m_x)], [(k_a0, eI G 60 k_x)], [(t_a0, eI G 12 t_x)]]) (LR := [[(c_a0, eI G 60 c_x)]]) (LC1 := fun (u_199 : (Int → Int) × (Int → Int) × (Int → Int) × (Int → Int) × (Int → Int)) => [[(f_a0, eI G 60 u_199.1)], [(n_a0, eI G 64 u_199.2.1)], [(l_a0, eI G 64 u_199.2.2.1)], [(d_a0, eI G 64 u_199.2.2.2.1)], [(m_a0, eI G 20 m_x)], [(k_a0, eI G 60 k_x)], [(t_a0, eI G 12 u_199.2.2.2.2)]]) (L2 := fun (u_199 : (Int → Int) × (Int → Int) × (Int → Int) × (Int → Int) × (Int → Int)) => [[(f_a0, eI G 60 u_199.1)], [(n_a0, eI G 64 u_199.2.1)], [(l_a0, eI G 64 u_199.2.2.1)], [(d_a0, eI G 64 u_199.2.2.2.1)], [(m_a0, eI G 20 m_x)], [(k_a0, eI G 60 k_x)], [(c_a0, eI G 60 c_x)], [(t_a0, eI G 12 u_199.2.2.2.2)]]) (c_L_write l G f_a0 n_a0 l_a0 d_a0 m_a0 k_a0 t_a0 f_x n_x l_x d_x m_x k_x t_x g186 r_f_x r_n_x r_l_x r_d_x r_m_x r_k_x r_t_x b188 b190 b192) ⟨hx, hb, hml, hown, hts⟩ (va_cwS 7 hts gL_run_L_write rfl rfl rfl hdL_write ⟨Nat.le_of_ble_eq_true rfl, Nat.le_of_ble_eq_true rfl⟩) hK hP hD hS hA [0, 1, 2, 3, 4, 5, 7] [6] [0, 1, 2, 3, 4, 5, 7, 6] rfl rfl 8 rfl (by decide) (fun _ => rfl) (fun _ => rfl) (by decide) rfl hl.1 rfl (Nat.le_of_ble_eq_true rfl) dL_run_18 ⟨Nat.zero_le _, Nat.zero_le _⟩ (fun z200 u_199 H locs hw hP hD hS => ?_)
    obtain ⟨u_f_x194, u_n_x195, u_l_x196, u_d_x197, u_t_x198⟩ := u_199
    obtain ⟨r202, ru_f_x194, ru_n_x195, ru_l_x196, ru_d_x197, ru_t_x198, h201⟩ := hw
    have h203 := h193 z200 u_f_x194 u_n_x195 u_l_x196 u_d_x197 u_t_x198 r202 ru_f_x194 ru_n_x195 ru_l_x196 ru_d_x197 ru_t_x198 h201
    have hP : va_P G.1 vwCl (flt [[(f_a0, eI G 60 u_f_x194)], [(n_a0, eI G 64 u_n_x195)], [(l_a0, eI G 64 u_l_x196)], [(d_a0, eI G 64 u_d_x197)], [(m_a0, eI G 20 m_x)], [(k_a0, eI G 60 k_x)], [(c_a0, eI G 60 c_x)], [(t_a0, eI G 12 u_t_x198)]]) H := hP
    have hD : va_D A (flt [[(f_a0, eI G 60 u_f_x194)], [(n_a0, eI G 64 u_n_x195)], [(l_a0, eI G 64 u_l_x196)], [(d_a0, eI G 64 u_d_x197)], [(m_a0, eI G 20 m_x)], [(k_a0, eI G 60 k_x)], [(c_a0, eI G 60 c_x)], [(t_a0, eI G 12 u_t_x198)]]) := hD
    refine lv_pop hx hb dL_run_21 rfl ?_
    refine lv_aload hx hb dL_run_22 (lv_at hl 7 rfl) ?_
    refine lv_iconst (v := iI 2) hx hb dL_run_24 rfl ?_
    refine lv_iconst (v := iI 0) hx hb dL_run_25 rfl ?_
    refine zr_iast (n := 12) (f := u_t_x198) (i := 2) (x := 0) hx hb hK hP hD hS 7 rfl rg_2 ⟨by decide, by decide⟩ dL_run_26 (fun H locs hP hD hS => ?_)
    have hP : va_P G.1 vwCl (flt [[(f_a0, eI G 60 u_f_x194)], [(n_a0, eI G 64 u_n_x195)], [(l_a0, eI G 64 u_l_x196)], [(d_a0, eI G 64 u_d_x197)], [(m_a0, eI G 20 m_x)], [(k_a0, eI G 60 k_x)], [(c_a0, eI G 60 c_x)], [(t_a0, eI G 12 (uZ u_t_x198 2 0))]]) H := hP
    have hD : va_D A (flt [[(f_a0, eI G 60 u_f_x194)], [(n_a0, eI G 64 u_n_x195)], [(l_a0, eI G 64 u_l_x196)], [(d_a0, eI G 64 u_d_x197)], [(m_a0, eI G 20 m_x)], [(k_a0, eI G 60 k_x)], [(c_a0, eI G 60 c_x)], [(t_a0, eI G 12 (uZ u_t_x198 2 0))]]) := hD
    refine lv_aload hx hb dL_run_27 (lv_at hl 7 rfl) ?_
    refine lv_bipush (v := iI 8) hx hb dL_run_29 (by decide) ?_
    refine zr_iald (n := 12) (f := uZ u_t_x198 2 0) (i := 8) hx hb hK hP 7 rfl rg_8 ⟨by decide, by decide⟩ dL_run_31 ?_
    refine W.eq (g2 := F0 m 32 ls (.int (iI (u_t_x198 8)) :: [])) rfl ?_
    refine lv_istore (lv' := [(8, .int (iI (u_t_x198 8))), (0, .ref f_a0), (1, .ref n_a0), (2, .ref l_a0), (3, .ref d_a0), (4, .ref m_a0), (5, .ref k_a0), (6, .ref c_a0), (7, .ref t_a0)]) hx hb dL_run_32 hl (by decide) rfl (fun ls hl => ?_)
    obtain ⟨I205, μ206, h207, h208⟩ := h203
    refine zr_loop (G := G) (σ := (Int → Int) × (Int → Int) × (Int → Int) × (Int → Int) × (Int → Int) × (Int → Int)) (fun x_204 => (rgA x_204.1 ∧ rgA x_204.2.1 ∧ rgA x_204.2.2.1 ∧ rgA x_204.2.2.2.1 ∧ rgA x_204.2.2.2.2.1 ∧ rgA x_204.2.2.2.2.2) ∧ I205 x_204.1 x_204.2.1 x_204.2.2.1 x_204.2.2.2.1 x_204.2.2.2.2.1 x_204.2.2.2.2.2) (fun x_204 => μ206 x_204.1 x_204.2.1 x_204.2.2.1 x_204.2.2.2.1 x_204.2.2.2.2.1 x_204.2.2.2.2.2) (fun x_204 => flt [[(f_a0, eI G 60 x_204.1)], [(n_a0, eI G 64 x_204.2.1)], [(l_a0, eI G 64 x_204.2.2.1)], [(d_a0, eI G 64 x_204.2.2.2.1)], [(m_a0, eI G 20 m_x)], [(k_a0, eI G 60 k_x)], [(c_a0, eI G 60 x_204.2.2.2.2.1)], [(t_a0, eI G 12 x_204.2.2.2.2.2)]]) (fun x_204 => [(8, .int (iI (u_t_x198 8))), (0, .ref f_a0), (1, .ref n_a0), (2, .ref l_a0), (3, .ref d_a0), (5, .ref k_a0), (6, .ref c_a0), (7, .ref t_a0)]) ((u_f_x194, u_n_x195, u_l_x196, u_d_x197, c_x, uZ u_t_x198 2 0)) ⟨⟨ru_f_x194, ru_n_x195, ru_l_x196, ru_d_x197, r_c_x, (rgA_u (i := 2) ru_t_x198 rg_0)⟩, h207⟩ hP hD hS (lv_sub hl [0, 1, 2, 3, 4, 6, 7, 8] rfl) ?_
    clear hP hD hS hl
    intro x_204 H locs ls ih209 h210 hP hD hS hl
    obtain ⟨x0_204, x1_204, x2_204, x3_204, x6_204, x7_204⟩ := x_204
    obtain ⟨⟨rx0_204, rx1_204, rx2_204, rx3_204, rx6_204, rx7_204⟩, h210⟩ := h210
    have h211 := h208 x0_204 x1_204 x2_204 x3_204 x6_204 x7_204 rx0_204 rx1_204 rx2_204 rx3_204 rx6_204 rx7_204 h210
    have hP : va_P G.1 vwCl (flt [[(f_a0, eI G 60 x0_204)], [(n_a0, eI G 64 x1_204)], [(l_a0, eI G 64 x2_204)], [(d_a0, eI G 64 x3_204)], [(m_a0, eI G 20 m_x)], [(k_a0, eI G 60 k_x)], [(c_a0, eI G 60 x6_204)], [(t_a0, eI G 12 x7_204)]]) H := hP
    have hD : va_D A (flt [[(f_a0, eI G 60 x0_204)], [(n_a0, eI G 64 x1_204)], [(l_a0, eI G 64 x2_204)], [(d_a0, eI G 64 x3_204)], [(m_a0, eI G 20 m_x)], [(k_a0, eI G 60 k_x)], [(c_a0, eI G 60 x6_204)], [(t_a0, eI G 12 x7_204)]]) := hD
    have hl : lv_has ls 9 [(8, .int (iI (u_t_x198 8))), (0, .ref f_a0), (1, .ref n_a0), (2, .ref l_a0), (3, .ref d_a0), (5, .ref k_a0), (6, .ref c_a0), (7, .ref t_a0)] := hl
    refine lv_aload hx hb dL_run_34 (lv_at hl 7 rfl) ?_
    refine lv_iconst (v := iI 5) hx hb dL_run_36 rfl ?_
    refine zr_iald (n := 12) (f := x7_204) (i := 5) hx hb hK hP 7 rfl rg_5 ⟨by decide, by decide⟩ dL_run_37 ?_
    refine lv_iconst (v := iI 1) hx hb dL_run_38 rfl ?_
    refine zr_icmp_eq (tgt := 51) (x := x7_204 5) (y := 1) hx hb (rx7_204 5) rg_1 dL_run_39 (by decide) (fun c212 => ?_) (fun c212 => ?_)
    · have h215 := h211.1 c212
      refine lv_aload hx hb dL_run_51 (lv_at hl 7 rfl) ?_
      refine lv_iconst (v := iI 5) hx hb dL_run_53 rfl ?_
      refine zr_iald (n := 12) (f := x7_204) (i := 5) hx hb hK hP 7 rfl rg_5 ⟨by decide, by decide⟩ dL_run_54 ?_
      refine zr_if_ne (tgt := 72) (x := x7_204 5) hx hb (rx7_204 5) dL_run_55 (by decide) (fun c216 => ?_) (fun c216 => ?_)
      · have h219 := h215.2 c216
        refine lv_aload hx hb dL_run_72 (lv_at hl 7 rfl) ?_
        refine lv_iconst (v := iI 5) hx hb dL_run_74 rfl ?_
        refine zr_iald (n := 12) (f := x7_204) (i := 5) hx hb hK hP 7 rfl rg_5 ⟨by decide, by decide⟩ dL_run_75 ?_
        refine zr_if_ne (tgt := 87) (x := x7_204 5) hx hb (rx7_204 5) dL_run_76 (by decide) (fun _ => ?_) (fun c => absurd c c216)
        refine lv_aload_n hx hb dL_run_87 rfl (lv_at hl 1 rfl) ?_
        refine lv_aload_n hx hb dL_run_88 rfl (lv_at hl 2 rfl) ?_
        refine lv_aload_n hx hb dL_run_89 rfl (lv_at hl 3 rfl) ?_
        refine lv_aload_n hx hb dL_run_90 rfl (lv_at hl 4 rfl) ?_
        refine lv_aload hx hb dL_run_91 (lv_at hl 5 rfl) ?_
        refine lv_aload hx hb dL_run_93 (lv_at hl 6 rfl) ?_
        refine lv_aload hx hb dL_run_95 (lv_at hl 7 rfl) ?_
        obtain ⟨g220, g221, h222⟩ := h219
        obtain ⟨b223, h224⟩ := h222
        obtain ⟨b225, h226⟩ := h224
        obtain ⟨b227, h228⟩ := h226
        obtain ⟨b229, h230⟩ := h228
        refine zs_vv (As := [.ref f_a0, .ref n_a0, .ref l_a0, .ref d_a0, .ref k_a0, .ref c_a0, .ref t_a0]) (rest := []) (L := [[(f_a0, eI G 60 x0_204)], [(n_a0, eI G 64 x1_204)], [(l_a0, eI G 64 x2_204)], [(d_a0, eI G 64 x3_204)], [(m_a0, eI G 20 m_x)], [(k_a0, eI G 60 k_x)], [(c_a0, eI G 60 x6_204)], [(t_a0, eI G 12 x7_204)]]) (LC := [[(f_a0, eI G 60 x0_204)], [(n_a0, eI G 64 x1_204)], [(l_a0, eI G 64 x2_204)], [(d_a0, eI G 64 x3_204)], [(k_a0, eI G 60 k_x)], [(c_a0, eI G 60 x6_204)], [(t_a0, eI G 12 x7_204)]]) (LR := [[(m_a0, eI G 20 m_x)]]) (LC1 := fun (u_237 : (Int → Int) × (Int → Int) × (Int → Int) × (Int → Int) × (Int → Int) × (Int → Int)) => [[(f_a0, eI G 60 u_237.1)], [(n_a0, eI G 64 u_237.2.1)], [(l_a0, eI G 64 u_237.2.2.1)], [(d_a0, eI G 64 u_237.2.2.2.1)], [(k_a0, eI G 60 k_x)], [(c_a0, eI G 60 u_237.2.2.2.2.1)], [(t_a0, eI G 12 u_237.2.2.2.2.2)]]) (L2 := fun (u_237 : (Int → Int) × (Int → Int) × (Int → Int) × (Int → Int) × (Int → Int) × (Int → Int)) => [[(f_a0, eI G 60 u_237.1)], [(n_a0, eI G 64 u_237.2.1)], [(l_a0, eI G 64 u_237.2.2.1)], [(d_a0, eI G 64 u_237.2.2.2.1)], [(m_a0, eI G 20 m_x)], [(k_a0, eI G 60 k_x)], [(c_a0, eI G 60 u_237.2.2.2.2.1)], [(t_a0, eI G 12 u_237.2.2.2.2.2)]]) (c_L_step l G f_a0 n_a0 l_a0 d_a0 k_a0 c_a0 t_a0 x0_204 x1_204 x2_204 x3_204 k_x x6_204 x7_204 g220 g221 rx0_204 rx1_204 rx2_204 rx3_204 r_k_x rx6_204 rx7_204 b223 b225 b227 b229) ⟨hx, hb, hml, hown, hts⟩ (va_cwS 7 hts gL_run_L_step rfl rfl rfl hdL_step ⟨Nat.le_of_ble_eq_true rfl, Nat.le_of_ble_eq_true rfl⟩) hK hP hD hS hA [0, 1, 2, 3, 5, 6, 7] [4] [0, 1, 2, 3, 7, 4, 5, 6] rfl rfl 8 rfl (by decide) (fun _ => rfl) (fun _ => rfl) (by decide) rfl hl.1 rfl (Nat.le_of_ble_eq_true rfl) dL_run_97 ⟨Nat.zero_le _, Nat.zero_le _⟩ (fun u_237 H locs hw hP hD hS => ?_)
        obtain ⟨u_f_x231, u_n_x232, u_l_x233, u_d_x234, u_c_x235, u_t_x236⟩ := u_237
        obtain ⟨ru_f_x231, ru_n_x232, ru_l_x233, ru_d_x234, ru_c_x235, ru_t_x236, h239⟩ := hw
        have h240 := h230 u_f_x231 u_n_x232 u_l_x233 u_d_x234 u_c_x235 u_t_x236 ru_f_x231 ru_n_x232 ru_l_x233 ru_d_x234 ru_c_x235 ru_t_x236 h239
        have hP : va_P G.1 vwCl (flt [[(f_a0, eI G 60 u_f_x231)], [(n_a0, eI G 64 u_n_x232)], [(l_a0, eI G 64 u_l_x233)], [(d_a0, eI G 64 u_d_x234)], [(m_a0, eI G 20 m_x)], [(k_a0, eI G 60 k_x)], [(c_a0, eI G 60 u_c_x235)], [(t_a0, eI G 12 u_t_x236)]]) H := hP
        have hD : va_D A (flt [[(f_a0, eI G 60 u_f_x231)], [(n_a0, eI G 64 u_n_x232)], [(l_a0, eI G 64 u_l_x233)], [(d_a0, eI G 64 u_d_x234)], [(m_a0, eI G 20 m_x)], [(k_a0, eI G 60 k_x)], [(c_a0, eI G 60 u_c_x235)], [(t_a0, eI G 12 u_t_x236)]]) := hD
        refine lv_goto (tgt := 34) hx hb dL_run_100 (by decide) ?_
        obtain ⟨h241, h242⟩ := h240
        exact ih209 ((u_f_x231, u_n_x232, u_l_x233, u_d_x234, u_c_x235, u_t_x236)) _ _ _ ⟨⟨ru_f_x231, ru_n_x232, ru_l_x233, ru_d_x234, ru_c_x235, ru_t_x236⟩, h241⟩ h242 hP hD hS (lv_sub hl [0, 1, 2, 3, 4, 5, 6, 7] rfl)
      · have h243 := h215.1 c216
        refine lv_aload hx hb dL_run_58 (lv_at hl 7 rfl) ?_
        refine lv_iconst (v := iI 0) hx hb dL_run_60 rfl ?_
        refine zr_iald (n := 12) (f := x7_204) (i := 0) hx hb hK hP 7 rfl rg_0 ⟨by decide, by decide⟩ dL_run_61 ?_
        obtain ⟨b244, h245⟩ := h243
        refine zc_si (As := [.int (iI (x7_204 0))]) (rest := []) (c_L_ways l G (x7_204 0) (rx7_204 0) b244) ⟨hx, hb, hml, hown, hts⟩ (va_cwS 1 hts gL_run_L_ways rfl rfl rfl hdL_ways ⟨Nat.le_of_ble_eq_true rfl, Nat.le_of_ble_eq_true rfl⟩) hK hP hD hS hA rfl hl.1 rfl (Nat.le_of_ble_eq_true rfl) dL_run_62 ⟨Nat.zero_le _, Nat.zero_le _⟩ (fun z247 H locs hw hP hD hS => ?_)
        obtain ⟨rfl, r248⟩ := hw
        have hP : va_P G.1 vwCl (flt [[(f_a0, eI G 60 x0_204)], [(n_a0, eI G 64 x1_204)], [(l_a0, eI G 64 x2_204)], [(d_a0, eI G 64 x3_204)], [(m_a0, eI G 20 m_x)], [(k_a0, eI G 60 k_x)], [(c_a0, eI G 60 x6_204)], [(t_a0, eI G 12 x7_204)]]) H := hP
        have hD : va_D A (flt [[(f_a0, eI G 60 x0_204)], [(n_a0, eI G 64 x1_204)], [(l_a0, eI G 64 x2_204)], [(d_a0, eI G 64 x3_204)], [(m_a0, eI G 20 m_x)], [(k_a0, eI G 60 k_x)], [(c_a0, eI G 60 x6_204)], [(t_a0, eI G 12 x7_204)]]) := hD
        refine lv_iconst (v := iI 2) hx hb dL_run_65 rfl ?_
        refine zr_icmp_ge (tgt := 72) (x := waysZ (x7_204 0)) (y := 2) hx hb r248 rg_2 dL_run_66 (by decide) (fun c249 => ?_) (fun c249 => ?_)
        · have h252 := h245.2 c249
          refine lv_aload hx hb dL_run_72 (lv_at hl 7 rfl) ?_
          refine lv_iconst (v := iI 5) hx hb dL_run_74 rfl ?_
          refine zr_iald (n := 12) (f := x7_204) (i := 5) hx hb hK hP 7 rfl rg_5 ⟨by decide, by decide⟩ dL_run_75 ?_
          refine zr_if_ne (tgt := 87) (x := x7_204 5) hx hb (rx7_204 5) dL_run_76 (by decide) (fun c => absurd c216 c) (fun _ => ?_)
          refine lv_aload_n hx hb dL_run_79 rfl (lv_at hl 2 rfl) ?_
          refine lv_aload_n hx hb dL_run_80 rfl (lv_at hl 3 rfl) ?_
          refine lv_aload_n hx hb dL_run_81 rfl (lv_at hl 4 rfl) ?_
          refine lv_aload hx hb dL_run_82 (lv_at hl 7 rfl) ?_
          obtain ⟨g253, g254, g255, g256, h257⟩ := h252
          obtain ⟨b258, h259⟩ := h257
          obtain ⟨b260, h261⟩ := h259
          obtain ⟨b262, h263⟩ := h261
          refine zs_vv (As := [.ref n_a0, .ref l_a0, .ref d_a0, .ref t_a0]) (rest := []) (L := [[(f_a0, eI G 60 x0_204)], [(n_a0, eI G 64 x1_204)], [(l_a0, eI G 64 x2_204)], [(d_a0, eI G 64 x3_204)], [(m_a0, eI G 20 m_x)], [(k_a0, eI G 60 k_x)], [(c_a0, eI G 60 x6_204)], [(t_a0, eI G 12 x7_204)]]) (LC := [[(n_a0, eI G 64 x1_204)], [(l_a0, eI G 64 x2_204)], [(d_a0, eI G 64 x3_204)], [(t_a0, eI G 12 x7_204)]]) (LR := [[(f_a0, eI G 60 x0_204)], [(m_a0, eI G 20 m_x)], [(k_a0, eI G 60 k_x)], [(c_a0, eI G 60 x6_204)]]) (LC1 := fun (u_268 : (Int → Int) × (Int → Int) × (Int → Int) × (Int → Int)) => [[(n_a0, eI G 64 u_268.1)], [(l_a0, eI G 64 u_268.2.1)], [(d_a0, eI G 64 u_268.2.2.1)], [(t_a0, eI G 12 u_268.2.2.2)]]) (L2 := fun (u_268 : (Int → Int) × (Int → Int) × (Int → Int) × (Int → Int)) => [[(f_a0, eI G 60 x0_204)], [(n_a0, eI G 64 u_268.1)], [(l_a0, eI G 64 u_268.2.1)], [(d_a0, eI G 64 u_268.2.2.1)], [(m_a0, eI G 20 m_x)], [(k_a0, eI G 60 k_x)], [(c_a0, eI G 60 x6_204)], [(t_a0, eI G 12 u_268.2.2.2)]]) (c_L_begin l G n_a0 l_a0 d_a0 t_a0 x1_204 x2_204 x3_204 x7_204 g253 g254 g255 g256 rx1_204 rx2_204 rx3_204 rx7_204 b258 b260 b262) ⟨hx, hb, hml, hown, hts⟩ (va_cwS 4 hts gL_run_L_begin rfl rfl rfl hdL_begin ⟨Nat.le_of_ble_eq_true rfl, Nat.le_of_ble_eq_true rfl⟩) hK hP hD hS hA [1, 2, 3, 7] [0, 4, 5, 6] [4, 0, 1, 2, 5, 6, 7, 3] rfl rfl 8 rfl (by decide) (fun _ => rfl) (fun _ => rfl) (by decide) rfl hl.1 rfl (Nat.le_of_ble_eq_true rfl) dL_run_84 ⟨Nat.zero_le _, Nat.zero_le _⟩ (fun u_268 H locs hw hP hD hS => ?_)
          obtain ⟨u_n_x264, u_l_x265, u_d_x266, u_t_x267⟩ := u_268
          obtain ⟨ru_n_x264, ru_l_x265, ru_d_x266, ru_t_x267, h270⟩ := hw
          have h271 := h263 u_n_x264 u_l_x265 u_d_x266 u_t_x267 ru_n_x264 ru_l_x265 ru_d_x266 ru_t_x267 h270
          have hP : va_P G.1 vwCl (flt [[(f_a0, eI G 60 x0_204)], [(n_a0, eI G 64 u_n_x264)], [(l_a0, eI G 64 u_l_x265)], [(d_a0, eI G 64 u_d_x266)], [(m_a0, eI G 20 m_x)], [(k_a0, eI G 60 k_x)], [(c_a0, eI G 60 x6_204)], [(t_a0, eI G 12 u_t_x267)]]) H := hP
          have hD : va_D A (flt [[(f_a0, eI G 60 x0_204)], [(n_a0, eI G 64 u_n_x264)], [(l_a0, eI G 64 u_l_x265)], [(d_a0, eI G 64 u_d_x266)], [(m_a0, eI G 20 m_x)], [(k_a0, eI G 60 k_x)], [(c_a0, eI G 60 x6_204)], [(t_a0, eI G 12 u_t_x267)]]) := hD
          refine lv_aload_n hx hb dL_run_87 rfl (lv_at hl 1 rfl) ?_
          refine lv_aload_n hx hb dL_run_88 rfl (lv_at hl 2 rfl) ?_
          refine lv_aload_n hx hb dL_run_89 rfl (lv_at hl 3 rfl) ?_
          refine lv_aload_n hx hb dL_run_90 rfl (lv_at hl 4 rfl) ?_
          refine lv_aload hx hb dL_run_91 (lv_at hl 5 rfl) ?_
          refine lv_aload hx hb dL_run_93 (lv_at hl 6 rfl) ?_
          refine lv_aload hx hb dL_run_95 (lv_at hl 7 rfl) ?_
          obtain ⟨g272, g273, h274⟩ := h271
          obtain ⟨b275, h276⟩ := h274
          obtain ⟨b277, h278⟩ := h276
          obtain ⟨b279, h280⟩ := h278
          obtain ⟨b281, h282⟩ := h280
          refine zs_vv (As := [.ref f_a0, .ref n_a0, .ref l_a0, .ref d_a0, .ref k_a0, .ref c_a0, .ref t_a0]) (rest := []) (L := [[(f_a0, eI G 60 x0_204)], [(n_a0, eI G 64 u_n_x264)], [(l_a0, eI G 64 u_l_x265)], [(d_a0, eI G 64 u_d_x266)], [(m_a0, eI G 20 m_x)], [(k_a0, eI G 60 k_x)], [(c_a0, eI G 60 x6_204)], [(t_a0, eI G 12 u_t_x267)]]) (LC := [[(f_a0, eI G 60 x0_204)], [(n_a0, eI G 64 u_n_x264)], [(l_a0, eI G 64 u_l_x265)], [(d_a0, eI G 64 u_d_x266)], [(k_a0, eI G 60 k_x)], [(c_a0, eI G 60 x6_204)], [(t_a0, eI G 12 u_t_x267)]]) (LR := [[(m_a0, eI G 20 m_x)]]) (LC1 := fun (u_289 : (Int → Int) × (Int → Int) × (Int → Int) × (Int → Int) × (Int → Int) × (Int → Int)) => [[(f_a0, eI G 60 u_289.1)], [(n_a0, eI G 64 u_289.2.1)], [(l_a0, eI G 64 u_289.2.2.1)], [(d_a0, eI G 64 u_289.2.2.2.1)], [(k_a0, eI G 60 k_x)], [(c_a0, eI G 60 u_289.2.2.2.2.1)], [(t_a0, eI G 12 u_289.2.2.2.2.2)]]) (L2 := fun (u_289 : (Int → Int) × (Int → Int) × (Int → Int) × (Int → Int) × (Int → Int) × (Int → Int)) => [[(f_a0, eI G 60 u_289.1)], [(n_a0, eI G 64 u_289.2.1)], [(l_a0, eI G 64 u_289.2.2.1)], [(d_a0, eI G 64 u_289.2.2.2.1)], [(m_a0, eI G 20 m_x)], [(k_a0, eI G 60 k_x)], [(c_a0, eI G 60 u_289.2.2.2.2.1)], [(t_a0, eI G 12 u_289.2.2.2.2.2)]]) (c_L_step l G f_a0 n_a0 l_a0 d_a0 k_a0 c_a0 t_a0 x0_204 u_n_x264 u_l_x265 u_d_x266 k_x x6_204 u_t_x267 g272 g273 rx0_204 ru_n_x264 ru_l_x265 ru_d_x266 r_k_x rx6_204 ru_t_x267 b275 b277 b279 b281) ⟨hx, hb, hml, hown, hts⟩ (va_cwS 7 hts gL_run_L_step rfl rfl rfl hdL_step ⟨Nat.le_of_ble_eq_true rfl, Nat.le_of_ble_eq_true rfl⟩) hK hP hD hS hA [0, 1, 2, 3, 5, 6, 7] [4] [0, 1, 2, 3, 7, 4, 5, 6] rfl rfl 8 rfl (by decide) (fun _ => rfl) (fun _ => rfl) (by decide) rfl hl.1 rfl (Nat.le_of_ble_eq_true rfl) dL_run_97 ⟨Nat.zero_le _, Nat.zero_le _⟩ (fun u_289 H locs hw hP hD hS => ?_)
          obtain ⟨u_f_x283, u_n_x284, u_l_x285, u_d_x286, u_c_x287, u_t_x288⟩ := u_289
          obtain ⟨ru_f_x283, ru_n_x284, ru_l_x285, ru_d_x286, ru_c_x287, ru_t_x288, h291⟩ := hw
          have h292 := h282 u_f_x283 u_n_x284 u_l_x285 u_d_x286 u_c_x287 u_t_x288 ru_f_x283 ru_n_x284 ru_l_x285 ru_d_x286 ru_c_x287 ru_t_x288 h291
          have hP : va_P G.1 vwCl (flt [[(f_a0, eI G 60 u_f_x283)], [(n_a0, eI G 64 u_n_x284)], [(l_a0, eI G 64 u_l_x285)], [(d_a0, eI G 64 u_d_x286)], [(m_a0, eI G 20 m_x)], [(k_a0, eI G 60 k_x)], [(c_a0, eI G 60 u_c_x287)], [(t_a0, eI G 12 u_t_x288)]]) H := hP
          have hD : va_D A (flt [[(f_a0, eI G 60 u_f_x283)], [(n_a0, eI G 64 u_n_x284)], [(l_a0, eI G 64 u_l_x285)], [(d_a0, eI G 64 u_d_x286)], [(m_a0, eI G 20 m_x)], [(k_a0, eI G 60 k_x)], [(c_a0, eI G 60 u_c_x287)], [(t_a0, eI G 12 u_t_x288)]]) := hD
          refine lv_goto (tgt := 34) hx hb dL_run_100 (by decide) ?_
          obtain ⟨h293, h294⟩ := h292
          exact ih209 ((u_f_x283, u_n_x284, u_l_x285, u_d_x286, u_c_x287, u_t_x288)) _ _ _ ⟨⟨ru_f_x283, ru_n_x284, ru_l_x285, ru_d_x286, ru_c_x287, ru_t_x288⟩, h293⟩ h294 hP hD hS (lv_sub hl [0, 1, 2, 3, 4, 5, 6, 7] rfl)
        · have h295 := h245.1 c249
          refine lv_bipush (v := iI (-3)) hx hb dL_run_69 (by decide) ?_
          exact zr_iret (z := (-3)) hx hb hr hlocks hK ((x0_204, x1_204, x2_204, x3_204, x6_204, x7_204)) hP hD hS dL_run_71 ⟨rg_m3, rx0_204, rx1_204, rx2_204, rx3_204, rx6_204, rx7_204, h295⟩
    · have h296 := h211.2 c212
      refine lv_aload hx hb dL_run_42 (lv_at hl 7 rfl) ?_
      refine lv_bipush (v := iI 10) hx hb dL_run_44 (by decide) ?_
      refine zr_iald (n := 12) (f := x7_204) (i := 10) hx hb hK hP 7 rfl rg_10 ⟨by decide, by decide⟩ dL_run_46 ?_
      refine lv_iconst (v := iI 1) hx hb dL_run_47 rfl ?_
      refine zr_icmp_le (tgt := 103) (x := x7_204 10) (y := 1) hx hb (rx7_204 10) rg_1 dL_run_48 (by decide) (fun c297 => ?_) (fun c297 => ?_)
      · have h300 := h296.2 c297
        refine lv_aload hx hb dL_run_103 (lv_at hl 7 rfl) ?_
        refine lv_bipush (v := iI 8) hx hb dL_run_105 (by decide) ?_
        refine zr_iald (n := 12) (f := x7_204) (i := 8) hx hb hK hP 7 rfl rg_8 ⟨by decide, by decide⟩ dL_run_107 ?_
        refine lv_iload hx hb dL_run_108 (lv_at hl 0 rfl) ?_
        refine zr_isub (x := x7_204 8) (y := u_t_x198 8) hx hb dL_run_110 ?_
        obtain ⟨r301, h302⟩ := h300
        exact zr_iret (z := (x7_204 8) - (u_t_x198 8)) hx hb hr hlocks hK ((x0_204, x1_204, x2_204, x3_204, x6_204, x7_204)) hP hD hS dL_run_111 ⟨r301, rx0_204, rx1_204, rx2_204, rx3_204, rx6_204, rx7_204, h302⟩
      · have h303 := h296.1 c297
        refine lv_aload hx hb dL_run_51 (lv_at hl 7 rfl) ?_
        refine lv_iconst (v := iI 5) hx hb dL_run_53 rfl ?_
        refine zr_iald (n := 12) (f := x7_204) (i := 5) hx hb hK hP 7 rfl rg_5 ⟨by decide, by decide⟩ dL_run_54 ?_
        refine zr_if_ne (tgt := 72) (x := x7_204 5) hx hb (rx7_204 5) dL_run_55 (by decide) (fun c304 => ?_) (fun c304 => ?_)
        · have h307 := h303.2 c304
          refine lv_aload hx hb dL_run_72 (lv_at hl 7 rfl) ?_
          refine lv_iconst (v := iI 5) hx hb dL_run_74 rfl ?_
          refine zr_iald (n := 12) (f := x7_204) (i := 5) hx hb hK hP 7 rfl rg_5 ⟨by decide, by decide⟩ dL_run_75 ?_
          refine zr_if_ne (tgt := 87) (x := x7_204 5) hx hb (rx7_204 5) dL_run_76 (by decide) (fun _ => ?_) (fun c => absurd c c304)
          refine lv_aload_n hx hb dL_run_87 rfl (lv_at hl 1 rfl) ?_
          refine lv_aload_n hx hb dL_run_88 rfl (lv_at hl 2 rfl) ?_
          refine lv_aload_n hx hb dL_run_89 rfl (lv_at hl 3 rfl) ?_
          refine lv_aload_n hx hb dL_run_90 rfl (lv_at hl 4 rfl) ?_
          refine lv_aload hx hb dL_run_91 (lv_at hl 5 rfl) ?_
          refine lv_aload hx hb dL_run_93 (lv_at hl 6 rfl) ?_
          refine lv_aload hx hb dL_run_95 (lv_at hl 7 rfl) ?_
          obtain ⟨g308, g309, h310⟩ := h307
          obtain ⟨b311, h312⟩ := h310
          obtain ⟨b313, h314⟩ := h312
          obtain ⟨b315, h316⟩ := h314
          obtain ⟨b317, h318⟩ := h316
          refine zs_vv (As := [.ref f_a0, .ref n_a0, .ref l_a0, .ref d_a0, .ref k_a0, .ref c_a0, .ref t_a0]) (rest := []) (L := [[(f_a0, eI G 60 x0_204)], [(n_a0, eI G 64 x1_204)], [(l_a0, eI G 64 x2_204)], [(d_a0, eI G 64 x3_204)], [(m_a0, eI G 20 m_x)], [(k_a0, eI G 60 k_x)], [(c_a0, eI G 60 x6_204)], [(t_a0, eI G 12 x7_204)]]) (LC := [[(f_a0, eI G 60 x0_204)], [(n_a0, eI G 64 x1_204)], [(l_a0, eI G 64 x2_204)], [(d_a0, eI G 64 x3_204)], [(k_a0, eI G 60 k_x)], [(c_a0, eI G 60 x6_204)], [(t_a0, eI G 12 x7_204)]]) (LR := [[(m_a0, eI G 20 m_x)]]) (LC1 := fun (u_325 : (Int → Int) × (Int → Int) × (Int → Int) × (Int → Int) × (Int → Int) × (Int → Int)) => [[(f_a0, eI G 60 u_325.1)], [(n_a0, eI G 64 u_325.2.1)], [(l_a0, eI G 64 u_325.2.2.1)], [(d_a0, eI G 64 u_325.2.2.2.1)], [(k_a0, eI G 60 k_x)], [(c_a0, eI G 60 u_325.2.2.2.2.1)], [(t_a0, eI G 12 u_325.2.2.2.2.2)]]) (L2 := fun (u_325 : (Int → Int) × (Int → Int) × (Int → Int) × (Int → Int) × (Int → Int) × (Int → Int)) => [[(f_a0, eI G 60 u_325.1)], [(n_a0, eI G 64 u_325.2.1)], [(l_a0, eI G 64 u_325.2.2.1)], [(d_a0, eI G 64 u_325.2.2.2.1)], [(m_a0, eI G 20 m_x)], [(k_a0, eI G 60 k_x)], [(c_a0, eI G 60 u_325.2.2.2.2.1)], [(t_a0, eI G 12 u_325.2.2.2.2.2)]]) (c_L_step l G f_a0 n_a0 l_a0 d_a0 k_a0 c_a0 t_a0 x0_204 x1_204 x2_204 x3_204 k_x x6_204 x7_204 g308 g309 rx0_204 rx1_204 rx2_204 rx3_204 r_k_x rx6_204 rx7_204 b311 b313 b315 b317) ⟨hx, hb, hml, hown, hts⟩ (va_cwS 7 hts gL_run_L_step rfl rfl rfl hdL_step ⟨Nat.le_of_ble_eq_true rfl, Nat.le_of_ble_eq_true rfl⟩) hK hP hD hS hA [0, 1, 2, 3, 5, 6, 7] [4] [0, 1, 2, 3, 7, 4, 5, 6] rfl rfl 8 rfl (by decide) (fun _ => rfl) (fun _ => rfl) (by decide) rfl hl.1 rfl (Nat.le_of_ble_eq_true rfl) dL_run_97 ⟨Nat.zero_le _, Nat.zero_le _⟩ (fun u_325 H locs hw hP hD hS => ?_)
          obtain ⟨u_f_x319, u_n_x320, u_l_x321, u_d_x322, u_c_x323, u_t_x324⟩ := u_325
          obtain ⟨ru_f_x319, ru_n_x320, ru_l_x321, ru_d_x322, ru_c_x323, ru_t_x324, h327⟩ := hw
          have h328 := h318 u_f_x319 u_n_x320 u_l_x321 u_d_x322 u_c_x323 u_t_x324 ru_f_x319 ru_n_x320 ru_l_x321 ru_d_x322 ru_c_x323 ru_t_x324 h327
          have hP : va_P G.1 vwCl (flt [[(f_a0, eI G 60 u_f_x319)], [(n_a0, eI G 64 u_n_x320)], [(l_a0, eI G 64 u_l_x321)], [(d_a0, eI G 64 u_d_x322)], [(m_a0, eI G 20 m_x)], [(k_a0, eI G 60 k_x)], [(c_a0, eI G 60 u_c_x323)], [(t_a0, eI G 12 u_t_x324)]]) H := hP
          have hD : va_D A (flt [[(f_a0, eI G 60 u_f_x319)], [(n_a0, eI G 64 u_n_x320)], [(l_a0, eI G 64 u_l_x321)], [(d_a0, eI G 64 u_d_x322)], [(m_a0, eI G 20 m_x)], [(k_a0, eI G 60 k_x)], [(c_a0, eI G 60 u_c_x323)], [(t_a0, eI G 12 u_t_x324)]]) := hD
          refine lv_goto (tgt := 34) hx hb dL_run_100 (by decide) ?_
          obtain ⟨h329, h330⟩ := h328
          exact ih209 ((u_f_x319, u_n_x320, u_l_x321, u_d_x322, u_c_x323, u_t_x324)) _ _ _ ⟨⟨ru_f_x319, ru_n_x320, ru_l_x321, ru_d_x322, ru_c_x323, ru_t_x324⟩, h329⟩ h330 hP hD hS (lv_sub hl [0, 1, 2, 3, 4, 5, 6, 7] rfl)
        · have h331 := h303.1 c304
          refine lv_aload hx hb dL_run_58 (lv_at hl 7 rfl) ?_
          refine lv_iconst (v := iI 0) hx hb dL_run_60 rfl ?_
          refine zr_iald (n := 12) (f := x7_204) (i := 0) hx hb hK hP 7 rfl rg_0 ⟨by decide, by decide⟩ dL_run_61 ?_
          obtain ⟨b332, h333⟩ := h331
          refine zc_si (As := [.int (iI (x7_204 0))]) (rest := []) (c_L_ways l G (x7_204 0) (rx7_204 0) b332) ⟨hx, hb, hml, hown, hts⟩ (va_cwS 1 hts gL_run_L_ways rfl rfl rfl hdL_ways ⟨Nat.le_of_ble_eq_true rfl, Nat.le_of_ble_eq_true rfl⟩) hK hP hD hS hA rfl hl.1 rfl (Nat.le_of_ble_eq_true rfl) dL_run_62 ⟨Nat.zero_le _, Nat.zero_le _⟩ (fun z335 H locs hw hP hD hS => ?_)
          obtain ⟨rfl, r336⟩ := hw
          have hP : va_P G.1 vwCl (flt [[(f_a0, eI G 60 x0_204)], [(n_a0, eI G 64 x1_204)], [(l_a0, eI G 64 x2_204)], [(d_a0, eI G 64 x3_204)], [(m_a0, eI G 20 m_x)], [(k_a0, eI G 60 k_x)], [(c_a0, eI G 60 x6_204)], [(t_a0, eI G 12 x7_204)]]) H := hP
          have hD : va_D A (flt [[(f_a0, eI G 60 x0_204)], [(n_a0, eI G 64 x1_204)], [(l_a0, eI G 64 x2_204)], [(d_a0, eI G 64 x3_204)], [(m_a0, eI G 20 m_x)], [(k_a0, eI G 60 k_x)], [(c_a0, eI G 60 x6_204)], [(t_a0, eI G 12 x7_204)]]) := hD
          refine lv_iconst (v := iI 2) hx hb dL_run_65 rfl ?_
          refine zr_icmp_ge (tgt := 72) (x := waysZ (x7_204 0)) (y := 2) hx hb r336 rg_2 dL_run_66 (by decide) (fun c337 => ?_) (fun c337 => ?_)
          · have h340 := h333.2 c337
            refine lv_aload hx hb dL_run_72 (lv_at hl 7 rfl) ?_
            refine lv_iconst (v := iI 5) hx hb dL_run_74 rfl ?_
            refine zr_iald (n := 12) (f := x7_204) (i := 5) hx hb hK hP 7 rfl rg_5 ⟨by decide, by decide⟩ dL_run_75 ?_
            refine zr_if_ne (tgt := 87) (x := x7_204 5) hx hb (rx7_204 5) dL_run_76 (by decide) (fun c => absurd c304 c) (fun _ => ?_)
            refine lv_aload_n hx hb dL_run_79 rfl (lv_at hl 2 rfl) ?_
            refine lv_aload_n hx hb dL_run_80 rfl (lv_at hl 3 rfl) ?_
            refine lv_aload_n hx hb dL_run_81 rfl (lv_at hl 4 rfl) ?_
            refine lv_aload hx hb dL_run_82 (lv_at hl 7 rfl) ?_
            obtain ⟨g341, g342, g343, g344, h345⟩ := h340
            obtain ⟨b346, h347⟩ := h345
            obtain ⟨b348, h349⟩ := h347
            obtain ⟨b350, h351⟩ := h349
            refine zs_vv (As := [.ref n_a0, .ref l_a0, .ref d_a0, .ref t_a0]) (rest := []) (L := [[(f_a0, eI G 60 x0_204)], [(n_a0, eI G 64 x1_204)], [(l_a0, eI G 64 x2_204)], [(d_a0, eI G 64 x3_204)], [(m_a0, eI G 20 m_x)], [(k_a0, eI G 60 k_x)], [(c_a0, eI G 60 x6_204)], [(t_a0, eI G 12 x7_204)]]) (LC := [[(n_a0, eI G 64 x1_204)], [(l_a0, eI G 64 x2_204)], [(d_a0, eI G 64 x3_204)], [(t_a0, eI G 12 x7_204)]]) (LR := [[(f_a0, eI G 60 x0_204)], [(m_a0, eI G 20 m_x)], [(k_a0, eI G 60 k_x)], [(c_a0, eI G 60 x6_204)]]) (LC1 := fun (u_356 : (Int → Int) × (Int → Int) × (Int → Int) × (Int → Int)) => [[(n_a0, eI G 64 u_356.1)], [(l_a0, eI G 64 u_356.2.1)], [(d_a0, eI G 64 u_356.2.2.1)], [(t_a0, eI G 12 u_356.2.2.2)]]) (L2 := fun (u_356 : (Int → Int) × (Int → Int) × (Int → Int) × (Int → Int)) => [[(f_a0, eI G 60 x0_204)], [(n_a0, eI G 64 u_356.1)], [(l_a0, eI G 64 u_356.2.1)], [(d_a0, eI G 64 u_356.2.2.1)], [(m_a0, eI G 20 m_x)], [(k_a0, eI G 60 k_x)], [(c_a0, eI G 60 x6_204)], [(t_a0, eI G 12 u_356.2.2.2)]]) (c_L_begin l G n_a0 l_a0 d_a0 t_a0 x1_204 x2_204 x3_204 x7_204 g341 g342 g343 g344 rx1_204 rx2_204 rx3_204 rx7_204 b346 b348 b350) ⟨hx, hb, hml, hown, hts⟩ (va_cwS 4 hts gL_run_L_begin rfl rfl rfl hdL_begin ⟨Nat.le_of_ble_eq_true rfl, Nat.le_of_ble_eq_true rfl⟩) hK hP hD hS hA [1, 2, 3, 7] [0, 4, 5, 6] [4, 0, 1, 2, 5, 6, 7, 3] rfl rfl 8 rfl (by decide) (fun _ => rfl) (fun _ => rfl) (by decide) rfl hl.1 rfl (Nat.le_of_ble_eq_true rfl) dL_run_84 ⟨Nat.zero_le _, Nat.zero_le _⟩ (fun u_356 H locs hw hP hD hS => ?_)
            obtain ⟨u_n_x352, u_l_x353, u_d_x354, u_t_x355⟩ := u_356
            obtain ⟨ru_n_x352, ru_l_x353, ru_d_x354, ru_t_x355, h358⟩ := hw
            have h359 := h351 u_n_x352 u_l_x353 u_d_x354 u_t_x355 ru_n_x352 ru_l_x353 ru_d_x354 ru_t_x355 h358
            have hP : va_P G.1 vwCl (flt [[(f_a0, eI G 60 x0_204)], [(n_a0, eI G 64 u_n_x352)], [(l_a0, eI G 64 u_l_x353)], [(d_a0, eI G 64 u_d_x354)], [(m_a0, eI G 20 m_x)], [(k_a0, eI G 60 k_x)], [(c_a0, eI G 60 x6_204)], [(t_a0, eI G 12 u_t_x355)]]) H := hP
            have hD : va_D A (flt [[(f_a0, eI G 60 x0_204)], [(n_a0, eI G 64 u_n_x352)], [(l_a0, eI G 64 u_l_x353)], [(d_a0, eI G 64 u_d_x354)], [(m_a0, eI G 20 m_x)], [(k_a0, eI G 60 k_x)], [(c_a0, eI G 60 x6_204)], [(t_a0, eI G 12 u_t_x355)]]) := hD
            refine lv_aload_n hx hb dL_run_87 rfl (lv_at hl 1 rfl) ?_
            refine lv_aload_n hx hb dL_run_88 rfl (lv_at hl 2 rfl) ?_
            refine lv_aload_n hx hb dL_run_89 rfl (lv_at hl 3 rfl) ?_
            refine lv_aload_n hx hb dL_run_90 rfl (lv_at hl 4 rfl) ?_
            refine lv_aload hx hb dL_run_91 (lv_at hl 5 rfl) ?_
            refine lv_aload hx hb dL_run_93 (lv_at hl 6 rfl) ?_
            refine lv_aload hx hb dL_run_95 (lv_at hl 7 rfl) ?_
            obtain ⟨g360, g361, h362⟩ := h359
            obtain ⟨b363, h364⟩ := h362
            obtain ⟨b365, h366⟩ := h364
            obtain ⟨b367, h368⟩ := h366
            obtain ⟨b369, h370⟩ := h368
            refine zs_vv (As := [.ref f_a0, .ref n_a0, .ref l_a0, .ref d_a0, .ref k_a0, .ref c_a0, .ref t_a0]) (rest := []) (L := [[(f_a0, eI G 60 x0_204)], [(n_a0, eI G 64 u_n_x352)], [(l_a0, eI G 64 u_l_x353)], [(d_a0, eI G 64 u_d_x354)], [(m_a0, eI G 20 m_x)], [(k_a0, eI G 60 k_x)], [(c_a0, eI G 60 x6_204)], [(t_a0, eI G 12 u_t_x355)]]) (LC := [[(f_a0, eI G 60 x0_204)], [(n_a0, eI G 64 u_n_x352)], [(l_a0, eI G 64 u_l_x353)], [(d_a0, eI G 64 u_d_x354)], [(k_a0, eI G 60 k_x)], [(c_a0, eI G 60 x6_204)], [(t_a0, eI G 12 u_t_x355)]]) (LR := [[(m_a0, eI G 20 m_x)]]) (LC1 := fun (u_377 : (Int → Int) × (Int → Int) × (Int → Int) × (Int → Int) × (Int → Int) × (Int → Int)) => [[(f_a0, eI G 60 u_377.1)], [(n_a0, eI G 64 u_377.2.1)], [(l_a0, eI G 64 u_377.2.2.1)], [(d_a0, eI G 64 u_377.2.2.2.1)], [(k_a0, eI G 60 k_x)], [(c_a0, eI G 60 u_377.2.2.2.2.1)], [(t_a0, eI G 12 u_377.2.2.2.2.2)]]) (L2 := fun (u_377 : (Int → Int) × (Int → Int) × (Int → Int) × (Int → Int) × (Int → Int) × (Int → Int)) => [[(f_a0, eI G 60 u_377.1)], [(n_a0, eI G 64 u_377.2.1)], [(l_a0, eI G 64 u_377.2.2.1)], [(d_a0, eI G 64 u_377.2.2.2.1)], [(m_a0, eI G 20 m_x)], [(k_a0, eI G 60 k_x)], [(c_a0, eI G 60 u_377.2.2.2.2.1)], [(t_a0, eI G 12 u_377.2.2.2.2.2)]]) (c_L_step l G f_a0 n_a0 l_a0 d_a0 k_a0 c_a0 t_a0 x0_204 u_n_x352 u_l_x353 u_d_x354 k_x x6_204 u_t_x355 g360 g361 rx0_204 ru_n_x352 ru_l_x353 ru_d_x354 r_k_x rx6_204 ru_t_x355 b363 b365 b367 b369) ⟨hx, hb, hml, hown, hts⟩ (va_cwS 7 hts gL_run_L_step rfl rfl rfl hdL_step ⟨Nat.le_of_ble_eq_true rfl, Nat.le_of_ble_eq_true rfl⟩) hK hP hD hS hA [0, 1, 2, 3, 5, 6, 7] [4] [0, 1, 2, 3, 7, 4, 5, 6] rfl rfl 8 rfl (by decide) (fun _ => rfl) (fun _ => rfl) (by decide) rfl hl.1 rfl (Nat.le_of_ble_eq_true rfl) dL_run_97 ⟨Nat.zero_le _, Nat.zero_le _⟩ (fun u_377 H locs hw hP hD hS => ?_)
            obtain ⟨u_f_x371, u_n_x372, u_l_x373, u_d_x374, u_c_x375, u_t_x376⟩ := u_377
            obtain ⟨ru_f_x371, ru_n_x372, ru_l_x373, ru_d_x374, ru_c_x375, ru_t_x376, h379⟩ := hw
            have h380 := h370 u_f_x371 u_n_x372 u_l_x373 u_d_x374 u_c_x375 u_t_x376 ru_f_x371 ru_n_x372 ru_l_x373 ru_d_x374 ru_c_x375 ru_t_x376 h379
            have hP : va_P G.1 vwCl (flt [[(f_a0, eI G 60 u_f_x371)], [(n_a0, eI G 64 u_n_x372)], [(l_a0, eI G 64 u_l_x373)], [(d_a0, eI G 64 u_d_x374)], [(m_a0, eI G 20 m_x)], [(k_a0, eI G 60 k_x)], [(c_a0, eI G 60 u_c_x375)], [(t_a0, eI G 12 u_t_x376)]]) H := hP
            have hD : va_D A (flt [[(f_a0, eI G 60 u_f_x371)], [(n_a0, eI G 64 u_n_x372)], [(l_a0, eI G 64 u_l_x373)], [(d_a0, eI G 64 u_d_x374)], [(m_a0, eI G 20 m_x)], [(k_a0, eI G 60 k_x)], [(c_a0, eI G 60 u_c_x375)], [(t_a0, eI G 12 u_t_x376)]]) := hD
            refine lv_goto (tgt := 34) hx hb dL_run_100 (by decide) ?_
            obtain ⟨h381, h382⟩ := h380
            exact ih209 ((u_f_x371, u_n_x372, u_l_x373, u_d_x374, u_c_x375, u_t_x376)) _ _ _ ⟨⟨ru_f_x371, ru_n_x372, ru_l_x373, ru_d_x374, ru_c_x375, ru_t_x376⟩, h381⟩ h382 hP hD hS (lv_sub hl [0, 1, 2, 3, 4, 5, 6, 7] rfl)
          · have h383 := h333.1 c337
            refine lv_bipush (v := iI (-3)) hx hb dL_run_69 (by decide) ?_
            exact zr_iret (z := (-3)) hx hb hr hlocks hK ((x0_204, x1_204, x2_204, x3_204, x6_204, x7_204)) hP hD hS dL_run_71 ⟨rg_m3, rx0_204, rx1_204, rx2_204, rx3_204, rx6_204, rx7_204, h383⟩
theorem c_L_run (l : Launch) (G : ZG) (f_a0 : Nat) (n_a0 : Nat) (l_a0 : Nat) (d_a0 : Nat) (m_a0 : Nat) (k_a0 : Nat) (c_a0 : Nat) (t_a0 : Nat) (f_x : Int → Int) (n_x : Int → Int) (l_x : Int → Int) (d_x : Int → Int) (m_x : Int → Int) (k_x : Int → Int) (c_x : Int → Int) (t_x : Int → Int)  (z : Int → Int) (r_f_x : rgA f_x) (r_n_x : rgA n_x) (r_l_x : rgA l_x) (r_d_x : rgA d_x) (r_m_x : rgA m_x) (r_k_x : rgA k_x) (r_c_x : rgA c_x) (r_t_x : rgA t_x)  (p0 : LV f_x n_x l_x d_x m_x k_x t_x z) (p1 : LC c_x z) (p2 : Vz z) (p3 : Bd z 50000) : ZI l G yL_run wsL_run 2 58 [.ref f_a0, .ref n_a0, .ref l_a0, .ref d_a0, .ref m_a0, .ref k_a0, .ref c_a0, .ref t_a0] (flt [[(f_a0, eI G 60 f_x)], [(n_a0, eI G 64 n_x)], [(l_a0, eI G 64 l_x)], [(d_a0, eI G 64 d_x)], [(m_a0, eI G 20 m_x)], [(k_a0, eI G 60 k_x)], [(c_a0, eI G 60 c_x)], [(t_a0, eI G 12 t_x)]]) (fun u : (Int → Int) × (Int → Int) × (Int → Int) × (Int → Int) × (Int → Int) × (Int → Int) => flt [[(f_a0, eI G 60 u.1)], [(n_a0, eI G 64 u.2.1)], [(l_a0, eI G 64 u.2.2.1)], [(d_a0, eI G 64 u.2.2.2.1)], [(m_a0, eI G 20 m_x)], [(k_a0, eI G 60 k_x)], [(c_a0, eI G 60 u.2.2.2.2.1)], [(t_a0, eI G 12 u.2.2.2.2.2)]]) (fun (zq : Int) (u : (Int → Int) × (Int → Int) × (Int → Int) × (Int → Int) × (Int → Int) × (Int → Int)) => rg zq ∧ rgA u.1 ∧ rgA u.2.1 ∧ rgA u.2.2.1 ∧ rgA u.2.2.2.1 ∧ rgA u.2.2.2.2.1 ∧ rgA u.2.2.2.2.2 ∧ ((crZ z ∧ ∃ y, AllZ (finZ z) y ∧ zq = y 8 - z 8 ∧ LV u.1 u.2.1 u.2.2.1 u.2.2.2.1 m_x k_x u.2.2.2.2.2 y ∧ LC u.2.2.2.2.1 y) ∨ (¬ crZ z ∧ zq = -3))) :=
  c0_L_run l G f_a0 n_a0 l_a0 d_a0 m_a0 k_a0 c_a0 t_a0 f_x n_x l_x d_x m_x k_x c_x t_x (fun r f_x' n_x' l_x' d_x' c_x' t_x' => (crZ z ∧ ∃ y, AllZ (finZ z) y ∧ r = y 8 - z 8 ∧ LV f_x' n_x' l_x' d_x' m_x k_x t_x' y ∧ LC c_x' y) ∨ (¬ crZ z ∧ r = -3)) r_f_x r_n_x r_l_x r_d_x r_m_x r_k_x r_c_x r_t_x  (sp_L_run f_x n_x l_x d_x m_x k_x c_x t_x z r_f_x r_n_x r_l_x r_d_x r_m_x r_k_x r_c_x r_t_x  p0 p1 p2 p3)
