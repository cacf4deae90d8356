theorem hdL_step : yL_step.cls ≠ "java/lang/invoke/MethodHandle" ∧ yL_step.cls ≠ "java/lang/invoke/VarHandle" ∧ (parseMethodDescriptor yL_step.desc).map (fun d => d.parameters.length) = some 7 := by decide +kernel
set_option maxRecDepth 100000 in
set_option maxHeartbeats 4000000 in
theorem c0_L_step (l : Launch) (G : ZG) (f_a0 : Nat) (n_a0 : Nat) (l_a0 : Nat) (d_a0 : Nat) (k_a0 : Nat) (c_a0 : Nat) (t_a0 : Nat) (f_x : Int → Int) (n_x : Int → Int) (l_x : Int → Int) (d_x : Int → Int) (k_x : Int → Int) (c_x : Int → Int) (t_x : Int → Int)  (P : (Int → Int) → (Int → Int) → (Int → Int) → (Int → Int) → (Int → Int) → (Int → Int) → Prop) (r_f_x : rgA f_x) (r_n_x : rgA n_x) (r_l_x : rgA l_x) (r_d_x : rgA d_x) (r_k_x : rgA k_x) (r_c_x : rgA c_x) (r_t_x : rgA t_x)  (hwp : wp_L_step f_x n_x l_x d_x k_x c_x t_x P) : ZV l G yL_step wsL_step 1 26 [.ref f_a0, .ref n_a0, .ref l_a0, .ref d_a0, .ref k_a0, .ref c_a0, .ref t_a0] (flt [[(f_a0, eI G 60 f_x)], [(n_a0, eI G 64 n_x)], [(l_a0, eI G 64 l_x)], [(d_a0, eI G 64 d_x)], [(k_a0, eI G 60 k_x)], [(c_a0, eI G 60 c_x)], [(t_a0, eI G 12 t_x)]]) (fun u : (Int → Int) × (Int → Int) × (Int → Int) × (Int → Int) × (Int → Int) × (Int → Int) => flt [[(f_a0, eI G 60 u.1)], [(n_a0, eI G 64 u.2.1)], [(l_a0, eI G 64 u.2.2.1)], [(d_a0, eI G 64 u.2.2.2.1)], [(k_a0, eI G 60 k_x)], [(c_a0, eI G 60 u.2.2.2.2.1)], [(t_a0, eI G 12 u.2.2.2.2.2)]]) (fun (u : (Int → Int) × (Int → Int) × (Int → Int) × (Int → Int) × (Int → Int) × (Int → Int)) => rgA u.1 ∧ rgA u.2.1 ∧ rgA u.2.2.1 ∧ rgA u.2.2.2.1 ∧ rgA u.2.2.2.2.1 ∧ rgA u.2.2.2.2.2 ∧ P u.1 u.2.1 u.2.2.1 u.2.2.2.1 u.2.2.2.2.1 u.2.2.2.2.2) := by
  unfold wp_L_step at hwp
  refine zm_v (cc := cL_step) (maxL := 13) (ret := none) (own := RL) (lvs := [(0, .ref f_a0), (1, .ref n_a0), (2, .ref l_a0), (3, .ref d_a0), (4, .ref k_a0), (5, .ref c_a0), (6, .ref t_a0)]) (by decide) rfl rfl (Nat.le_of_ble_eq_true rfl) rfl ?_
  intro p e sT m args below meth c ls A hx hb hr hml hown hts hlocks hK hP hD hS hA hl
  refine lv_iconst (v := iI (-1)) hx hb dL_step_0 rfl ?_
  refine lv_istore (lv' := [(7, .int (iI (-1))), (0, .ref f_a0), (1, .ref n_a0), (2, .ref l_a0), (3, .ref d_a0), (4, .ref k_a0), (5, .ref c_a0), (6, .ref t_a0)]) hx hb dL_step_1 hl (by decide) rfl (fun ls hl => ?_)
  refine lv_iconst (v := iI 0) hx hb dL_step_3 rfl ?_
  refine lv_istore (lv' := [(8, .int (iI 0)), (7, .int (iI (-1))), (0, .ref f_a0), (1, .ref n_a0), (2, .ref l_a0), (3, .ref d_a0), (4, .ref k_a0), (5, .ref c_a0), (6, .ref t_a0)]) hx hb dL_step_4 hl (by decide) rfl (fun ls hl => ?_)
  obtain ⟨I2, μ3, h4, h5⟩ := hwp
  refine zr_loop (G := G) (σ := Int × Int) (fun x_1 => (rg x_1.1 ∧ rg x_1.2) ∧ I2 x_1.1 x_1.2) (fun x_1 => μ3 x_1.1 x_1.2) (fun x_1 => flt [[(f_a0, eI G 60 f_x)], [(n_a0, eI G 64 n_x)], [(l_a0, eI G 64 l_x)], [(d_a0, eI G 64 d_x)], [(k_a0, eI G 60 k_x)], [(c_a0, eI G 60 c_x)], [(t_a0, eI G 12 t_x)]]) (fun x_1 => [(8, .int (iI x_1.2)), (7, .int (iI x_1.1)), (0, .ref f_a0), (1, .ref n_a0), (2, .ref l_a0), (3, .ref d_a0), (4, .ref k_a0), (5, .ref c_a0), (6, .ref t_a0)]) (((-1), 0)) ⟨⟨rg_m1, rg_0⟩, h4⟩ hP hD hS (lv_sub hl [0, 1, 2, 3, 4, 5, 6, 7, 8] rfl) ?_
  clear hP hD hS hl
  intro x_1 H locs ls ih6 h7 hP hD hS hl
  obtain ⟨x7_1, x8_1⟩ := x_1
  obtain ⟨⟨rx7_1, rx8_1⟩, h7⟩ := h7
  have h8 := h5 x7_1 x8_1 rx7_1 rx8_1 h7
  have hP : va_P G.1 vwCl (flt [[(f_a0, eI G 60 f_x)], [(n_a0, eI G 64 n_x)], [(l_a0, eI G 64 l_x)], [(d_a0, eI G 64 d_x)], [(k_a0, eI G 60 k_x)], [(c_a0, eI G 60 c_x)], [(t_a0, eI G 12 t_x)]]) H := hP
  have hD : va_D A (flt [[(f_a0, eI G 60 f_x)], [(n_a0, eI G 64 n_x)], [(l_a0, eI G 64 l_x)], [(d_a0, eI G 64 d_x)], [(k_a0, eI G 60 k_x)], [(c_a0, eI G 60 c_x)], [(t_a0, eI G 12 t_x)]]) := hD
  have hl : lv_has ls 13 [(8, .int (iI x8_1)), (7, .int (iI x7_1)), (0, .ref f_a0), (1, .ref n_a0), (2, .ref l_a0), (3, .ref d_a0), (4, .ref k_a0), (5, .ref c_a0), (6, .ref t_a0)] := hl
  refine lv_iload hx hb dL_step_6 (lv_at hl 0 rfl) ?_
  refine lv_aload hx hb dL_step_8 (lv_at hl 8 rfl) ?_
  refine lv_bipush (v := iI 10) hx hb dL_step_10 (by decide) ?_
  refine zr_iald (n := 12) (f := t_x) (i := 10) hx hb hK hP 6 rfl rg_10 ⟨by decide, by decide⟩ dL_step_12 ?_
  refine zr_icmp_ge (tgt := 75) (x := x8_1) (y := t_x 10) hx hb rx8_1 (r_t_x 10) dL_step_13 (by decide) (fun c9 => ?_) (fun c9 => ?_)
  · have h12 := h8.2 c9
    refine lv_aload_n hx hb dL_step_75 rfl (lv_at hl 4 rfl) ?_
    refine lv_aload hx hb dL_step_76 (lv_at hl 8 rfl) ?_
    refine lv_bipush (v := iI 10) hx hb dL_step_78 (by decide) ?_
    refine zr_iald (n := 12) (f := t_x) (i := 10) hx hb hK hP 6 rfl rg_10 ⟨by decide, by decide⟩ dL_step_80 ?_
    obtain ⟨b13, h14⟩ := h12
    obtain ⟨b15, h16⟩ := h14
    refine zs_viR (As := [.ref l_a0, .int (iI (t_x 10))]) (rest := []) (c_L_start l G l_a0 l_x (t_x 10) r_l_x (r_t_x 10) b13 b15) ⟨hx, hb, hml, hown, hts⟩ (va_cwS 2 hts gL_step_L_start rfl rfl rfl hdL_start ⟨Nat.le_of_ble_eq_true rfl, Nat.le_of_ble_eq_true rfl⟩) hK hP hD hS hA [2] rfl rfl rfl hl.1 rfl (Nat.le_of_ble_eq_true rfl) dL_step_81 ⟨Nat.zero_le _, Nat.zero_le _⟩ (fun z18 H locs hw hP hD hS => ?_)
    obtain ⟨rfl, r19⟩ := hw
    have hP : va_P G.1 vwCl (flt [[(f_a0, eI G 60 f_x)], [(n_a0, eI G 64 n_x)], [(l_a0, eI G 64 l_x)], [(d_a0, eI G 64 d_x)], [(k_a0, eI G 60 k_x)], [(c_a0, eI G 60 c_x)], [(t_a0, eI G 12 t_x)]]) H := hP
    have hD : va_D A (flt [[(f_a0, eI G 60 f_x)], [(n_a0, eI G 64 n_x)], [(l_a0, eI G 64 l_x)], [(d_a0, eI G 64 d_x)], [(k_a0, eI G 60 k_x)], [(c_a0, eI G 60 c_x)], [(t_a0, eI G 12 t_x)]]) := hD
    refine lv_istore (lv' := [(8, .int (iI (sumI l_x ((t_x 10)).toNat))), (7, .int (iI x7_1)), (0, .ref f_a0), (1, .ref n_a0), (2, .ref l_a0), (3, .ref d_a0), (4, .ref k_a0), (5, .ref c_a0), (6, .ref t_a0)]) hx hb dL_step_84 hl (by decide) rfl (fun ls hl => ?_)
    refine lv_aload_n hx hb dL_step_86 rfl (lv_at hl 4 rfl) ?_
    refine lv_iload hx hb dL_step_87 (lv_at hl 1 rfl) ?_
    obtain ⟨b20, h21⟩ := h16
    obtain ⟨b22, h23⟩ := h21
    refine zs_viR (As := [.ref l_a0, .int (iI x7_1)]) (rest := []) (c_L_start l G l_a0 l_x x7_1 r_l_x rx7_1 b20 b22) ⟨hx, hb, hml, hown, hts⟩ (va_cwS 2 hts gL_step_L_start rfl rfl rfl hdL_start ⟨Nat.le_of_ble_eq_true rfl, Nat.le_of_ble_eq_true rfl⟩) hK hP hD hS hA [2] rfl rfl rfl hl.1 rfl (Nat.le_of_ble_eq_true rfl) dL_step_89 ⟨Nat.zero_le _, Nat.zero_le _⟩ (fun z25 H locs hw hP hD hS => ?_)
    obtain ⟨rfl, r26⟩ := hw
    have hP : va_P G.1 vwCl (flt [[(f_a0, eI G 60 f_x)], [(n_a0, eI G 64 n_x)], [(l_a0, eI G 64 l_x)], [(d_a0, eI G 64 d_x)], [(k_a0, eI G 60 k_x)], [(c_a0, eI G 60 c_x)], [(t_a0, eI G 12 t_x)]]) H := hP
    have hD : va_D A (flt [[(f_a0, eI G 60 f_x)], [(n_a0, eI G 64 n_x)], [(l_a0, eI G 64 l_x)], [(d_a0, eI G 64 d_x)], [(k_a0, eI G 60 k_x)], [(c_a0, eI G 60 c_x)], [(t_a0, eI G 12 t_x)]]) := hD
    refine lv_istore (lv' := [(9, .int (iI (sumI l_x (x7_1).toNat))), (8, .int (iI (sumI l_x ((t_x 10)).toNat))), (7, .int (iI x7_1)), (0, .ref f_a0), (1, .ref n_a0), (2, .ref l_a0), (3, .ref d_a0), (4, .ref k_a0), (5, .ref c_a0), (6, .ref t_a0)]) hx hb dL_step_92 hl (by decide) rfl (fun ls hl => ?_)
    refine lv_aload_n hx hb dL_step_94 rfl (lv_at hl 3 rfl) ?_
    refine lv_iload hx hb dL_step_95 (lv_at hl 0 rfl) ?_
    obtain ⟨b27, h28⟩ := h23
    refine zr_iald (n := 60) (f := f_x) (i := sumI l_x (x7_1).toNat) hx hb hK hP 0 rfl r26 b27 dL_step_97 ?_
    refine lv_istore (lv' := [(10, .int (iI (f_x (sumI l_x (x7_1).toNat)))), (9, .int (iI (sumI l_x (x7_1).toNat))), (8, .int (iI (sumI l_x ((t_x 10)).toNat))), (7, .int (iI x7_1)), (0, .ref f_a0), (1, .ref n_a0), (2, .ref l_a0), (3, .ref d_a0), (4, .ref k_a0), (5, .ref c_a0), (6, .ref t_a0)]) hx hb dL_step_98 hl (by decide) rfl (fun ls hl => ?_)
    refine lv_iload hx hb dL_step_100 (lv_at hl 1 rfl) ?_
    refine lv_istore (lv' := [(11, .int (iI (sumI l_x (x7_1).toNat))), (10, .int (iI (f_x (sumI l_x (x7_1).toNat)))), (9, .int (iI (sumI l_x (x7_1).toNat))), (8, .int (iI (sumI l_x ((t_x 10)).toNat))), (7, .int (iI x7_1)), (0, .ref f_a0), (1, .ref n_a0), (2, .ref l_a0), (3, .ref d_a0), (4, .ref k_a0), (5, .ref c_a0), (6, .ref t_a0)]) hx hb dL_step_102 hl (by decide) rfl (fun ls hl => ?_)
    obtain ⟨I30, μ31, h32, h33⟩ := h28
    refine zr_loop (G := G) (σ := Int × (Int → Int)) (fun x_29 => (rg x_29.1 ∧ rgA x_29.2) ∧ I30 x_29.1 x_29.2) (fun x_29 => μ31 x_29.1 x_29.2) (fun x_29 => flt [[(f_a0, eI G 60 x_29.2)], [(n_a0, eI G 64 n_x)], [(l_a0, eI G 64 l_x)], [(d_a0, eI G 64 d_x)], [(k_a0, eI G 60 k_x)], [(c_a0, eI G 60 c_x)], [(t_a0, eI G 12 t_x)]]) (fun x_29 => [(11, .int (iI x_29.1)), (10, .int (iI (f_x (sumI l_x (x7_1).toNat)))), (8, .int (iI (sumI l_x ((t_x 10)).toNat))), (7, .int (iI x7_1)), (0, .ref f_a0), (1, .ref n_a0), (2, .ref l_a0), (3, .ref d_a0), (4, .ref k_a0), (5, .ref c_a0), (6, .ref t_a0)]) ((sumI l_x (x7_1).toNat, f_x)) ⟨⟨r26, r_f_x⟩, h32⟩ hP hD hS (lv_sub hl [0, 1, 3, 4, 5, 6, 7, 8, 9, 10, 11] rfl) ?_
    clear hP hD hS hl
    intro x_29 H locs ls ih34 h35 hP hD hS hl
    obtain ⟨x11_29, x0_29⟩ := x_29
    obtain ⟨⟨rx11_29, rx0_29⟩, h35⟩ := h35
    have h36 := h33 x11_29 x0_29 rx11_29 rx0_29 h35
    have hP : va_P G.1 vwCl (flt [[(f_a0, eI G 60 x0_29)], [(n_a0, eI G 64 n_x)], [(l_a0, eI G 64 l_x)], [(d_a0, eI G 64 d_x)], [(k_a0, eI G 60 k_x)], [(c_a0, eI G 60 c_x)], [(t_a0, eI G 12 t_x)]]) H := hP
    have hD : va_D A (flt [[(f_a0, eI G 60 x0_29)], [(n_a0, eI G 64 n_x)], [(l_a0, eI G 64 l_x)], [(d_a0, eI G 64 d_x)], [(k_a0, eI G 60 k_x)], [(c_a0, eI G 60 c_x)], [(t_a0, eI G 12 t_x)]]) := hD
    have hl : lv_has ls 13 [(11, .int (iI x11_29)), (10, .int (iI (f_x (sumI l_x (x7_1).toNat)))), (8, .int (iI (sumI l_x ((t_x 10)).toNat))), (7, .int (iI x7_1)), (0, .ref f_a0), (1, .ref n_a0), (2, .ref l_a0), (3, .ref d_a0), (4, .ref k_a0), (5, .ref c_a0), (6, .ref t_a0)] := hl
    refine lv_iload hx hb dL_step_104 (lv_at hl 0 rfl) ?_
    refine lv_iload hx hb dL_step_106 (lv_at hl 2 rfl) ?_
    refine lv_iconst (v := iI 1) hx hb dL_step_108 rfl ?_
    refine zr_isub (x := sumI l_x ((t_x 10)).toNat) (y := 1) hx hb dL_step_109 ?_
    obtain ⟨r37, h38⟩ := h36
    refine zr_icmp_ge (tgt := 129) (x := x11_29) (y := (sumI l_x ((t_x 10)).toNat) - 1) hx hb rx11_29 r37 dL_step_110 (by decide) (fun c39 => ?_) (fun c39 => ?_)
    · have h42 := h38.2 c39
      refine lv_aload_n hx hb dL_step_129 rfl (lv_at hl 6 rfl) ?_
      refine lv_iload hx hb dL_step_130 (lv_at hl 3 rfl) ?_
      refine lv_dup2_11 hx hb dL_step_132 rfl rfl ?_
      obtain ⟨b43, h44⟩ := h42
      refine zr_iald (n := 64) (f := l_x) (i := x7_1) hx hb hK hP 2 rfl rx7_1 b43 dL_step_133 ?_
      refine lv_iconst (v := iI 1) hx hb dL_step_134 rfl ?_
      refine zr_isub (x := l_x x7_1) (y := 1) hx hb dL_step_135 ?_
      obtain ⟨r45, h46⟩ := h44
      refine zr_iast (n := 64) (f := l_x) (i := x7_1) (x := (l_x x7_1) - 1) hx hb hK hP hD hS 2 rfl rx7_1 b43 dL_step_136 (fun H locs hP hD hS => ?_)
      have hP : va_P G.1 vwCl (flt [[(f_a0, eI G 60 x0_29)], [(n_a0, eI G 64 n_x)], [(l_a0, eI G 64 (uZ l_x x7_1 ((l_x x7_1) - 1)))], [(d_a0, eI G 64 d_x)], [(k_a0, eI G 60 k_x)], [(c_a0, eI G 60 c_x)], [(t_a0, eI G 12 t_x)]]) H := hP
      have hD : va_D A (flt [[(f_a0, eI G 60 x0_29)], [(n_a0, eI G 64 n_x)], [(l_a0, eI G 64 (uZ l_x x7_1 ((l_x x7_1) - 1)))], [(d_a0, eI G 64 d_x)], [(k_a0, eI G 60 k_x)], [(c_a0, eI G 60 c_x)], [(t_a0, eI G 12 t_x)]]) := hD
      refine lv_aload hx hb dL_step_137 (lv_at hl 10 rfl) ?_
      refine lv_bipush (v := iI 10) hx hb dL_step_139 (by decide) ?_
      refine zr_iald (n := 12) (f := t_x) (i := 10) hx hb hK hP 6 rfl rg_10 ⟨by decide, by decide⟩ dL_step_141 ?_
      refine lv_iconst (v := iI 1) hx hb dL_step_142 rfl ?_
      refine zr_isub (x := t_x 10) (y := 1) hx hb dL_step_143 ?_
      obtain ⟨r47, h48⟩ := h46
      refine lv_istore (lv' := [(11, .int (iI ((t_x 10) - 1))), (10, .int (iI (f_x (sumI l_x (x7_1).toNat)))), (8, .int (iI (sumI l_x ((t_x 10)).toNat))), (7, .int (iI x7_1)), (0, .ref f_a0), (1, .ref n_a0), (2, .ref l_a0), (3, .ref d_a0), (4, .ref k_a0), (5, .ref c_a0), (6, .ref t_a0)]) hx hb dL_step_144 hl (by decide) rfl (fun ls hl => ?_)
      refine lv_aload hx hb dL_step_146 (lv_at hl 10 rfl) ?_
      refine lv_iconst (v := iI 1) hx hb dL_step_148 rfl ?_
      refine zr_iald (n := 12) (f := t_x) (i := 1) hx hb hK hP 6 rfl rg_1 ⟨by decide, by decide⟩ dL_step_149 ?_
      refine lv_iconst (v := iI 1) hx hb dL_step_150 rfl ?_
      refine zr_icmp_ne (tgt := 182) (x := t_x 1) (y := 1) hx hb (r_t_x 1) rg_1 dL_step_151 (by decide) (fun c49 => ?_) (fun c49 => ?_)
      · have h52 := h48.2 c49
        refine lv_iconst (v := iI 0) hx hb dL_step_182 rfl ?_
        refine lv_istore (lv' := [(12, .int (iI 0)), (11, .int (iI ((t_x 10) - 1))), (10, .int (iI (f_x (sumI l_x (x7_1).toNat)))), (8, .int (iI (sumI l_x ((t_x 10)).toNat))), (7, .int (iI x7_1)), (0, .ref f_a0), (1, .ref n_a0), (2, .ref l_a0), (3, .ref d_a0), (4, .ref k_a0), (5, .ref c_a0), (6, .ref t_a0)]) hx hb dL_step_183 hl (by decide) rfl (fun ls hl => ?_)
        refine lv_iload hx hb dL_step_185 (lv_at hl 0 rfl) ?_
        refine zr_if_eq (tgt := 216) (x := 0) hx hb rg_0 dL_step_187 (by decide) (fun _ => ?_) (fun c => absurd (by decide) c)
        refine lv_aload_n hx hb dL_step_216 rfl (lv_at hl 5 rfl) ?_
        refine lv_iload hx hb dL_step_217 (lv_at hl 3 rfl) ?_
        refine lv_iconst (v := iI 1) hx hb dL_step_219 rfl ?_
        refine zr_isub (x := sumI l_x ((t_x 10)).toNat) (y := 1) hx hb dL_step_220 ?_
        refine lv_iload hx hb dL_step_221 (lv_at hl 2 rfl) ?_
        obtain ⟨b53, h54⟩ := h52
        refine zr_iast (n := 60) (f := x0_29) (i := (sumI l_x ((t_x 10)).toNat) - 1) (x := f_x (sumI l_x (x7_1).toNat)) hx hb hK hP hD hS 0 rfl r37 b53 dL_step_223 (fun H locs hP hD hS => ?_)
        have hP : va_P G.1 vwCl (flt [[(f_a0, eI G 60 (uZ x0_29 ((sumI l_x ((t_x 10)).toNat) - 1) (f_x (sumI l_x (x7_1).toNat))))], [(n_a0, eI G 64 n_x)], [(l_a0, eI G 64 (uZ l_x x7_1 ((l_x x7_1) - 1)))], [(d_a0, eI G 64 d_x)], [(k_a0, eI G 60 k_x)], [(c_a0, eI G 60 c_x)], [(t_a0, eI G 12 t_x)]]) H := hP
        have hD : va_D A (flt [[(f_a0, eI G 60 (uZ x0_29 ((sumI l_x ((t_x 10)).toNat) - 1) (f_x (sumI l_x (x7_1).toNat))))], [(n_a0, eI G 64 n_x)], [(l_a0, eI G 64 (uZ l_x x7_1 ((l_x x7_1) - 1)))], [(d_a0, eI G 64 d_x)], [(k_a0, eI G 60 k_x)], [(c_a0, eI G 60 c_x)], [(t_a0, eI G 12 t_x)]]) := hD
        refine lv_aload_n hx hb dL_step_224 rfl (lv_at hl 7 rfl) ?_
        refine lv_iload hx hb dL_step_225 (lv_at hl 1 rfl) ?_
        refine lv_dup2_11 hx hb dL_step_227 rfl rfl ?_
        obtain ⟨b55, h56⟩ := h54
        refine zr_iald (n := 64) (f := uZ l_x x7_1 ((l_x x7_1) - 1)) (i := (t_x 10) - 1) hx hb hK hP 2 rfl r47 b55 dL_step_228 ?_
        refine lv_iconst (v := iI 1) hx hb dL_step_229 rfl ?_
        refine zr_iadd (x := (uZ l_x x7_1 ((l_x x7_1) - 1)) ((t_x 10) - 1)) (y := 1) hx hb dL_step_230 ?_
        obtain ⟨r57, h58⟩ := h56
        refine zr_iast (n := 64) (f := uZ l_x x7_1 ((l_x x7_1) - 1)) (i := (t_x 10) - 1) (x := ((uZ l_x x7_1 ((l_x x7_1) - 1)) ((t_x 10) - 1)) + 1) hx hb hK hP hD hS 2 rfl r47 b55 dL_step_231 (fun H locs hP hD hS => ?_)
        have hP : va_P G.1 vwCl (flt [[(f_a0, eI G 60 (uZ x0_29 ((sumI l_x ((t_x 10)).toNat) - 1) (f_x (sumI l_x (x7_1).toNat))))], [(n_a0, eI G 64 n_x)], [(l_a0, eI G 64 (uZ (uZ l_x x7_1 ((l_x x7_1) - 1)) ((t_x 10) - 1) (((uZ l_x x7_1 ((l_x x7_1) - 1)) ((t_x 10) - 1)) + 1)))], [(d_a0, eI G 64 d_x)], [(k_a0, eI G 60 k_x)], [(c_a0, eI G 60 c_x)], [(t_a0, eI G 12 t_x)]]) H := hP
        have hD : va_D A (flt [[(f_a0, eI G 60 (uZ x0_29 ((sumI l_x ((t_x 10)).toNat) - 1) (f_x (sumI l_x (x7_1).toNat))))], [(n_a0, eI G 64 n_x)], [(l_a0, eI G 64 (uZ (uZ l_x x7_1 ((l_x x7_1) - 1)) ((t_x 10) - 1) (((uZ l_x x7_1 ((l_x x7_1) - 1)) ((t_x 10) - 1)) + 1)))], [(d_a0, eI G 64 d_x)], [(k_a0, eI G 60 k_x)], [(c_a0, eI G 60 c_x)], [(t_a0, eI G 12 t_x)]]) := hD
        refine lv_aload hx hb dL_step_232 (lv_at hl 11 rfl) ?_
        refine lv_bipush (v := iI 7) hx hb dL_step_234 (by decide) ?_
        refine lv_dup2_11 hx hb dL_step_236 rfl rfl ?_
        refine zr_iald (n := 12) (f := t_x) (i := 7) hx hb hK hP 6 rfl rg_7 ⟨by decide, by decide⟩ dL_step_237 ?_
        refine lv_iload hx hb dL_step_238 (lv_at hl 0 rfl) ?_
        refine zr_if_eq (tgt := 247) (x := 0) hx hb rg_0 dL_step_240 (by decide) (fun _ => ?_) (fun c => absurd (by decide) c)
        refine lv_iconst (v := iI 2) hx hb dL_step_247 rfl ?_
        refine zr_iadd (x := t_x 7) (y := 2) hx hb dL_step_248 ?_
        obtain ⟨r59, h60⟩ := h58
        refine zr_iast (n := 12) (f := t_x) (i := 7) (x := (t_x 7) + 2) hx hb hK hP hD hS 6 rfl rg_7 ⟨by decide, by decide⟩ dL_step_249 (fun H locs hP hD hS => ?_)
        have hP : va_P G.1 vwCl (flt [[(f_a0, eI G 60 (uZ x0_29 ((sumI l_x ((t_x 10)).toNat) - 1) (f_x (sumI l_x (x7_1).toNat))))], [(n_a0, eI G 64 n_x)], [(l_a0, eI G 64 (uZ (uZ l_x x7_1 ((l_x x7_1) - 1)) ((t_x 10) - 1) (((uZ l_x x7_1 ((l_x x7_1) - 1)) ((t_x 10) - 1)) + 1)))], [(d_a0, eI G 64 d_x)], [(k_a0, eI G 60 k_x)], [(c_a0, eI G 60 c_x)], [(t_a0, eI G 12 (uZ t_x 7 ((t_x 7) + 2)))]]) H := hP
        have hD : va_D A (flt [[(f_a0, eI G 60 (uZ x0_29 ((sumI l_x ((t_x 10)).toNat) - 1) (f_x (sumI l_x (x7_1).toNat))))], [(n_a0, eI G 64 n_x)], [(l_a0, eI G 64 (uZ (uZ l_x x7_1 ((l_x x7_1) - 1)) ((t_x 10) - 1) (((uZ l_x x7_1 ((l_x x7_1) - 1)) ((t_x 10) - 1)) + 1)))], [(d_a0, eI G 64 d_x)], [(k_a0, eI G 60 k_x)], [(c_a0, eI G 60 c_x)], [(t_a0, eI G 12 (uZ t_x 7 ((t_x 7) + 2)))]]) := hD
        refine lv_aload_n hx hb dL_step_250 rfl (lv_at hl 7 rfl) ?_
        refine lv_aload_n hx hb dL_step_251 rfl (lv_at hl 8 rfl) ?_
        refine lv_aload hx hb dL_step_252 (lv_at hl 11 rfl) ?_
        refine lv_iconst (v := iI 1) hx hb dL_step_254 rfl ?_
        refine lv_iconst (v := iI 1) hx hb dL_step_255 rfl ?_
        obtain ⟨b61, h62⟩ := h60
        obtain ⟨b63, h64⟩ := h62
        refine zs_viR (As := [.ref l_a0, .ref d_a0, .ref t_a0, .int (iI 1), .int (iI 1)]) (rest := []) (c_L_kinds l G l_a0 d_a0 t_a0 (uZ (uZ l_x x7_1 ((l_x x7_1) - 1)) ((t_x 10) - 1) (((uZ l_x x7_1 ((l_x x7_1) - 1)) ((t_x 10) - 1)) + 1)) d_x (uZ t_x 7 ((t_x 7) + 2)) 1 1 (rgA_u (i := (t_x 10) - 1) (rgA_u (i := x7_1) r_l_x r45) r57) r_d_x (rgA_u (i := 7) r_t_x r59) rg_1 rg_1 b61 b63) ⟨hx, hb, hml, hown, hts⟩ (va_cwS 5 hts gL_step_L_kinds rfl rfl rfl hdL_kinds ⟨Nat.le_of_ble_eq_true rfl, Nat.le_of_ble_eq_true rfl⟩) hK hP hD hS hA [2, 3, 6] rfl rfl rfl hl.1 rfl (Nat.le_of_ble_eq_true rfl) dL_step_256 ⟨Nat.zero_le _, Nat.zero_le _⟩ (fun z66 H locs hw hP hD hS => ?_)
        obtain ⟨rfl, r67⟩ := hw
        have hP : va_P G.1 vwCl (flt [[(f_a0, eI G 60 (uZ x0_29 ((sumI l_x ((t_x 10)).toNat) - 1) (f_x (sumI l_x (x7_1).toNat))))], [(n_a0, eI G 64 n_x)], [(l_a0, eI G 64 (uZ (uZ l_x x7_1 ((l_x x7_1) - 1)) ((t_x 10) - 1) (((uZ l_x x7_1 ((l_x x7_1) - 1)) ((t_x 10) - 1)) + 1)))], [(d_a0, eI G 64 d_x)], [(k_a0, eI G 60 k_x)], [(c_a0, eI G 60 c_x)], [(t_a0, eI G 12 (uZ t_x 7 ((t_x 7) + 2)))]]) H := hP
        have hD : va_D A (flt [[(f_a0, eI G 60 (uZ x0_29 ((sumI l_x ((t_x 10)).toNat) - 1) (f_x (sumI l_x (x7_1).toNat))))], [(n_a0, eI G 64 n_x)], [(l_a0, eI G 64 (uZ (uZ l_x x7_1 ((l_x x7_1) - 1)) ((t_x 10) - 1) (((uZ l_x x7_1 ((l_x x7_1) - 1)) ((t_x 10) - 1)) + 1)))], [(d_a0, eI G 64 d_x)], [(k_a0, eI G 60 k_x)], [(c_a0, eI G 60 c_x)], [(t_a0, eI G 12 (uZ t_x 7 ((t_x 7) + 2)))]]) := hD
        refine zr_if_ne (tgt := 296) (x := kdZ (uZ (uZ l_x x7_1 ((l_x x7_1) - 1)) ((t_x 10) - 1) (((uZ l_x x7_1 ((l_x x7_1) - 1)) ((t_x 10) - 1)) + 1)) d_x (1 : Int) ((uZ t_x 7 ((t_x 7) + 2)) 10).toNat) hx hb r67 dL_step_259 (by decide) (fun c68 => ?_) (fun c68 => ?_)
        · have h71 := h64.2 c68
          exact zr_vret hx hb hr hlocks hK ((uZ x0_29 ((sumI l_x ((t_x 10)).toNat) - 1) (f_x (sumI l_x (x7_1).toNat)), n_x, uZ (uZ l_x x7_1 ((l_x x7_1) - 1)) ((t_x 10) - 1) (((uZ l_x x7_1 ((l_x x7_1) - 1)) ((t_x 10) - 1)) + 1), d_x, c_x, uZ t_x 7 ((t_x 7) + 2))) hP hD hS dL_step_296 ⟨(rgA_u (i := (sumI l_x ((t_x 10)).toNat) - 1) rx0_29 (r_f_x (sumI l_x (x7_1).toNat))), r_n_x, (rgA_u (i := (t_x 10) - 1) (rgA_u (i := x7_1) r_l_x r45) r57), r_d_x, r_c_x, (rgA_u (i := 7) r_t_x r59), h71⟩
        · have h72 := h64.1 c68
          refine lv_aload_n hx hb dL_step_262 rfl (lv_at hl 6 rfl) ?_
          refine lv_iload hx hb dL_step_263 (lv_at hl 1 rfl) ?_
          refine lv_aload hx hb dL_step_265 (lv_at hl 11 rfl) ?_
          refine lv_iconst (v := iI 4) hx hb dL_step_267 rfl ?_
          refine zr_iald (n := 12) (f := uZ t_x 7 ((t_x 7) + 2)) (i := 4) hx hb hK hP 6 rfl rg_4 ⟨by decide, by decide⟩ dL_step_268 ?_
          refine W.eq (g2 := F0 m 269 ls (.int (iI (t_x 4)) :: [.int (iI ((t_x 10) - 1)), .ref n_a0])) rfl ?_
          refine zr_iast (n := 64) (f := n_x) (i := (t_x 10) - 1) (x := t_x 4) hx hb hK hP hD hS 1 rfl r47 b55 dL_step_269 (fun H locs hP hD hS => ?_)
          have hP : va_P G.1 vwCl (flt [[(f_a0, eI G 60 (uZ x0_29 ((sumI l_x ((t_x 10)).toNat) - 1) (f_x (sumI l_x (x7_1).toNat))))], [(n_a0, eI G 64 (uZ n_x ((t_x 10) - 1) (t_x 4)))], [(l_a0, eI G 64 (uZ (uZ l_x x7_1 ((l_x x7_1) - 1)) ((t_x 10) - 1) (((uZ l_x x7_1 ((l_x x7_1) - 1)) ((t_x 10) - 1)) + 1)))], [(d_a0, eI G 64 d_x)], [(k_a0, eI G 60 k_x)], [(c_a0, eI G 60 c_x)], [(t_a0, eI G 12 (uZ t_x 7 ((t_x 7) + 2)))]]) H := hP
          have hD : va_D A (flt [[(f_a0, eI G 60 (uZ x0_29 ((sumI l_x ((t_x 10)).toNat) - 1) (f_x (sumI l_x (x7_1).toNat))))], [(n_a0, eI G 64 (uZ n_x ((t_x 10) - 1) (t_x 4)))], [(l_a0, eI G 64 (uZ (uZ l_x x7_1 ((l_x x7_1) - 1)) ((t_x 10) - 1) (((uZ l_x x7_1 ((l_x x7_1) - 1)) ((t_x 10) - 1)) + 1)))], [(d_a0, eI G 64 d_x)], [(k_a0, eI G 60 k_x)], [(c_a0, eI G 60 c_x)], [(t_a0, eI G 12 (uZ t_x 7 ((t_x 7) + 2)))]]) := hD
          refine lv_aload_n hx hb dL_step_270 rfl (lv_at hl 8 rfl) ?_
          refine lv_iload hx hb dL_step_271 (lv_at hl 1 rfl) ?_
          refine lv_iconst (v := iI 0) hx hb dL_step_273 rfl ?_
          refine zr_iast (n := 64) (f := d_x) (i := (t_x 10) - 1) (x := 0) hx hb hK hP hD hS 3 rfl r47 b55 dL_step_274 (fun H locs hP hD hS => ?_)
          have hP : va_P G.1 vwCl (flt [[(f_a0, eI G 60 (uZ x0_29 ((sumI l_x ((t_x 10)).toNat) - 1) (f_x (sumI l_x (x7_1).toNat))))], [(n_a0, eI G 64 (uZ n_x ((t_x 10) - 1) (t_x 4)))], [(l_a0, eI G 64 (uZ (uZ l_x x7_1 ((l_x x7_1) - 1)) ((t_x 10) - 1) (((uZ l_x x7_1 ((l_x x7_1) - 1)) ((t_x 10) - 1)) + 1)))], [(d_a0, eI G 64 (uZ d_x ((t_x 10) - 1) 0))], [(k_a0, eI G 60 k_x)], [(c_a0, eI G 60 c_x)], [(t_a0, eI G 12 (uZ t_x 7 ((t_x 7) + 2)))]]) H := hP
          have hD : va_D A (flt [[(f_a0, eI G 60 (uZ x0_29 ((sumI l_x ((t_x 10)).toNat) - 1) (f_x (sumI l_x (x7_1).toNat))))], [(n_a0, eI G 64 (uZ n_x ((t_x 10) - 1) (t_x 4)))], [(l_a0, eI G 64 (uZ (uZ l_x x7_1 ((l_x x7_1) - 1)) ((t_x 10) - 1) (((uZ l_x x7_1 ((l_x x7_1) - 1)) ((t_x 10) - 1)) + 1)))], [(d_a0, eI G 64 (uZ d_x ((t_x 10) - 1) 0))], [(k_a0, eI G 60 k_x)], [(c_a0, eI G 60 c_x)], [(t_a0, eI G 12 (uZ t_x 7 ((t_x 7) + 2)))]]) := hD
          refine lv_aload hx hb dL_step_275 (lv_at hl 11 rfl) ?_
          refine lv_iconst (v := iI 4) hx hb dL_step_277 rfl ?_
          refine lv_dup2_11 hx hb dL_step_278 rfl rfl ?_
          refine zr_iald (n := 12) (f := uZ t_x 7 ((t_x 7) + 2)) (i := 4) hx hb hK hP 6 rfl rg_4 ⟨by decide, by decide⟩ dL_step_279 ?_
          refine W.eq (g2 := F0 m 280 ls (.int (iI (t_x 4)) :: [.int (iI 4), .ref t_a0])) rfl ?_
          refine lv_iconst (v := iI 1) hx hb dL_step_280 rfl ?_
          refine zr_iadd (x := t_x 4) (y := 1) hx hb dL_step_281 ?_
          obtain ⟨r73, h74⟩ := h72
          refine zr_iast (n := 12) (f := uZ t_x 7 ((t_x 7) + 2)) (i := 4) (x := (t_x 4) + 1) hx hb hK hP hD hS 6 rfl rg_4 ⟨by decide, by decide⟩ dL_step_282 (fun H locs hP hD hS => ?_)
          have hP : va_P G.1 vwCl (flt [[(f_a0, eI G 60 (uZ x0_29 ((sumI l_x ((t_x 10)).toNat) - 1) (f_x (sumI l_x (x7_1).toNat))))], [(n_a0, eI G 64 (uZ n_x ((t_x 10) - 1) (t_x 4)))], [(l_a0, eI G 64 (uZ (uZ l_x x7_1 ((l_x x7_1) - 1)) ((t_x 10) - 1) (((uZ l_x x7_1 ((l_x x7_1) - 1)) ((t_x 10) - 1)) + 1)))], [(d_a0, eI G 64 (uZ d_x ((t_x 10) - 1) 0))], [(k_a0, eI G 60 k_x)], [(c_a0, eI G 60 c_x)], [(t_a0, eI G 12 (uZ (uZ t_x 7 ((t_x 7) + 2)) 4 ((t_x 4) + 1)))]]) H := hP
          have hD : va_D A (flt [[(f_a0, eI G 60 (uZ x0_29 ((sumI l_x ((t_x 10)).toNat) - 1) (f_x (sumI l_x (x7_1).toNat))))], [(n_a0, eI G 64 (uZ n_x ((t_x 10) - 1) (t_x 4)))], [(l_a0, eI G 64 (uZ (uZ l_x x7_1 ((l_x x7_1) - 1)) ((t_x 10) - 1) (((uZ l_x x7_1 ((l_x x7_1) - 1)) ((t_x 10) - 1)) + 1)))], [(d_a0, eI G 64 (uZ d_x ((t_x 10) - 1) 0))], [(k_a0, eI G 60 k_x)], [(c_a0, eI G 60 c_x)], [(t_a0, eI G 12 (uZ (uZ t_x 7 ((t_x 7) + 2)) 4 ((t_x 4) + 1)))]]) := hD
          refine lv_aload hx hb dL_step_283 (lv_at hl 11 rfl) ?_
          refine lv_iconst (v := iI 5) hx hb dL_step_285 rfl ?_
          refine lv_iconst (v := iI 0) hx hb dL_step_286 rfl ?_
          refine zr_iast (n := 12) (f := uZ (uZ t_x 7 ((t_x 7) + 2)) 4 ((t_x 4) + 1)) (i := 5) (x := 0) hx hb hK hP hD hS 6 rfl rg_5 ⟨by decide, by decide⟩ dL_step_287 (fun H locs hP hD hS => ?_)
          have hP : va_P G.1 vwCl (flt [[(f_a0, eI G 60 (uZ x0_29 ((sumI l_x ((t_x 10)).toNat) - 1) (f_x (sumI l_x (x7_1).toNat))))], [(n_a0, eI G 64 (uZ n_x ((t_x 10) - 1) (t_x 4)))], [(l_a0, eI G 64 (uZ (uZ l_x x7_1 ((l_x x7_1) - 1)) ((t_x 10) - 1) (((uZ l_x x7_1 ((l_x x7_1) - 1)) ((t_x 10) - 1)) + 1)))], [(d_a0, eI G 64 (uZ d_x ((t_x 10) - 1) 0))], [(k_a0, eI G 60 k_x)], [(c_a0, eI G 60 c_x)], [(t_a0, eI G 12 (uZ (uZ (uZ t_x 7 ((t_x 7) + 2)) 4 ((t_x 4) + 1)) 5 0))]]) H := hP
          have hD : va_D A (flt [[(f_a0, eI G 60 (uZ x0_29 ((sumI l_x ((t_x 10)).toNat) - 1) (f_x (sumI l_x (x7_1).toNat))))], [(n_a0, eI G 64 (uZ n_x ((t_x 10) - 1) (t_x 4)))], [(l_a0, eI G 64 (uZ (uZ l_x x7_1 ((l_x x7_1) - 1)) ((t_x 10) - 1) (((uZ l_x x7_1 ((l_x x7_1) - 1)) ((t_x 10) - 1)) + 1)))], [(d_a0, eI G 64 (uZ d_x ((t_x 10) - 1) 0))], [(k_a0, eI G 60 k_x)], [(c_a0, eI G 60 c_x)], [(t_a0, eI G 12 (uZ (uZ (uZ t_x 7 ((t_x 7) + 2)) 4 ((t_x 4) + 1)) 5 0))]]) := hD
          refine lv_aload_n hx hb dL_step_288 rfl (lv_at hl 6 rfl) ?_
          refine lv_aload_n hx hb dL_step_289 rfl (lv_at hl 7 rfl) ?_
          refine lv_aload_n hx hb dL_step_290 rfl (lv_at hl 8 rfl) ?_
          refine lv_aload hx hb dL_step_291 (lv_at hl 11 rfl) ?_
          obtain ⟨g75, g76, h77⟩ := h74
          obtain ⟨b78, h79⟩ := h77
          obtain ⟨b80, h81⟩ := h79
          refine zs_vv (As := [.ref n_a0, .ref l_a0, .ref d_a0, .ref t_a0]) (rest := []) (L := [[(f_a0, eI G 60 (uZ x0_29 ((sumI l_x ((t_x 10)).toNat) - 1) (f_x (sumI l_x (x7_1).toNat))))], [(n_a0, eI G 64 (uZ n_x ((t_x 10) - 1) (t_x 4)))], [(l_a0, eI G 64 (uZ (uZ l_x x7_1 ((l_x x7_1) - 1)) ((t_x 10) - 1) (((uZ l_x x7_1 ((l_x x7_1) - 1)) ((t_x 10) - 1)) + 1)))], [(d_a0, eI G 64 (uZ d_x ((t_x 10) - 1) 0))], [(k_a0, eI G 60 k_x)], [(c_a0, eI G 60 c_x)], [(t_a0, eI G 12 (uZ (uZ (uZ t_x 7 ((t_x 7) + 2)) 4 ((t_x 4) + 1)) 5 0))]]) (LC := [[(n_a0, eI G 64 (uZ n_x ((t_x 10) - 1) (t_x 4)))], [(l_a0, eI G 64 (uZ (uZ l_x x7_1 ((l_x x7_1) - 1)) ((t_x 10) - 1) (((uZ l_x x7_1 ((l_x x7_1) - 1)) ((t_x 10) - 1)) + 1)))], [(d_a0, eI G 64 (uZ d_x ((t_x 10) - 1) 0))], [(t_a0, eI G 12 (uZ (uZ (uZ t_x 7 ((t_x 7) + 2)) 4 ((t_x 4) + 1)) 5 0))]]) (LR := [[(f_a0, eI G 60 (uZ x0_29 ((sumI l_x ((t_x 10)).toNat) - 1) (f_x (sumI l_x (x7_1).toNat))))], [(k_a0, eI G 60 k_x)], [(c_a0, eI G 60 c_x)]]) (LC1 := fun (u_86 : (Int → Int) × (Int → Int) × (Int → Int) × (Int → Int)) => [[(n_a0, eI G 64 u_86.1)], [(l_a0, eI G 64 u_86.2.1)], [(d_a0, eI G 64 u_86.2.2.1)], [(t_a0, eI G 12 u_86.2.2.2)]]) (L2 := fun (u_86 : (Int → Int) × (Int → Int) × (Int → Int) × (Int → Int)) => [[(f_a0, eI G 60 (uZ x0_29 ((sumI l_x ((t_x 10)).toNat) - 1) (f_x (sumI l_x (x7_1).toNat))))], [(n_a0, eI G 64 u_86.1)], [(l_a0, eI G 64 u_86.2.1)], [(d_a0, eI G 64 u_86.2.2.1)], [(k_a0, eI G 60 k_x)], [(c_a0, eI G 60 c_x)], [(t_a0, eI G 12 u_86.2.2.2)]]) (c_L_clean l G n_a0 l_a0 d_a0 t_a0 (uZ n_x ((t_x 10) - 1) (t_x 4)) (uZ (uZ l_x x7_1 ((l_x x7_1) - 1)) ((t_x 10) - 1) (((uZ l_x x7_1 ((l_x x7_1) - 1)) ((t_x 10) - 1)) + 1)) (uZ d_x ((t_x 10) - 1) 0) (uZ (uZ (uZ t_x 7 ((t_x 7) + 2)) 4 ((t_x 4) + 1)) 5 0) g75 g76 (rgA_u (i := (t_x 10) - 1) r_n_x (r_t_x 4)) (rgA_u (i := (t_x 10) - 1) (rgA_u (i := x7_1) r_l_x r45) r57) (rgA_u (i := (t_x 10) - 1) r_d_x rg_0) (rgA_u (i := 5) (rgA_u (i := 4) (rgA_u (i := 7) r_t_x r59) r73) rg_0) b78 b80) ⟨hx, hb, hml, hown, hts⟩ (va_cwS 4 hts gL_step_L_clean rfl rfl rfl hdL_clean ⟨Nat.le_of_ble_eq_true rfl, Nat.le_of_ble_eq_true rfl⟩) hK hP hD hS hA [1, 2, 3, 6] [0, 4, 5] [4, 0, 1, 2, 5, 6, 3] rfl rfl 7 rfl (by decide) (fun _ => rfl) (fun _ => rfl) (by decide) rfl hl.1 rfl (Nat.le_of_ble_eq_true rfl) dL_step_293 ⟨Nat.zero_le _, Nat.zero_le _⟩ (fun u_86 H locs hw hP hD hS => ?_)
          obtain ⟨u_n_x82, u_l_x83, u_d_x84, u_t_x85⟩ := u_86
          obtain ⟨ru_n_x82, ru_l_x83, ru_d_x84, ru_t_x85, h88⟩ := hw
          have h89 := h81 u_n_x82 u_l_x83 u_d_x84 u_t_x85 ru_n_x82 ru_l_x83 ru_d_x84 ru_t_x85 h88
          have hP : va_P G.1 vwCl (flt [[(f_a0, eI G 60 (uZ x0_29 ((sumI l_x ((t_x 10)).toNat) - 1) (f_x (sumI l_x (x7_1).toNat))))], [(n_a0, eI G 64 u_n_x82)], [(l_a0, eI G 64 u_l_x83)], [(d_a0, eI G 64 u_d_x84)], [(k_a0, eI G 60 k_x)], [(c_a0, eI G 60 c_x)], [(t_a0, eI G 12 u_t_x85)]]) H := hP
          have hD : va_D A (flt [[(f_a0, eI G 60 (uZ x0_29 ((sumI l_x ((t_x 10)).toNat) - 1) (f_x (sumI l_x (x7_1).toNat))))], [(n_a0, eI G 64 u_n_x82)], [(l_a0, eI G 64 u_l_x83)], [(d_a0, eI G 64 u_d_x84)], [(k_a0, eI G 60 k_x)], [(c_a0, eI G 60 c_x)], [(t_a0, eI G 12 u_t_x85)]]) := hD
          exact zr_vret hx hb hr hlocks hK ((uZ x0_29 ((sumI l_x ((t_x 10)).toNat) - 1) (f_x (sumI l_x (x7_1).toNat)), u_n_x82, u_l_x83, u_d_x84, c_x, u_t_x85)) hP hD hS dL_step_296 ⟨(rgA_u (i := (sumI l_x ((t_x 10)).toNat) - 1) rx0_29 (r_f_x (sumI l_x (x7_1).toNat))), ru_n_x82, ru_l_x83, ru_d_x84, r_c_x, ru_t_x85, h89⟩
      · have h90 := h48.1 c49
        refine lv_aload_n hx hb dL_step_154 rfl (lv_at hl 6 rfl) ?_
        refine lv_iload hx hb dL_step_155 (lv_at hl 0 rfl) ?_
        obtain ⟨b91, h92⟩ := h90
        refine zr_iald (n := 64) (f := uZ l_x x7_1 ((l_x x7_1) - 1)) (i := (t_x 10) - 1) hx hb hK hP 2 rfl r47 b91 dL_step_157 ?_
        refine zr_if_le (tgt := 182) (x := (uZ l_x x7_1 ((l_x x7_1) - 1)) ((t_x 10) - 1)) hx hb ((rgA_u (i := x7_1) r_l_x r45) ((t_x 10) - 1)) dL_step_158 (by decide) (fun c93 => ?_) (fun c93 => ?_)
        · have h96 := h92.2 c93
          refine lv_iconst (v := iI 0) hx hb dL_step_182 rfl ?_
          refine lv_istore (lv' := [(12, .int (iI 0)), (11, .int (iI ((t_x 10) - 1))), (10, .int (iI (f_x (sumI l_x (x7_1).toNat)))), (8, .int (iI (sumI l_x ((t_x 10)).toNat))), (7, .int (iI x7_1)), (0, .ref f_a0), (1, .ref n_a0), (2, .ref l_a0), (3, .ref d_a0), (4, .ref k_a0), (5, .ref c_a0), (6, .ref t_a0)]) hx hb dL_step_183 hl (by decide) rfl (fun ls hl => ?_)
          refine lv_iload hx hb dL_step_185 (lv_at hl 0 rfl) ?_
          refine zr_if_eq (tgt := 216) (x := 0) hx hb rg_0 dL_step_187 (by decide) (fun _ => ?_) (fun c => absurd (by decide) c)
          refine lv_aload_n hx hb dL_step_216 rfl (lv_at hl 5 rfl) ?_
          refine lv_iload hx hb dL_step_217 (lv_at hl 3 rfl) ?_
          refine lv_iconst (v := iI 1) hx hb dL_step_219 rfl ?_
          refine zr_isub (x := sumI l_x ((t_x 10)).toNat) (y := 1) hx hb dL_step_220 ?_
          refine lv_iload hx hb dL_step_221 (lv_at hl 2 rfl) ?_
          obtain ⟨b97, h98⟩ := h96
          refine zr_iast (n := 60) (f := x0_29) (i := (sumI l_x ((t_x 10)).toNat) - 1) (x := f_x (sumI l_x (x7_1).toNat)) hx hb hK hP hD hS 0 rfl r37 b97 dL_step_223 (fun H locs hP hD hS => ?_)
          have hP : va_P G.1 vwCl (flt [[(f_a0, eI G 60 (uZ x0_29 ((sumI l_x ((t_x 10)).toNat) - 1) (f_x (sumI l_x (x7_1).toNat))))], [(n_a0, eI G 64 n_x)], [(l_a0, eI G 64 (uZ l_x x7_1 ((l_x x7_1) - 1)))], [(d_a0, eI G 64 d_x)], [(k_a0, eI G 60 k_x)], [(c_a0, eI G 60 c_x)], [(t_a0, eI G 12 t_x)]]) H := hP
          have hD : va_D A (flt [[(f_a0, eI G 60 (uZ x0_29 ((sumI l_x ((t_x 10)).toNat) - 1) (f_x (sumI l_x (x7_1).toNat))))], [(n_a0, eI G 64 n_x)], [(l_a0, eI G 64 (uZ l_x x7_1 ((l_x x7_1) - 1)))], [(d_a0, eI G 64 d_x)], [(k_a0, eI G 60 k_x)], [(c_a0, eI G 60 c_x)], [(t_a0, eI G 12 t_x)]]) := hD
          refine lv_aload_n hx hb dL_step_224 rfl (lv_at hl 7 rfl) ?_
          refine lv_iload hx hb dL_step_225 (lv_at hl 1 rfl) ?_
          refine lv_dup2_11 hx hb dL_step_227 rfl rfl ?_
          refine zr_iald (n := 64) (f := uZ l_x x7_1 ((l_x x7_1) - 1)) (i := (t_x 10) - 1) hx hb hK hP 2 rfl r47 b91 dL_step_228 ?_
          refine lv_iconst (v := iI 1) hx hb dL_step_229 rfl ?_
          refine zr_iadd (x := (uZ l_x x7_1 ((l_x x7_1) - 1)) ((t_x 10) - 1)) (y := 1) hx hb dL_step_230 ?_
          obtain ⟨r99, h100⟩ := h98
          refine zr_iast (n := 64) (f := uZ l_x x7_1 ((l_x x7_1) - 1)) (i := (t_x 10) - 1) (x := ((uZ l_x x7_1 ((l_x x7_1) - 1)) ((t_x 10) - 1)) + 1) hx hb hK hP hD hS 2 rfl r47 b91 dL_step_231 (fun H locs hP hD hS => ?_)
          have hP : va_P G.1 vwCl (flt [[(f_a0, eI G 60 (uZ x0_29 ((sumI l_x ((t_x 10)).toNat) - 1) (f_x (sumI l_x (x7_1).toNat))))], [(n_a0, eI G 64 n_x)], [(l_a0, eI G 64 (uZ (uZ l_x x7_1 ((l_x x7_1) - 1)) ((t_x 10) - 1) (((uZ l_x x7_1 ((l_x x7_1) - 1)) ((t_x 10) - 1)) + 1)))], [(d_a0, eI G 64 d_x)], [(k_a0, eI G 60 k_x)], [(c_a0, eI G 60 c_x)], [(t_a0, eI G 12 t_x)]]) H := hP
          have hD : va_D A (flt [[(f_a0, eI G 60 (uZ x0_29 ((sumI l_x ((t_x 10)).toNat) - 1) (f_x (sumI l_x (x7_1).toNat))))], [(n_a0, eI G 64 n_x)], [(l_a0, eI G 64 (uZ (uZ l_x x7_1 ((l_x x7_1) - 1)) ((t_x 10) - 1) (((uZ l_x x7_1 ((l_x x7_1) - 1)) ((t_x 10) - 1)) + 1)))], [(d_a0, eI G 64 d_x)], [(k_a0, eI G 60 k_x)], [(c_a0, eI G 60 c_x)], [(t_a0, eI G 12 t_x)]]) := hD
          refine lv_aload hx hb dL_step_232 (lv_at hl 11 rfl) ?_
          refine lv_bipush (v := iI 7) hx hb dL_step_234 (by decide) ?_
          refine lv_dup2_11 hx hb dL_step_236 rfl rfl ?_
          refine zr_iald (n := 12) (f := t_x) (i := 7) hx hb hK hP 6 rfl rg_7 ⟨by decide, by decide⟩ dL_step_237 ?_
          refine lv_iload hx hb dL_step_238 (lv_at hl 0 rfl) ?_
          refine zr_if_eq (tgt := 247) (x := 0) hx hb rg_0 dL_step_240 (by decide) (fun _ => ?_) (fun c => absurd (by decide) c)
          refine lv_iconst (v := iI 2) hx hb dL_step_247 rfl ?_
          refine zr_iadd (x := t_x 7) (y := 2) hx hb dL_step_248 ?_
          obtain ⟨r101, h102⟩ := h100
          refine zr_iast (n := 12) (f := t_x) (i := 7) (x := (t_x 7) + 2) hx hb hK hP hD hS 6 rfl rg_7 ⟨by decide, by decide⟩ dL_step_249 (fun H locs hP hD hS => ?_)
          have hP : va_P G.1 vwCl (flt [[(f_a0, eI G 60 (uZ x0_29 ((sumI l_x ((t_x 10)).toNat) - 1) (f_x (sumI l_x (x7_1).toNat))))], [(n_a0, eI G 64 n_x)], [(l_a0, eI G 64 (uZ (uZ l_x x7_1 ((l_x x7_1) - 1)) ((t_x 10) - 1) (((uZ l_x x7_1 ((l_x x7_1) - 1)) ((t_x 10) - 1)) + 1)))], [(d_a0, eI G 64 d_x)], [(k_a0, eI G 60 k_x)], [(c_a0, eI G 60 c_x)], [(t_a0, eI G 12 (uZ t_x 7 ((t_x 7) + 2)))]]) H := hP
          have hD : va_D A (flt [[(f_a0, eI G 60 (uZ x0_29 ((sumI l_x ((t_x 10)).toNat) - 1) (f_x (sumI l_x (x7_1).toNat))))], [(n_a0, eI G 64 n_x)], [(l_a0, eI G 64 (uZ (uZ l_x x7_1 ((l_x x7_1) - 1)) ((t_x 10) - 1) (((uZ l_x x7_1 ((l_x x7_1) - 1)) ((t_x 10) - 1)) + 1)))], [(d_a0, eI G 64 d_x)], [(k_a0, eI G 60 k_x)], [(c_a0, eI G 60 c_x)], [(t_a0, eI G 12 (uZ t_x 7 ((t_x 7) + 2)))]]) := hD
          refine lv_aload_n hx hb dL_step_250 rfl (lv_at hl 7 rfl) ?_
          refine lv_aload_n hx hb dL_step_251 rfl (lv_at hl 8 rfl) ?_
          refine lv_aload hx hb dL_step_252 (lv_at hl 11 rfl) ?_
          refine lv_iconst (v := iI 1) hx hb dL_step_254 rfl ?_
          refine lv_iconst (v := iI 1) hx hb dL_step_255 rfl ?_
          obtain ⟨b103, h104⟩ := h102
          obtain ⟨b105, h106⟩ := h104
          refine zs_viR (As := [.ref l_a0, .ref d_a0, .ref t_a0, .int (iI 1), .int (iI 1)]) (rest := []) (c_L_kinds l G l_a0 d_a0 t_a0 (uZ (uZ l_x x7_1 ((l_x x7_1) - 1)) ((t_x 10) - 1) (((uZ l_x x7_1 ((l_x x7_1) - 1)) ((t_x 10) - 1)) + 1)) d_x (uZ t_x 7 ((t_x 7) + 2)) 1 1 (rgA_u (i := (t_x 10) - 1) (rgA_u (i := x7_1) r_l_x r45) r99) r_d_x (rgA_u (i := 7) r_t_x r101) rg_1 rg_1 b103 b105) ⟨hx, hb, hml, hown, hts⟩ (va_cwS 5 hts gL_step_L_kinds rfl rfl rfl hdL_kinds ⟨Nat.le_of_ble_eq_true rfl, Nat.le_of_ble_eq_true rfl⟩) hK hP hD hS hA [2, 3, 6] rfl rfl rfl hl.1 rfl (Nat.le_of_ble_eq_true rfl) dL_step_256 ⟨Nat.zero_le _, Nat.zero_le _⟩ (fun z108 H locs hw hP hD hS => ?_)
          obtain ⟨rfl, r109⟩ := hw
          have hP : va_P G.1 vwCl (flt [[(f_a0, eI G 60 (uZ x0_29 ((sumI l_x ((t_x 10)).toNat) - 1) (f_x (sumI l_x (x7_1).toNat))))], [(n_a0, eI G 64 n_x)], [(l_a0, eI G 64 (uZ (uZ l_x x7_1 ((l_x x7_1) - 1)) ((t_x 10) - 1) (((uZ l_x x7_1 ((l_x x7_1) - 1)) ((t_x 10) - 1)) + 1)))], [(d_a0, eI G 64 d_x)], [(k_a0, eI G 60 k_x)], [(c_a0, eI G 60 c_x)], [(t_a0, eI G 12 (uZ t_x 7 ((t_x 7) + 2)))]]) H := hP
          have hD : va_D A (flt [[(f_a0, eI G 60 (uZ x0_29 ((sumI l_x ((t_x 10)).toNat) - 1) (f_x (sumI l_x (x7_1).toNat))))], [(n_a0, eI G 64 n_x)], [(l_a0, eI G 64 (uZ (uZ l_x x7_1 ((l_x x7_1) - 1)) ((t_x 10) - 1) (((uZ l_x x7_1 ((l_x x7_1) - 1)) ((t_x 10) - 1)) + 1)))], [(d_a0, eI G 64 d_x)], [(k_a0, eI G 60 k_x)], [(c_a0, eI G 60 c_x)], [(t_a0, eI G 12 (uZ t_x 7 ((t_x 7) + 2)))]]) := hD
          refine zr_if_ne (tgt := 296) (x := kdZ (uZ (uZ l_x x7_1 ((l_x x7_1) - 1)) ((t_x 10) - 1) (((uZ l_x x7_1 ((l_x x7_1) - 1)) ((t_x 10) - 1)) + 1)) d_x (1 : Int) ((uZ t_x 7 ((t_x 7) + 2)) 10).toNat) hx hb r109 dL_step_259 (by decide) (fun c110 => ?_) (fun c110 => ?_)
          · have h113 := h106.2 c110
            exact zr_vret hx hb hr hlocks hK ((uZ x0_29 ((sumI l_x ((t_x 10)).toNat) - 1) (f_x (sumI l_x (x7_1).toNat)), n_x, uZ (uZ l_x x7_1 ((l_x x7_1) - 1)) ((t_x 10) - 1) (((uZ l_x x7_1 ((l_x x7_1) - 1)) ((t_x 10) - 1)) + 1), d_x, c_x, uZ t_x 7 ((t_x 7) + 2))) hP hD hS dL_step_296 ⟨(rgA_u (i := (sumI l_x ((t_x 10)).toNat) - 1) rx0_29 (r_f_x (sumI l_x (x7_1).toNat))), r_n_x, (rgA_u (i := (t_x 10) - 1) (rgA_u (i := x7_1) r_l_x r45) r99), r_d_x, r_c_x, (rgA_u (i := 7) r_t_x r101), h113⟩
          · have h114 := h106.1 c110
            refine lv_aload_n hx hb dL_step_262 rfl (lv_at hl 6 rfl) ?_
            refine lv_iload hx hb dL_step_263 (lv_at hl 1 rfl) ?_
            refine lv_aload hx hb dL_step_265 (lv_at hl 11 rfl) ?_
            refine lv_iconst (v := iI 4) hx hb dL_step_267 rfl ?_
            refine zr_iald (n := 12) (f := uZ t_x 7 ((t_x 7) + 2)) (i := 4) hx hb hK hP 6 rfl rg_4 ⟨by decide, by decide⟩ dL_step_268 ?_
            refine W.eq (g2 := F0 m 269 ls (.int (iI (t_x 4)) :: [.int (iI ((t_x 10) - 1)), .ref n_a0])) rfl ?_
            refine zr_iast (n := 64) (f := n_x) (i := (t_x 10) - 1) (x := t_x 4) hx hb hK hP hD hS 1 rfl r47 b91 dL_step_269 (fun H locs hP hD hS => ?_)
            have hP : va_P G.1 vwCl (flt [[(f_a0, eI G 60 (uZ x0_29 ((sumI l_x ((t_x 10)).toNat) - 1) (f_x (sumI l_x (x7_1).toNat))))], [(n_a0, eI G 64 (uZ n_x ((t_x 10) - 1) (t_x 4)))], [(l_a0, eI G 64 (uZ (uZ l_x x7_1 ((l_x x7_1) - 1)) ((t_x 10) - 1) (((uZ l_x x7_1 ((l_x x7_1) - 1)) ((t_x 10) - 1)) + 1)))], [(d_a0, eI G 64 d_x)], [(k_a0, eI G 60 k_x)], [(c_a0, eI G 60 c_x)], [(t_a0, eI G 12 (uZ t_x 7 ((t_x 7) + 2)))]]) H := hP
            have hD : va_D A (flt [[(f_a0, eI G 60 (uZ x0_29 ((sumI l_x ((t_x 10)).toNat) - 1) (f_x (sumI l_x (x7_1).toNat))))], [(n_a0, eI G 64 (uZ n_x ((t_x 10) - 1) (t_x 4)))], [(l_a0, eI G 64 (uZ (uZ l_x x7_1 ((l_x x7_1) - 1)) ((t_x 10) - 1) (((uZ l_x x7_1 ((l_x x7_1) - 1)) ((t_x 10) - 1)) + 1)))], [(d_a0, eI G 64 d_x)], [(k_a0, eI G 60 k_x)], [(c_a0, eI G 60 c_x)], [(t_a0, eI G 12 (uZ t_x 7 ((t_x 7) + 2)))]]) := hD
            refine lv_aload_n hx hb dL_step_270 rfl (lv_at hl 8 rfl) ?_
            refine lv_iload hx hb dL_step_271 (lv_at hl 1 rfl) ?_
            refine lv_iconst (v := iI 0) hx hb dL_step_273 rfl ?_
            refine zr_iast (n := 64) (f := d_x) (i := (t_x 10) - 1) (x := 0) hx hb hK hP hD hS 3 rfl r47 b91 dL_step_274 (fun H locs hP hD hS => ?_)
            have hP : va_P G.1 vwCl (flt [[(f_a0, eI G 60 (uZ x0_29 ((sumI l_x ((t_x 10)).toNat) - 1) (f_x (sumI l_x (x7_1).toNat))))], [(n_a0, eI G 64 (uZ n_x ((t_x 10) - 1) (t_x 4)))], [(l_a0, eI G 64 (uZ (uZ l_x x7_1 ((l_x x7_1) - 1)) ((t_x 10) - 1) (((uZ l_x x7_1 ((l_x x7_1) - 1)) ((t_x 10) - 1)) + 1)))], [(d_a0, eI G 64 (uZ d_x ((t_x 10) - 1) 0))], [(k_a0, eI G 60 k_x)], [(c_a0, eI G 60 c_x)], [(t_a0, eI G 12 (uZ t_x 7 ((t_x 7) + 2)))]]) H := hP
            have hD : va_D A (flt [[(f_a0, eI G 60 (uZ x0_29 ((sumI l_x ((t_x 10)).toNat) - 1) (f_x (sumI l_x (x7_1).toNat))))], [(n_a0, eI G 64 (uZ n_x ((t_x 10) - 1) (t_x 4)))], [(l_a0, eI G 64 (uZ (uZ l_x x7_1 ((l_x x7_1) - 1)) ((t_x 10) - 1) (((uZ l_x x7_1 ((l_x x7_1) - 1)) ((t_x 10) - 1)) + 1)))], [(d_a0, eI G 64 (uZ d_x ((t_x 10) - 1) 0))], [(k_a0, eI G 60 k_x)], [(c_a0, eI G 60 c_x)], [(t_a0, eI G 12 (uZ t_x 7 ((t_x 7) + 2)))]]) := hD
            refine lv_aload hx hb dL_step_275 (lv_at hl 11 rfl) ?_
            refine lv_iconst (v := iI 4) hx hb dL_step_277 rfl ?_
            refine lv_dup2_11 hx hb dL_step_278 rfl rfl ?_
            refine zr_iald (n := 12) (f := uZ t_x 7 ((t_x 7) + 2)) (i := 4) hx hb hK hP 6 rfl rg_4 ⟨by decide, by decide⟩ dL_step_279 ?_
            refine W.eq (g2 := F0 m 280 ls (.int (iI (t_x 4)) :: [.int (iI 4), .ref t_a0])) rfl ?_
            refine lv_iconst (v := iI 1) hx hb dL_step_280 rfl ?_
            refine zr_iadd (x := t_x 4) (y := 1) hx hb dL_step_281 ?_
            obtain ⟨r115, h116⟩ := h114
            refine zr_iast (n := 12) (f := uZ t_x 7 ((t_x 7) + 2)) (i := 4) (x := (t_x 4) + 1) hx hb hK hP hD hS 6 rfl rg_4 ⟨by decide, by decide⟩ dL_step_282 (fun H locs hP hD hS => ?_)
            have hP : va_P G.1 vwCl (flt [[(f_a0, eI G 60 (uZ x0_29 ((sumI l_x ((t_x 10)).toNat) - 1) (f_x (sumI l_x (x7_1).toNat))))], [(n_a0, eI G 64 (uZ n_x ((t_x 10) - 1) (t_x 4)))], [(l_a0, eI G 64 (uZ (uZ l_x x7_1 ((l_x x7_1) - 1)) ((t_x 10) - 1) (((uZ l_x x7_1 ((l_x x7_1) - 1)) ((t_x 10) - 1)) + 1)))], [(d_a0, eI G 64 (uZ d_x ((t_x 10) - 1) 0))], [(k_a0, eI G 60 k_x)], [(c_a0, eI G 60 c_x)], [(t_a0, eI G 12 (uZ (uZ t_x 7 ((t_x 7) + 2)) 4 ((t_x 4) + 1)))]]) H := hP
            have hD : va_D A (flt [[(f_a0, eI G 60 (uZ x0_29 ((sumI l_x ((t_x 10)).toNat) - 1) (f_x (sumI l_x (x7_1).toNat))))], [(n_a0, eI G 64 (uZ n_x ((t_x 10) - 1) (t_x 4)))], [(l_a0, eI G 64 (uZ (uZ l_x x7_1 ((l_x x7_1) - 1)) ((t_x 10) - 1) (((uZ l_x x7_1 ((l_x x7_1) - 1)) ((t_x 10) - 1)) + 1)))], [(d_a0, eI G 64 (uZ d_x ((t_x 10) - 1) 0))], [(k_a0, eI G 60 k_x)], [(c_a0, eI G 60 c_x)], [(t_a0, eI G 12 (uZ (uZ t_x 7 ((t_x 7) + 2)) 4 ((t_x 4) + 1)))]]) := hD
            refine lv_aload hx hb dL_step_283 (lv_at hl 11 rfl) ?_
            refine lv_iconst (v := iI 5) hx hb dL_step_285 rfl ?_
            refine lv_iconst (v := iI 0) hx hb dL_step_286 rfl ?_
            refine zr_iast (n := 12) (f := uZ (uZ t_x 7 ((t_x 7) + 2)) 4 ((t_x 4) + 1)) (i := 5) (x := 0) hx hb hK hP hD hS 6 rfl rg_5 ⟨by decide, by decide⟩ dL_step_287 (fun H locs hP hD hS => ?_)
            have hP : va_P G.1 vwCl (flt [[(f_a0, eI G 60 (uZ x0_29 ((sumI l_x ((t_x 10)).toNat) - 1) (f_x (sumI l_x (x7_1).toNat))))], [(n_a0, eI G 64 (uZ n_x ((t_x 10) - 1) (t_x 4)))], [(l_a0, eI G 64 (uZ (uZ l_x x7_1 ((l_x x7_1) - 1)) ((t_x 10) - 1) (((uZ l_x x7_1 ((l_x x7_1) - 1)) ((t_x 10) - 1)) + 1)))], [(d_a0, eI G 64 (uZ d_x ((t_x 10) - 1) 0))], [(k_a0, eI G 60 k_x)], [(c_a0, eI G 60 c_x)], [(t_a0, eI G 12 (uZ (uZ (uZ t_x 7 ((t_x 7) + 2)) 4 ((t_x 4) + 1)) 5 0))]]) H := hP
            have hD : va_D A (flt [[(f_a0, eI G 60 (uZ x0_29 ((sumI l_x ((t_x 10)).toNat) - 1) (f_x (sumI l_x (x7_1).toNat))))], [(n_a0, eI G 64 (uZ n_x ((t_x 10) - 1) (t_x 4)))], [(l_a0, eI G 64 (uZ (uZ l_x x7_1 ((l_x x7_1) - 1)) ((t_x 10) - 1) (((uZ l_x x7_1 ((l_x x7_1) - 1)) ((t_x 10) - 1)) + 1)))], [(d_a0, eI G 64 (uZ d_x ((t_x 10) - 1) 0))], [(k_a0, eI G 60 k_x)], [(c_a0, eI G 60 c_x)], [(t_a0, eI G 12 (uZ (uZ (uZ t_x 7 ((t_x 7) + 2)) 4 ((t_x 4) + 1)) 5 0))]]) := hD
            refine lv_aload_n hx hb dL_step_288 rfl (lv_at hl 6 rfl) ?_
            refine lv_aload_n hx hb dL_step_289 rfl (lv_at hl 7 rfl) ?_
            refine lv_aload_n hx hb dL_step_290 rfl (lv_at hl 8 rfl) ?_
            refine lv_aload hx hb dL_step_291 (lv_at hl 11 rfl) ?_
            obtain ⟨g117, g118, h119⟩ := h116
            obtain ⟨b120, h121⟩ := h119
            obtain ⟨b122, h123⟩ := h121
            refine zs_vv (As := [.ref n_a0, .ref l_a0, .ref d_a0, .ref t_a0]) (rest := []) (L := [[(f_a0, eI G 60 (uZ x0_29 ((sumI l_x ((t_x 10)).toNat) - 1) (f_x (sumI l_x (x7_1).toNat))))], [(n_a0, eI G 64 (uZ n_x ((t_x 10) - 1) (t_x 4)))], [(l_a0, eI G 64 (uZ (uZ l_x x7_1 ((l_x x7_1) - 1)) ((t_x 10) - 1) (((uZ l_x x7_1 ((l_x x7_1) - 1)) ((t_x 10) - 1)) + 1)))], [(d_a0, eI G 64 (uZ d_x ((t_x 10) - 1) 0))], [(k_a0, eI G 60 k_x)], [(c_a0, eI G 60 c_x)], [(t_a0, eI G 12 (uZ (uZ (uZ t_x 7 ((t_x 7) + 2)) 4 ((t_x 4) + 1)) 5 0))]]) (LC := [[(n_a0, eI G 64 (uZ n_x ((t_x 10) - 1) (t_x 4)))], [(l_a0, eI G 64 (uZ (uZ l_x x7_1 ((l_x x7_1) - 1)) ((t_x 10) - 1) (((uZ l_x x7_1 ((l_x x7_1) - 1)) ((t_x 10) - 1)) + 1)))], [(d_a0, eI G 64 (uZ d_x ((t_x 10) - 1) 0))], [(t_a0, eI G 12 (uZ (uZ (uZ t_x 7 ((t_x 7) + 2)) 4 ((t_x 4) + 1)) 5 0))]]) (LR := [[(f_a0, eI G 60 (uZ x0_29 ((sumI l_x ((t_x 10)).toNat) - 1) (f_x (sumI l_x (x7_1).toNat))))], [(k_a0, eI G 60 k_x)], [(c_a0, eI G 60 c_x)]]) (LC1 := fun (u_128 : (Int → Int) × (Int → Int) × (Int → Int) × (Int → Int)) => [[(n_a0, eI G 64 u_128.1)], [(l_a0, eI G 64 u_128.2.1)], [(d_a0, eI G 64 u_128.2.2.1)], [(t_a0, eI G 12 u_128.2.2.2)]]) (L2 := fun (u_128 : (Int → Int) × (Int → Int) × (Int → Int) × (Int → Int)) => [[(f_a0, eI G 60 (uZ x0_29 ((sumI l_x ((t_x 10)).toNat) - 1) (f_x (sumI l_x (x7_1).toNat))))], [(n_a0, eI G 64 u_128.1)], [(l_a0, eI G 64 u_128.2.1)], [(d_a0, eI G 64 u_128.2.2.1)], [(k_a0, eI G 60 k_x)], [(c_a0, eI G 60 c_x)], [(t_a0, eI G 12 u_128.2.2.2)]]) (c_L_clean l G n_a0 l_a0 d_a0 t_a0 (uZ n_x ((t_x 10) - 1) (t_x 4)) (uZ (uZ l_x x7_1 ((l_x x7_1) - 1)) ((t_x 10) - 1) (((uZ l_x x7_1 ((l_x x7_1) - 1)) ((t_x 10) - 1)) + 1)) (uZ d_x ((t_x 10) - 1) 0) (uZ (uZ (uZ t_x 7 ((t_x 7) + 2)) 4 ((t_x 4) + 1)) 5 0) g117 g118 (rgA_u (i := (t_x 10) - 1) r_n_x (r_t_x 4)) (rgA_u (i := (t_x 10) - 1) (rgA_u (i := x7_1) r_l_x r45) r99) (rgA_u (i := (t_x 10) - 1) r_d_x rg_0) (rgA_u (i := 5) (rgA_u (i := 4) (rgA_u (i := 7) r_t_x r101) r115) rg_0) b120 b122) ⟨hx, hb, hml, hown, hts⟩ (va_cwS 4 hts gL_step_L_clean rfl rfl rfl hdL_clean ⟨Nat.le_of_ble_eq_true rfl, Nat.le_of_ble_eq_true rfl⟩) hK hP hD hS hA [1, 2, 3, 6] [0, 4, 5] [4, 0, 1, 2, 5, 6, 3] rfl rfl 7 rfl (by decide) (fun _ => rfl) (fun _ => rfl) (by decide) rfl hl.1 rfl (Nat.le_of_ble_eq_true rfl) dL_step_293 ⟨Nat.zero_le _, Nat.zero_le _⟩ (fun u_128 H locs hw hP hD hS => ?_)
            obtain ⟨u_n_x124, u_l_x125, u_d_x126, u_t_x127⟩ := u_128
            obtain ⟨ru_n_x124, ru_l_x125, ru_d_x126, ru_t_x127, h130⟩ := hw
            have h131 := h123 u_n_x124 u_l_x125 u_d_x126 u_t_x127 ru_n_x124 ru_l_x125 ru_d_x126 ru_t_x127 h130
            have hP : va_P G.1 vwCl (flt [[(f_a0, eI G 60 (uZ x0_29 ((sumI l_x ((t_x 10)).toNat) - 1) (f_x (sumI l_x (x7_1).toNat))))], [(n_a0, eI G 64 u_n_x124)], [(l_a0, eI G 64 u_l_x125)], [(d_a0, eI G 64 u_d_x126)], [(k_a0, eI G 60 k_x)], [(c_a0, eI G 60 c_x)], [(t_a0, eI G 12 u_t_x127)]]) H := hP
            have hD : va_D A (flt [[(f_a0, eI G 60 (uZ x0_29 ((sumI l_x ((t_x 10)).toNat) - 1) (f_x (sumI l_x (x7_1).toNat))))], [(n_a0, eI G 64 u_n_x124)], [(l_a0, eI G 64 u_l_x125)], [(d_a0, eI G 64 u_d_x126)], [(k_a0, eI G 60 k_x)], [(c_a0, eI G 60 c_x)], [(t_a0, eI G 12 u_t_x127)]]) := hD
            exact zr_vret hx hb hr hlocks hK ((uZ x0_29 ((sumI l_x ((t_x 10)).toNat) - 1) (f_x (sumI l_x (x7_1).toNat)), u_n_x124, u_l_x125, u_d_x126, c_x, u_t_x127)) hP hD hS dL_step_296 ⟨(rgA_u (i := (sumI l_x ((t_x 10)).toNat) - 1) rx0_29 (r_f_x (sumI l_x (x7_1).toNat))), ru_n_x124, ru_l_x125, ru_d_x126, r_c_x, ru_t_x127, h131⟩
        · have h132 := h92.1 c93
          refine lv_aload hx hb dL_step_161 (lv_at hl 8 rfl) ?_
          refine lv_aload_n hx hb dL_step_163 rfl (lv_at hl 4 rfl) ?_
          refine lv_iload hx hb dL_step_164 (lv_at hl 2 rfl) ?_
          refine lv_iconst (v := iI 2) hx hb dL_step_166 rfl ?_
          refine zr_isub (x := sumI l_x ((t_x 10)).toNat) (y := 2) hx hb dL_step_167 ?_
          obtain ⟨r133, h134⟩ := h132
          obtain ⟨b135, h136⟩ := h134
          refine zr_iald (n := 60) (f := x0_29) (i := (sumI l_x ((t_x 10)).toNat) - 2) hx hb hK hP 0 rfl r133 b135 dL_step_168 ?_
          obtain ⟨b137, h138⟩ := h136
          refine zr_iald (n := 60) (f := k_x) (i := x0_29 ((sumI l_x ((t_x 10)).toNat) - 2)) hx hb hK hP 4 rfl (rx0_29 ((sumI l_x ((t_x 10)).toNat) - 2)) b137 dL_step_169 ?_
          refine lv_aload hx hb dL_step_170 (lv_at hl 8 rfl) ?_
          refine lv_iload hx hb dL_step_172 (lv_at hl 1 rfl) ?_
          obtain ⟨b139, h140⟩ := h138
          refine zr_iald (n := 60) (f := k_x) (i := f_x (sumI l_x (x7_1).toNat)) hx hb hK hP 4 rfl (r_f_x (sumI l_x (x7_1).toNat)) b139 dL_step_174 ?_
          refine zr_icmp_ne (tgt := 182) (x := k_x (x0_29 ((sumI l_x ((t_x 10)).toNat) - 2))) (y := k_x (f_x (sumI l_x (x7_1).toNat))) hx hb (r_k_x (x0_29 ((sumI l_x ((t_x 10)).toNat) - 2))) (r_k_x (f_x (sumI l_x (x7_1).toNat))) dL_step_175 (by decide) (fun c141 => ?_) (fun c141 => ?_)
          · have h144 := h140.2 c141
            refine lv_iconst (v := iI 0) hx hb dL_step_182 rfl ?_
            refine lv_istore (lv' := [(12, .int (iI 0)), (11, .int (iI ((t_x 10) - 1))), (10, .int (iI (f_x (sumI l_x (x7_1).toNat)))), (8, .int (iI (sumI l_x ((t_x 10)).toNat))), (7, .int (iI x7_1)), (0, .ref f_a0), (1, .ref n_a0), (2, .ref l_a0), (3, .ref d_a0), (4, .ref k_a0), (5, .ref c_a0), (6, .ref t_a0)]) hx hb dL_step_183 hl (by decide) rfl (fun ls hl => ?_)
            refine lv_iload hx hb dL_step_185 (lv_at hl 0 rfl) ?_
            refine zr_if_eq (tgt := 216) (x := 0) hx hb rg_0 dL_step_187 (by decide) (fun _ => ?_) (fun c => absurd (by decide) c)
            refine lv_aload_n hx hb dL_step_216 rfl (lv_at hl 5 rfl) ?_
            refine lv_iload hx hb dL_step_217 (lv_at hl 3 rfl) ?_
            refine lv_iconst (v := iI 1) hx hb dL_step_219 rfl ?_
            refine zr_isub (x := sumI l_x ((t_x 10)).toNat) (y := 1) hx hb dL_step_220 ?_
            refine lv_iload hx hb dL_step_221 (lv_at hl 2 rfl) ?_
            obtain ⟨b145, h146⟩ := h144
            refine zr_iast (n := 60) (f := x0_29) (i := (sumI l_x ((t_x 10)).toNat) - 1) (x := f_x (sumI l_x (x7_1).toNat)) hx hb hK hP hD hS 0 rfl r37 b145 dL_step_223 (fun H locs hP hD hS => ?_)
            have hP : va_P G.1 vwCl (flt [[(f_a0, eI G 60 (uZ x0_29 ((sumI l_x ((t_x 10)).toNat) - 1) (f_x (sumI l_x (x7_1).toNat))))], [(n_a0, eI G 64 n_x)], [(l_a0, eI G 64 (uZ l_x x7_1 ((l_x x7_1) - 1)))], [(d_a0, eI G 64 d_x)], [(k_a0, eI G 60 k_x)], [(c_a0, eI G 60 c_x)], [(t_a0, eI G 12 t_x)]]) H := hP
            have hD : va_D A (flt [[(f_a0, eI G 60 (uZ x0_29 ((sumI l_x ((t_x 10)).toNat) - 1) (f_x (sumI l_x (x7_1).toNat))))], [(n_a0, eI G 64 n_x)], [(l_a0, eI G 64 (uZ l_x x7_1 ((l_x x7_1) - 1)))], [(d_a0, eI G 64 d_x)], [(k_a0, eI G 60 k_x)], [(c_a0, eI G 60 c_x)], [(t_a0, eI G 12 t_x)]]) := hD
            refine lv_aload_n hx hb dL_step_224 rfl (lv_at hl 7 rfl) ?_
            refine lv_iload hx hb dL_step_225 (lv_at hl 1 rfl) ?_
            refine lv_dup2_11 hx hb dL_step_227 rfl rfl ?_
            refine zr_iald (n := 64) (f := uZ l_x x7_1 ((l_x x7_1) - 1)) (i := (t_x 10) - 1) hx hb hK hP 2 rfl r47 b91 dL_step_228 ?_
            refine lv_iconst (v := iI 1) hx hb dL_step_229 rfl ?_
            refine zr_iadd (x := (uZ l_x x7_1 ((l_x x7_1) - 1)) ((t_x 10) - 1)) (y := 1) hx hb dL_step_230 ?_
            obtain ⟨r147, h148⟩ := h146
            refine zr_iast (n := 64) (f := uZ l_x x7_1 ((l_x x7_1) - 1)) (i := (t_x 10) - 1) (x := ((uZ l_x x7_1 ((l_x x7_1) - 1)) ((t_x 10) - 1)) + 1) hx hb hK hP hD hS 2 rfl r47 b91 dL_step_231 (fun H locs hP hD hS => ?_)
            have hP : va_P G.1 vwCl (flt [[(f_a0, eI G 60 (uZ x0_29 ((sumI l_x ((t_x 10)).toNat) - 1) (f_x (sumI l_x (x7_1).toNat))))], [(n_a0, eI G 64 n_x)], [(l_a0, eI G 64 (uZ (uZ l_x x7_1 ((l_x x7_1) - 1)) ((t_x 10) - 1) (((uZ l_x x7_1 ((l_x x7_1) - 1)) ((t_x 10) - 1)) + 1)))], [(d_a0, eI G 64 d_x)], [(k_a0, eI G 60 k_x)], [(c_a0, eI G 60 c_x)], [(t_a0, eI G 12 t_x)]]) H := hP
            have hD : va_D A (flt [[(f_a0, eI G 60 (uZ x0_29 ((sumI l_x ((t_x 10)).toNat) - 1) (f_x (sumI l_x (x7_1).toNat))))], [(n_a0, eI G 64 n_x)], [(l_a0, eI G 64 (uZ (uZ l_x x7_1 ((l_x x7_1) - 1)) ((t_x 10) - 1) (((uZ l_x x7_1 ((l_x x7_1) - 1)) ((t_x 10) - 1)) + 1)))], [(d_a0, eI G 64 d_x)], [(k_a0, eI G 60 k_x)], [(c_a0, eI G 60 c_x)], [(t_a0, eI G 12 t_x)]]) := hD
            refine lv_aload hx hb dL_step_232 (lv_at hl 11 rfl) ?_
            refine lv_bipush (v := iI 7) hx hb dL_step_234 (by decide) ?_
            refine lv_dup2_11 hx hb dL_step_236 rfl rfl ?_
            refine zr_iald (n := 12) (f := t_x) (i := 7) hx hb hK hP 6 rfl rg_7 ⟨by decide, by decide⟩ dL_step_237 ?_
            refine lv_iload hx hb dL_step_238 (lv_at hl 0 rfl) ?_
            refine zr_if_eq (tgt := 247) (x := 0) hx hb rg_0 dL_step_240 (by decide) (fun _ => ?_) (fun c => absurd (by decide) c)
            refine lv_iconst (v := iI 2) hx hb dL_step_247 rfl ?_
            refine zr_iadd (x := t_x 7) (y := 2) hx hb dL_step_248 ?_
            obtain ⟨r149, h150⟩ := h148
            refine zr_iast (n := 12) (f := t_x) (i := 7) (x := (t_x 7) + 2) hx hb hK hP hD hS 6 rfl rg_7 ⟨by decide, by decide⟩ dL_step_249 (fun H locs hP hD hS => ?_)
            have hP : va_P G.1 vwCl (flt [[(f_a0, eI G 60 (uZ x0_29 ((sumI l_x ((t_x 10)).toNat) - 1) (f_x (sumI l_x (x7_1).toNat))))], [(n_a0, eI G 64 n_x)], [(l_a0, eI G 64 (uZ (uZ l_x x7_1 ((l_x x7_1) - 1)) ((t_x 10) - 1) (((uZ l_x x7_1 ((l_x x7_1) - 1)) ((t_x 10) - 1)) + 1)))], [(d_a0, eI G 64 d_x)], [(k_a0, eI G 60 k_x)], [(c_a0, eI G 60 c_x)], [(t_a0, eI G 12 (uZ t_x 7 ((t_x 7) + 2)))]]) H := hP
            have hD : va_D A (flt [[(f_a0, eI G 60 (uZ x0_29 ((sumI l_x ((t_x 10)).toNat) - 1) (f_x (sumI l_x (x7_1).toNat))))], [(n_a0, eI G 64 n_x)], [(l_a0, eI G 64 (uZ (uZ l_x x7_1 ((l_x x7_1) - 1)) ((t_x 10) - 1) (((uZ l_x x7_1 ((l_x x7_1) - 1)) ((t_x 10) - 1)) + 1)))], [(d_a0, eI G 64 d_x)], [(k_a0, eI G 60 k_x)], [(c_a0, eI G 60 c_x)], [(t_a0, eI G 12 (uZ t_x 7 ((t_x 7) + 2)))]]) := hD
            refine lv_aload_n hx hb dL_step_250 rfl (lv_at hl 7 rfl) ?_
            refine lv_aload_n hx hb dL_step_251 rfl (lv_at hl 8 rfl) ?_
            refine lv_aload hx hb dL_step_252 (lv_at hl 11 rfl) ?_
            refine lv_iconst (v := iI 1) hx hb dL_step_254 rfl ?_
            refine lv_iconst (v := iI 1) hx hb dL_step_255 rfl ?_
            obtain ⟨b151, h152⟩ := h150
            obtain ⟨b153, h154⟩ := h152
            refine zs_viR (As := [.ref l_a0, .ref d_a0, .ref t_a0, .int (iI 1), .int (iI 1)]) (rest := []) (c_L_kinds l G l_a0 d_a0 t_a0 (uZ (uZ l_x x7_1 ((l_x x7_1) - 1)) ((t_x 10) - 1) (((uZ l_x x7_1 ((l_x x7_1) - 1)) ((t_x 10) - 1)) + 1)) d_x (uZ t_x 7 ((t_x 7) + 2)) 1 1 (rgA_u (i := (t_x 10) - 1) (rgA_u (i := x7_1) r_l_x r45) r147) r_d_x (rgA_u (i := 7) r_t_x r149) rg_1 rg_1 b151 b153) ⟨hx, hb, hml, hown, hts⟩ (va_cwS 5 hts gL_step_L_kinds rfl rfl rfl hdL_kinds ⟨Nat.le_of_ble_eq_true rfl, Nat.le_of_ble_eq_true rfl⟩) hK hP hD hS hA [2, 3, 6] rfl rfl rfl hl.1 rfl (Nat.le_of_ble_eq_true rfl) dL_step_256 ⟨Nat.zero_le _, Nat.zero_le _⟩ (fun z156 H locs hw hP hD hS => ?_)
            obtain ⟨rfl, r157⟩ := hw
            have hP : va_P G.1 vwCl (flt [[(f_a0, eI G 60 (uZ x0_29 ((sumI l_x ((t_x 10)).toNat) - 1) (f_x (sumI l_x (x7_1).toNat))))], [(n_a0, eI G 64 n_x)], [(l_a0, eI G 64 (uZ (uZ l_x x7_1 ((l_x x7_1) - 1)) ((t_x 10) - 1) (((uZ l_x x7_1 ((l_x x7_1) - 1)) ((t_x 10) - 1)) + 1)))], [(d_a0, eI G 64 d_x)], [(k_a0, eI G 60 k_x)], [(c_a0, eI G 60 c_x)], [(t_a0, eI G 12 (uZ t_x 7 ((t_x 7) + 2)))]]) H := hP
            have hD : va_D A (flt [[(f_a0, eI G 60 (uZ x0_29 ((sumI l_x ((t_x 10)).toNat) - 1) (f_x (sumI l_x (x7_1).toNat))))], [(n_a0, eI G 64 n_x)], [(l_a0, eI G 64 (uZ (uZ l_x x7_1 ((l_x x7_1) - 1)) ((t_x 10) - 1) (((uZ l_x x7_1 ((l_x x7_1) - 1)) ((t_x 10) - 1)) + 1)))], [(d_a0, eI G 64 d_x)], [(k_a0, eI G 60 k_x)], [(c_a0, eI G 60 c_x)], [(t_a0, eI G 12 (uZ t_x 7 ((t_x 7) + 2)))]]) := hD
            refine zr_if_ne (tgt := 296) (x := kdZ (uZ (uZ l_x x7_1 ((l_x x7_1) - 1)) ((t_x 10) - 1) (((uZ l_x x7_1 ((l_x x7_1) - 1)) ((t_x 10) - 1)) + 1)) d_x (1 : Int) ((uZ t_x 7 ((t_x 7) + 2)) 10).toNat) hx hb r157 dL_step_259 (by decide) (fun c158 => ?_) (fun c158 => ?_)
            · have h161 := h154.2 c158
              exact zr_vret hx hb hr hlocks hK ((uZ x0_29 ((sumI l_x ((t_x 10)).toNat) - 1) (f_x (sumI l_x (x7_1).toNat)), n_x, uZ (uZ l_x x7_1 ((l_x x7_1) - 1)) ((t_x 10) - 1) (((uZ l_x x7_1 ((l_x x7_1) - 1)) ((t_x 10) - 1)) + 1), d_x, c_x, uZ t_x 7 ((t_x 7) + 2))) hP hD hS dL_step_296 ⟨(rgA_u (i := (sumI l_x ((t_x 10)).toNat) - 1) rx0_29 (r_f_x (sumI l_x (x7_1).toNat))), r_n_x, (rgA_u (i := (t_x 10) - 1) (rgA_u (i := x7_1) r_l_x r45) r147), r_d_x, r_c_x, (rgA_u (i := 7) r_t_x r149), h161⟩
            · have h162 := h154.1 c158
              refine lv_aload_n hx hb dL_step_262 rfl (lv_at hl 6 rfl) ?_
              refine lv_iload hx hb dL_step_263 (lv_at hl 1 rfl) ?_
              refine lv_aload hx hb dL_step_265 (lv_at hl 11 rfl) ?_
              refine lv_iconst (v := iI 4) hx hb dL_step_267 rfl ?_
              refine zr_iald (n := 12) (f := uZ t_x 7 ((t_x 7) + 2)) (i := 4) hx hb hK hP 6 rfl rg_4 ⟨by decide, by decide⟩ dL_step_268 ?_
              refine W.eq (g2 := F0 m 269 ls (.int (iI (t_x 4)) :: [.int (iI ((t_x 10) - 1)), .ref n_a0])) rfl ?_
              refine zr_iast (n := 64) (f := n_x) (i := (t_x 10) - 1) (x := t_x 4) hx hb hK hP hD hS 1 rfl r47 b91 dL_step_269 (fun H locs hP hD hS => ?_)
              have hP : va_P G.1 vwCl (flt [[(f_a0, eI G 60 (uZ x0_29 ((sumI l_x ((t_x 10)).toNat) - 1) (f_x (sumI l_x (x7_1).toNat))))], [(n_a0, eI G 64 (uZ n_x ((t_x 10) - 1) (t_x 4)))], [(l_a0, eI G 64 (uZ (uZ l_x x7_1 ((l_x x7_1) - 1)) ((t_x 10) - 1) (((uZ l_x x7_1 ((l_x x7_1) - 1)) ((t_x 10) - 1)) + 1)))], [(d_a0, eI G 64 d_x)], [(k_a0, eI G 60 k_x)], [(c_a0, eI G 60 c_x)], [(t_a0, eI G 12 (uZ t_x 7 ((t_x 7) + 2)))]]) H := hP
              have hD : va_D A (flt [[(f_a0, eI G 60 (uZ x0_29 ((sumI l_x ((t_x 10)).toNat) - 1) (f_x (sumI l_x (x7_1).toNat))))], [(n_a0, eI G 64 (uZ n_x ((t_x 10) - 1) (t_x 4)))], [(l_a0, eI G 64 (uZ (uZ l_x x7_1 ((l_x x7_1) - 1)) ((t_x 10) - 1) (((uZ l_x x7_1 ((l_x x7_1) - 1)) ((t_x 10) - 1)) + 1)))], [(d_a0, eI G 64 d_x)], [(k_a0, eI G 60 k_x)], [(c_a0, eI G 60 c_x)], [(t_a0, eI G 12 (uZ t_x 7 ((t_x 7) + 2)))]]) := hD
              refine lv_aload_n hx hb dL_step_270 rfl (lv_at hl 8 rfl) ?_
              refine lv_iload hx hb dL_step_271 (lv_at hl 1 rfl) ?_
              refine lv_iconst (v := iI 0) hx hb dL_step_273 rfl ?_
              refine zr_iast (n := 64) (f := d_x) (i := (t_x 10) - 1) (x := 0) hx hb hK hP hD hS 3 rfl r47 b91 dL_step_274 (fun H locs hP hD hS => ?_)
              have hP : va_P G.1 vwCl (flt [[(f_a0, eI G 60 (uZ x0_29 ((sumI l_x ((t_x 10)).toNat) - 1) (f_x (sumI l_x (x7_1).toNat))))], [(n_a0, eI G 64 (uZ n_x ((t_x 10) - 1) (t_x 4)))], [(l_a0, eI G 64 (uZ (uZ l_x x7_1 ((l_x x7_1) - 1)) ((t_x 10) - 1) (((uZ l_x x7_1 ((l_x x7_1) - 1)) ((t_x 10) - 1)) + 1)))], [(d_a0, eI G 64 (uZ d_x ((t_x 10) - 1) 0))], [(k_a0, eI G 60 k_x)], [(c_a0, eI G 60 c_x)], [(t_a0, eI G 12 (uZ t_x 7 ((t_x 7) + 2)))]]) H := hP
              have hD : va_D A (flt [[(f_a0, eI G 60 (uZ x0_29 ((sumI l_x ((t_x 10)).toNat) - 1) (f_x (sumI l_x (x7_1).toNat))))], [(n_a0, eI G 64 (uZ n_x ((t_x 10) - 1) (t_x 4)))], [(l_a0, eI G 64 (uZ (uZ l_x x7_1 ((l_x x7_1) - 1)) ((t_x 10) - 1) (((uZ l_x x7_1 ((l_x x7_1) - 1)) ((t_x 10) - 1)) + 1)))], [(d_a0, eI G 64 (uZ d_x ((t_x 10) - 1) 0))], [(k_a0, eI G 60 k_x)], [(c_a0, eI G 60 c_x)], [(t_a0, eI G 12 (uZ t_x 7 ((t_x 7) + 2)))]]) := hD
              refine lv_aload hx hb dL_step_275 (lv_at hl 11 rfl) ?_
              refine lv_iconst (v := iI 4) hx hb dL_step_277 rfl ?_
              refine lv_dup2_11 hx hb dL_step_278 rfl rfl ?_
              refine zr_iald (n := 12) (f := uZ t_x 7 ((t_x 7) + 2)) (i := 4) hx hb hK hP 6 rfl rg_4 ⟨by decide, by decide⟩ dL_step_279 ?_
              refine W.eq (g2 := F0 m 280 ls (.int (iI (t_x 4)) :: [.int (iI 4), .ref t_a0])) rfl ?_
              refine lv_iconst (v := iI 1) hx hb dL_step_280 rfl ?_
              refine zr_iadd (x := t_x 4) (y := 1) hx hb dL_step_281 ?_
              obtain ⟨r163, h164⟩ := h162
              refine zr_iast (n := 12) (f := uZ t_x 7 ((t_x 7) + 2)) (i := 4) (x := (t_x 4) + 1) hx hb hK hP hD hS 6 rfl rg_4 ⟨by decide, by decide⟩ dL_step_282 (fun H locs hP hD hS => ?_)
              have hP : va_P G.1 vwCl (flt [[(f_a0, eI G 60 (uZ x0_29 ((sumI l_x ((t_x 10)).toNat) - 1) (f_x (sumI l_x (x7_1).toNat))))], [(n_a0, eI G 64 (uZ n_x ((t_x 10) - 1) (t_x 4)))], [(l_a0, eI G 64 (uZ (uZ l_x x7_1 ((l_x x7_1) - 1)) ((t_x 10) - 1) (((uZ l_x x7_1 ((l_x x7_1) - 1)) ((t_x 10) - 1)) + 1)))], [(d_a0, eI G 64 (uZ d_x ((t_x 10) - 1) 0))], [(k_a0, eI G 60 k_x)], [(c_a0, eI G 60 c_x)], [(t_a0, eI G 12 (uZ (uZ t_x 7 ((t_x 7) + 2)) 4 ((t_x 4) + 1)))]]) H := hP
              have hD : va_D A (flt [[(f_a0, eI G 60 (uZ x0_29 ((sumI l_x ((t_x 10)).toNat) - 1) (f_x (sumI l_x (x7_1).toNat))))], [(n_a0, eI G 64 (uZ n_x ((t_x 10) - 1) (t_x 4)))], [(l_a0, eI G 64 (uZ (uZ l_x x7_1 ((l_x x7_1) - 1)) ((t_x 10) - 1) (((uZ l_x x7_1 ((l_x x7_1) - 1)) ((t_x 10) - 1)) + 1)))], [(d_a0, eI G 64 (uZ d_x ((t_x 10) - 1) 0))], [(k_a0, eI G 60 k_x)], [(c_a0, eI G 60 c_x)], [(t_a0, eI G 12 (uZ (uZ t_x 7 ((t_x 7) + 2)) 4 ((t_x 4) + 1)))]]) := hD
              refine lv_aload hx hb dL_step_283 (lv_at hl 11 rfl) ?_
              refine lv_iconst (v := iI 5) hx hb dL_step_285 rfl ?_
              refine lv_iconst (v := iI 0) hx hb dL_step_286 rfl ?_
              refine zr_iast (n := 12) (f := uZ (uZ t_x 7 ((t_x 7) + 2)) 4 ((t_x 4) + 1)) (i := 5) (x := 0) hx hb hK hP hD hS 6 rfl rg_5 ⟨by decide, by decide⟩ dL_step_287 (fun H locs hP hD hS => ?_)
              have hP : va_P G.1 vwCl (flt [[(f_a0, eI G 60 (uZ x0_29 ((sumI l_x ((t_x 10)).toNat) - 1) (f_x (sumI l_x (x7_1).toNat))))], [(n_a0, eI G 64 (uZ n_x ((t_x 10) - 1) (t_x 4)))], [(l_a0, eI G 64 (uZ (uZ l_x x7_1 ((l_x x7_1) - 1)) ((t_x 10) - 1) (((uZ l_x x7_1 ((l_x x7_1) - 1)) ((t_x 10) - 1)) + 1)))], [(d_a0, eI G 64 (uZ d_x ((t_x 10) - 1) 0))], [(k_a0, eI G 60 k_x)], [(c_a0, eI G 60 c_x)], [(t_a0, eI G 12 (uZ (uZ (uZ t_x 7 ((t_x 7) + 2)) 4 ((t_x 4) + 1)) 5 0))]]) H := hP
              have hD : va_D A (flt [[(f_a0, eI G 60 (uZ x0_29 ((sumI l_x ((t_x 10)).toNat) - 1) (f_x (sumI l_x (x7_1).toNat))))], [(n_a0, eI G 64 (uZ n_x ((t_x 10) - 1) (t_x 4)))], [(l_a0, eI G 64 (uZ (uZ l_x x7_1 ((l_x x7_1) - 1)) ((t_x 10) - 1) (((uZ l_x x7_1 ((l_x x7_1) - 1)) ((t_x 10) - 1)) + 1)))], [(d_a0, eI G 64 (uZ d_x ((t_x 10) - 1) 0))], [(k_a0, eI G 60 k_x)], [(c_a0, eI G 60 c_x)], [(t_a0, eI G 12 (uZ (uZ (uZ t_x 7 ((t_x 7) + 2)) 4 ((t_x 4) + 1)) 5 0))]]) := hD
              refine lv_aload_n hx hb dL_step_288 rfl (lv_at hl 6 rfl) ?_
              refine lv_aload_n hx hb dL_step_289 rfl (lv_at hl 7 rfl) ?_
              refine lv_aload_n hx hb dL_step_290 rfl (lv_at hl 8 rfl) ?_
              refine lv_aload hx hb dL_step_291 (lv_at hl 11 rfl) ?_
              obtain ⟨g165, g166, h167⟩ := h164
              obtain ⟨b168, h169⟩ := h167
              obtain ⟨b170, h171⟩ := h169
              refine zs_vv (As := [.ref n_a0, .ref l_a0, .ref d_a0, .ref t_a0]) (rest := []) (L := [[(f_a0, eI G 60 (uZ x0_29 ((sumI l_x ((t_x 10)).toNat) - 1) (f_x (sumI l_x (x7_1).toNat))))], [(n_a0, eI G 64 (uZ n_x ((t_x 10) - 1) (t_x 4)))], [(l_a0, eI G 64 (uZ (uZ l_x x7_1 ((l_x x7_1) - 1)) ((t_x 10) - 1) (((uZ l_x x7_1 ((l_x x7_1) - 1)) ((t_x 10) - 1)) + 1)))], [(d_a0, eI G 64 (uZ d_x ((t_x 10) - 1) 0))], [(k_a0, eI G 60 k_x)], [(c_a0, eI G 60 c_x)], [(t_a0, eI G 12 (uZ (uZ (uZ t_x 7 ((t_x 7) + 2)) 4 ((t_x 4) + 1)) 5 0))]]) (LC := [[(n_a0, eI G 64 (uZ n_x ((t_x 10) - 1) (t_x 4)))], [(l_a0, eI G 64 (uZ (uZ l_x x7_1 ((l_x x7_1) - 1)) ((t_x 10) - 1) (((uZ l_x x7_1 ((l_x x7_1) - 1)) ((t_x 10) - 1)) + 1)))], [(d_a0, eI G 64 (uZ d_x ((t_x 10) - 1) 0))], [(t_a0, eI G 12 (uZ (uZ (uZ t_x 7 ((t_x 7) + 2)) 4 ((t_x 4) + 1)) 5 0))]]) (LR := [[(f_a0, eI G 60 (uZ x0_29 ((sumI l_x ((t_x 10)).toNat) - 1) (f_x (sumI l_x (x7_1).toNat))))], [(k_a0, eI G 60 k_x)], [(c_a0, eI G 60 c_x)]]) (LC1 := fun (u_176 : (Int → Int) × (Int → Int) × (Int → Int) × (Int → Int)) => [[(n_a0, eI G 64 u_176.1)], [(l_a0, eI G 64 u_176.2.1)], [(d_a0, eI G 64 u_176.2.2.1)], [(t_a0, eI G 12 u_176.2.2.2)]]) (L2 := fun (u_176 : (Int → Int) × (Int → Int) × (Int → Int) × (Int → Int)) => [[(f_a0, eI G 60 (uZ x0_29 ((sumI l_x ((t_x 10)).toNat) - 1) (f_x (sumI l_x (x7_1).toNat))))], [(n_a0, eI G 64 u_176.1)], [(l_a0, eI G 64 u_176.2.1)], [(d_a0, eI G 64 u_176.2.2.1)], [(k_a0, eI G 60 k_x)], [(c_a0, eI G 60 c_x)], [(t_a0, eI G 12 u_176.2.2.2)]]) (c_L_clean l G n_a0 l_a0 d_a0 t_a0 (uZ n_x ((t_x 10) - 1) (t_x 4)) (uZ (uZ l_x x7_1 ((l_x x7_1) - 1)) ((t_x 10) - 1) (((uZ l_x x7_1 ((l_x x7_1) - 1)) ((t_x 10) - 1)) + 1)) (uZ d_x ((t_x 10) - 1) 0) (uZ (uZ (uZ t_x 7 ((t_x 7) + 2)) 4 ((t_x 4) + 1)) 5 0) g165 g166 (rgA_u (i := (t_x 10) - 1) r_n_x (r_t_x 4)) (rgA_u (i := (t_x 10) - 1) (rgA_u (i := x7_1) r_l_x r45) r147) (rgA_u (i := (t_x 10) - 1) r_d_x rg_0) (rgA_u (i := 5) (rgA_u (i := 4) (rgA_u (i := 7) r_t_x r149) r163) rg_0) b168 b170) ⟨hx, hb, hml, hown, hts⟩ (va_cwS 4 hts gL_step_L_clean rfl rfl rfl hdL_clean ⟨Nat.le_of_ble_eq_true rfl, Nat.le_of_ble_eq_true rfl⟩) hK hP hD hS hA [1, 2, 3, 6] [0, 4, 5] [4, 0, 1, 2, 5, 6, 3] rfl rfl 7 rfl (by decide) (fun _ => rfl) (fun _ => rfl) (by decide) rfl hl.1 rfl (Nat.le_of_ble_eq_true rfl) dL_step_293 ⟨Nat.zero_le _, Nat.zero_le _⟩ (fun u_176 H locs hw hP hD hS => ?_)
              obtain ⟨u_n_x172, u_l_x173, u_d_x174, u_t_x175⟩ := u_176
              obtain ⟨ru_n_x172, ru_l_x173, ru_d_x174, ru_t_x175, h178⟩ := hw
              have h179 := h171 u_n_x172 u_l_x173 u_d_x174 u_t_x175 ru_n_x172 ru_l_x173 ru_d_x174 ru_t_x175 h178
              have hP : va_P G.1 vwCl (flt [[(f_a0, eI G 60 (uZ x0_29 ((sumI l_x ((t_x 10)).toNat) - 1) (f_x (sumI l_x (x7_1).toNat))))], [(n_a0, eI G 64 u_n_x172)], [(l_a0, eI G 64 u_l_x173)], [(d_a0, eI G 64 u_d_x174)], [(k_a0, eI G 60 k_x)], [(c_a0, eI G 60 c_x)], [(t_a0, eI G 12 u_t_x175)]]) H := hP
              have hD : va_D A (flt [[(f_a0, eI G 60 (uZ x0_29 ((sumI l_x ((t_x 10)).toNat) - 1) (f_x (sumI l_x (x7_1).toNat))))], [(n_a0, eI G 64 u_n_x172)], [(l_a0, eI G 64 u_l_x173)], [(d_a0, eI G 64 u_d_x174)], [(k_a0, eI G 60 k_x)], [(c_a0, eI G 60 c_x)], [(t_a0, eI G 12 u_t_x175)]]) := hD
              exact zr_vret hx hb hr hlocks hK ((uZ x0_29 ((sumI l_x ((t_x 10)).toNat) - 1) (f_x (sumI l_x (x7_1).toNat)), u_n_x172, u_l_x173, u_d_x174, c_x, u_t_x175)) hP hD hS dL_step_296 ⟨(rgA_u (i := (sumI l_x ((t_x 10)).toNat) - 1) rx0_29 (r_f_x (sumI l_x (x7_1).toNat))), ru_n_x172, ru_l_x173, ru_d_x174, r_c_x, ru_t_x175, h179⟩
          · have h180 := h140.1 c141
            refine lv_iconst (v := iI 1) hx hb dL_step_178 rfl ?_
            refine lv_goto (tgt := 183) hx hb dL_step_179 (by decide) ?_
            refine lv_istore (lv' := [(12, .int (iI 1)), (11, .int (iI ((t_x 10) - 1))), (10, .int (iI (f_x (sumI l_x (x7_1).toNat)))), (8, .int (iI (sumI l_x ((t_x 10)).toNat))), (7, .int (iI x7_1)), (0, .ref f_a0), (1, .ref n_a0), (2, .ref l_a0), (3, .ref d_a0), (4, .ref k_a0), (5, .ref c_a0), (6, .ref t_a0)]) hx hb dL_step_183 hl (by decide) rfl (fun ls hl => ?_)
            refine lv_iload hx hb dL_step_185 (lv_at hl 0 rfl) ?_
            refine zr_if_eq (tgt := 216) (x := 1) hx hb rg_1 dL_step_187 (by decide) (fun c => absurd c (by decide)) (fun _ => ?_)
            refine lv_aload hx hb dL_step_190 (lv_at hl 10 rfl) ?_
            refine lv_aload_n hx hb dL_step_192 rfl (lv_at hl 5 rfl) ?_
            refine lv_iload hx hb dL_step_193 (lv_at hl 3 rfl) ?_
            refine lv_iconst (v := iI 2) hx hb dL_step_195 rfl ?_
            refine zr_isub (x := sumI l_x ((t_x 10)).toNat) (y := 2) hx hb dL_step_196 ?_
            refine zr_iald (n := 60) (f := x0_29) (i := (sumI l_x ((t_x 10)).toNat) - 2) hx hb hK hP 0 rfl r133 b135 dL_step_197 ?_
            refine lv_dup2_11 hx hb dL_step_198 rfl rfl ?_
            refine zr_iald (n := 60) (f := c_x) (i := x0_29 ((sumI l_x ((t_x 10)).toNat) - 2)) hx hb hK hP 5 rfl (rx0_29 ((sumI l_x ((t_x 10)).toNat) - 2)) b137 dL_step_199 ?_
            refine lv_aload hx hb dL_step_200 (lv_at hl 10 rfl) ?_
            refine lv_iload hx hb dL_step_202 (lv_at hl 2 rfl) ?_
            refine zr_iald (n := 60) (f := c_x) (i := f_x (sumI l_x (x7_1).toNat)) hx hb hK hP 5 rfl (r_f_x (sumI l_x (x7_1).toNat)) b139 dL_step_204 ?_
            refine zr_iadd (x := c_x (x0_29 ((sumI l_x ((t_x 10)).toNat) - 2))) (y := c_x (f_x (sumI l_x (x7_1).toNat))) hx hb dL_step_205 ?_
            obtain ⟨r181, h182⟩ := h180
            refine zr_iast (n := 60) (f := c_x) (i := x0_29 ((sumI l_x ((t_x 10)).toNat) - 2)) (x := (c_x (x0_29 ((sumI l_x ((t_x 10)).toNat) - 2))) + (c_x (f_x (sumI l_x (x7_1).toNat)))) hx hb hK hP hD hS 5 rfl (rx0_29 ((sumI l_x ((t_x 10)).toNat) - 2)) b137 dL_step_206 (fun H locs hP hD hS => ?_)
            have hP : va_P G.1 vwCl (flt [[(f_a0, eI G 60 x0_29)], [(n_a0, eI G 64 n_x)], [(l_a0, eI G 64 (uZ l_x x7_1 ((l_x x7_1) - 1)))], [(d_a0, eI G 64 d_x)], [(k_a0, eI G 60 k_x)], [(c_a0, eI G 60 (uZ c_x (x0_29 ((sumI l_x ((t_x 10)).toNat) - 2)) ((c_x (x0_29 ((sumI l_x ((t_x 10)).toNat) - 2))) + (c_x (f_x (sumI l_x (x7_1).toNat))))))], [(t_a0, eI G 12 t_x)]]) H := hP
            have hD : va_D A (flt [[(f_a0, eI G 60 x0_29)], [(n_a0, eI G 64 n_x)], [(l_a0, eI G 64 (uZ l_x x7_1 ((l_x x7_1) - 1)))], [(d_a0, eI G 64 d_x)], [(k_a0, eI G 60 k_x)], [(c_a0, eI G 60 (uZ c_x (x0_29 ((sumI l_x ((t_x 10)).toNat) - 2)) ((c_x (x0_29 ((sumI l_x ((t_x 10)).toNat) - 2))) + (c_x (f_x (sumI l_x (x7_1).toNat))))))], [(t_a0, eI G 12 t_x)]]) := hD
            refine lv_aload hx hb dL_step_207 (lv_at hl 10 rfl) ?_
            refine lv_iload hx hb dL_step_209 (lv_at hl 2 rfl) ?_
            refine lv_iconst (v := iI 0) hx hb dL_step_211 rfl ?_
            refine zr_iast (n := 60) (f := uZ c_x (x0_29 ((sumI l_x ((t_x 10)).toNat) - 2)) ((c_x (x0_29 ((sumI l_x ((t_x 10)).toNat) - 2))) + (c_x (f_x (sumI l_x (x7_1).toNat))))) (i := f_x (sumI l_x (x7_1).toNat)) (x := 0) hx hb hK hP hD hS 5 rfl (r_f_x (sumI l_x (x7_1).toNat)) b139 dL_step_212 (fun H locs hP hD hS => ?_)
            have hP : va_P G.1 vwCl (flt [[(f_a0, eI G 60 x0_29)], [(n_a0, eI G 64 n_x)], [(l_a0, eI G 64 (uZ l_x x7_1 ((l_x x7_1) - 1)))], [(d_a0, eI G 64 d_x)], [(k_a0, eI G 60 k_x)], [(c_a0, eI G 60 (uZ (uZ c_x (x0_29 ((sumI l_x ((t_x 10)).toNat) - 2)) ((c_x (x0_29 ((sumI l_x ((t_x 10)).toNat) - 2))) + (c_x (f_x (sumI l_x (x7_1).toNat))))) (f_x (sumI l_x (x7_1).toNat)) 0))], [(t_a0, eI G 12 t_x)]]) H := hP
            have hD : va_D A (flt [[(f_a0, eI G 60 x0_29)], [(n_a0, eI G 64 n_x)], [(l_a0, eI G 64 (uZ l_x x7_1 ((l_x x7_1) - 1)))], [(d_a0, eI G 64 d_x)], [(k_a0, eI G 60 k_x)], [(c_a0, eI G 60 (uZ (uZ c_x (x0_29 ((sumI l_x ((t_x 10)).toNat) - 2)) ((c_x (x0_29 ((sumI l_x ((t_x 10)).toNat) - 2))) + (c_x (f_x (sumI l_x (x7_1).toNat))))) (f_x (sumI l_x (x7_1).toNat)) 0))], [(t_a0, eI G 12 t_x)]]) := hD
            refine lv_goto (tgt := 232) hx hb dL_step_213 (by decide) ?_
            refine lv_aload hx hb dL_step_232 (lv_at hl 11 rfl) ?_
            refine lv_bipush (v := iI 7) hx hb dL_step_234 (by decide) ?_
            refine lv_dup2_11 hx hb dL_step_236 rfl rfl ?_
            refine zr_iald (n := 12) (f := t_x) (i := 7) hx hb hK hP 6 rfl rg_7 ⟨by decide, by decide⟩ dL_step_237 ?_
            refine lv_iload hx hb dL_step_238 (lv_at hl 0 rfl) ?_
            refine zr_if_eq (tgt := 247) (x := 1) hx hb rg_1 dL_step_240 (by decide) (fun c => absurd c (by decide)) (fun _ => ?_)
            refine lv_iconst (v := iI 1) hx hb dL_step_243 rfl ?_
            refine lv_goto (tgt := 248) hx hb dL_step_244 (by decide) ?_
            refine zr_iadd (x := t_x 7) (y := 1) hx hb dL_step_248 ?_
            obtain ⟨r183, h184⟩ := h182
            refine zr_iast (n := 12) (f := t_x) (i := 7) (x := (t_x 7) + 1) hx hb hK hP hD hS 6 rfl rg_7 ⟨by decide, by decide⟩ dL_step_249 (fun H locs hP hD hS => ?_)
            have hP : va_P G.1 vwCl (flt [[(f_a0, eI G 60 x0_29)], [(n_a0, eI G 64 n_x)], [(l_a0, eI G 64 (uZ l_x x7_1 ((l_x x7_1) - 1)))], [(d_a0, eI G 64 d_x)], [(k_a0, eI G 60 k_x)], [(c_a0, eI G 60 (uZ (uZ c_x (x0_29 ((sumI l_x ((t_x 10)).toNat) - 2)) ((c_x (x0_29 ((sumI l_x ((t_x 10)).toNat) - 2))) + (c_x (f_x (sumI l_x (x7_1).toNat))))) (f_x (sumI l_x (x7_1).toNat)) 0))], [(t_a0, eI G 12 (uZ t_x 7 ((t_x 7) + 1)))]]) H := hP
            have hD : va_D A (flt [[(f_a0, eI G 60 x0_29)], [(n_a0, eI G 64 n_x)], [(l_a0, eI G 64 (uZ l_x x7_1 ((l_x x7_1) - 1)))], [(d_a0, eI G 64 d_x)], [(k_a0, eI G 60 k_x)], [(c_a0, eI G 60 (uZ (uZ c_x (x0_29 ((sumI l_x ((t_x 10)).toNat) - 2)) ((c_x (x0_29 ((sumI l_x ((t_x 10)).toNat) - 2))) + (c_x (f_x (sumI l_x (x7_1).toNat))))) (f_x (sumI l_x (x7_1).toNat)) 0))], [(t_a0, eI G 12 (uZ t_x 7 ((t_x 7) + 1)))]]) := hD
            refine lv_aload_n hx hb dL_step_250 rfl (lv_at hl 7 rfl) ?_
            refine lv_aload_n hx hb dL_step_251 rfl (lv_at hl 8 rfl) ?_
            refine lv_aload hx hb dL_step_252 (lv_at hl 11 rfl) ?_
            refine lv_iconst (v := iI 1) hx hb dL_step_254 rfl ?_
            refine lv_iconst (v := iI 1) hx hb dL_step_255 rfl ?_
            obtain ⟨b185, h186⟩ := h184
            obtain ⟨b187, h188⟩ := h186
            refine zs_viR (As := [.ref l_a0, .ref d_a0, .ref t_a0, .int (iI 1), .int (iI 1)]) (rest := []) (c_L_kinds l G l_a0 d_a0 t_a0 (uZ l_x x7_1 ((l_x x7_1) - 1)) d_x (uZ t_x 7 ((t_x 7) + 1)) 1 1 (rgA_u (i := x7_1) r_l_x r45) r_d_x (rgA_u (i := 7) r_t_x r183) rg_1 rg_1 b185 b187) ⟨hx, hb, hml, hown, hts⟩ (va_cwS 5 hts gL_step_L_kinds rfl rfl rfl hdL_kinds ⟨Nat.le_of_ble_eq_true rfl, Nat.le_of_ble_eq_true rfl⟩) hK hP hD hS hA [2, 3, 6] rfl rfl rfl hl.1 rfl (Nat.le_of_ble_eq_true rfl) dL_step_256 ⟨Nat.zero_le _, Nat.zero_le _⟩ (fun z190 H locs hw hP hD hS => ?_)
            obtain ⟨rfl, r191⟩ := hw
            have hP : va_P G.1 vwCl (flt [[(f_a0, eI G 60 x0_29)], [(n_a0, eI G 64 n_x)], [(l_a0, eI G 64 (uZ l_x x7_1 ((l_x x7_1) - 1)))], [(d_a0, eI G 64 d_x)], [(k_a0, eI G 60 k_x)], [(c_a0, eI G 60 (uZ (uZ c_x (x0_29 ((sumI l_x ((t_x 10)).toNat) - 2)) ((c_x (x0_29 ((sumI l_x ((t_x 10)).toNat) - 2))) + (c_x (f_x (sumI l_x (x7_1).toNat))))) (f_x (sumI l_x (x7_1).toNat)) 0))], [(t_a0, eI G 12 (uZ t_x 7 ((t_x 7) + 1)))]]) H := hP
            have hD : va_D A (flt [[(f_a0, eI G 60 x0_29)], [(n_a0, eI G 64 n_x)], [(l_a0, eI G 64 (uZ l_x x7_1 ((l_x x7_1) - 1)))], [(d_a0, eI G 64 d_x)], [(k_a0, eI G 60 k_x)], [(c_a0, eI G 60 (uZ (uZ c_x (x0_29 ((sumI l_x ((t_x 10)).toNat) - 2)) ((c_x (x0_29 ((sumI l_x ((t_x 10)).toNat) - 2))) + (c_x (f_x (sumI l_x (x7_1).toNat))))) (f_x (sumI l_x (x7_1).toNat)) 0))], [(t_a0, eI G 12 (uZ t_x 7 ((t_x 7) + 1)))]]) := hD
            refine zr_if_ne (tgt := 296) (x := kdZ (uZ l_x x7_1 ((l_x x7_1) - 1)) d_x (1 : Int) ((uZ t_x 7 ((t_x 7) + 1)) 10).toNat) hx hb r191 dL_step_259 (by decide) (fun c192 => ?_) (fun c192 => ?_)
            · have h195 := h188.2 c192
              exact zr_vret hx hb hr hlocks hK ((x0_29, n_x, uZ l_x x7_1 ((l_x x7_1) - 1), d_x, uZ (uZ c_x (x0_29 ((sumI l_x ((t_x 10)).toNat) - 2)) ((c_x (x0_29 ((sumI l_x ((t_x 10)).toNat) - 2))) + (c_x (f_x (sumI l_x (x7_1).toNat))))) (f_x (sumI l_x (x7_1).toNat)) 0, uZ t_x 7 ((t_x 7) + 1))) hP hD hS dL_step_296 ⟨rx0_29, r_n_x, (rgA_u (i := x7_1) r_l_x r45), r_d_x, (rgA_u (i := f_x (sumI l_x (x7_1).toNat)) (rgA_u (i := x0_29 ((sumI l_x ((t_x 10)).toNat) - 2)) r_c_x r181) rg_0), (rgA_u (i := 7) r_t_x r183), h195⟩
            · have h196 := h188.1 c192
              refine lv_aload_n hx hb dL_step_262 rfl (lv_at hl 6 rfl) ?_
              refine lv_iload hx hb dL_step_263 (lv_at hl 1 rfl) ?_
              refine lv_aload hx hb dL_step_265 (lv_at hl 11 rfl) ?_
              refine lv_iconst (v := iI 4) hx hb dL_step_267 rfl ?_
              refine zr_iald (n := 12) (f := uZ t_x 7 ((t_x 7) + 1)) (i := 4) hx hb hK hP 6 rfl rg_4 ⟨by decide, by decide⟩ dL_step_268 ?_
              refine W.eq (g2 := F0 m 269 ls (.int (iI (t_x 4)) :: [.int (iI ((t_x 10) - 1)), .ref n_a0])) rfl ?_
              refine zr_iast (n := 64) (f := n_x) (i := (t_x 10) - 1) (x := t_x 4) hx hb hK hP hD hS 1 rfl r47 b91 dL_step_269 (fun H locs hP hD hS => ?_)
              have hP : va_P G.1 vwCl (flt [[(f_a0, eI G 60 x0_29)], [(n_a0, eI G 64 (uZ n_x ((t_x 10) - 1) (t_x 4)))], [(l_a0, eI G 64 (uZ l_x x7_1 ((l_x x7_1) - 1)))], [(d_a0, eI G 64 d_x)], [(k_a0, eI G 60 k_x)], [(c_a0, eI G 60 (uZ (uZ c_x (x0_29 ((sumI l_x ((t_x 10)).toNat) - 2)) ((c_x (x0_29 ((sumI l_x ((t_x 10)).toNat) - 2))) + (c_x (f_x (sumI l_x (x7_1).toNat))))) (f_x (sumI l_x (x7_1).toNat)) 0))], [(t_a0, eI G 12 (uZ t_x 7 ((t_x 7) + 1)))]]) H := hP
              have hD : va_D A (flt [[(f_a0, eI G 60 x0_29)], [(n_a0, eI G 64 (uZ n_x ((t_x 10) - 1) (t_x 4)))], [(l_a0, eI G 64 (uZ l_x x7_1 ((l_x x7_1) - 1)))], [(d_a0, eI G 64 d_x)], [(k_a0, eI G 60 k_x)], [(c_a0, eI G 60 (uZ (uZ c_x (x0_29 ((sumI l_x ((t_x 10)).toNat) - 2)) ((c_x (x0_29 ((sumI l_x ((t_x 10)).toNat) - 2))) + (c_x (f_x (sumI l_x (x7_1).toNat))))) (f_x (sumI l_x (x7_1).toNat)) 0))], [(t_a0, eI G 12 (uZ t_x 7 ((t_x 7) + 1)))]]) := hD
              refine lv_aload_n hx hb dL_step_270 rfl (lv_at hl 8 rfl) ?_
              refine lv_iload hx hb dL_step_271 (lv_at hl 1 rfl) ?_
              refine lv_iconst (v := iI 0) hx hb dL_step_273 rfl ?_
              refine zr_iast (n := 64) (f := d_x) (i := (t_x 10) - 1) (x := 0) hx hb hK hP hD hS 3 rfl r47 b91 dL_step_274 (fun H locs hP hD hS => ?_)
              have hP : va_P G.1 vwCl (flt [[(f_a0, eI G 60 x0_29)], [(n_a0, eI G 64 (uZ n_x ((t_x 10) - 1) (t_x 4)))], [(l_a0, eI G 64 (uZ l_x x7_1 ((l_x x7_1) - 1)))], [(d_a0, eI G 64 (uZ d_x ((t_x 10) - 1) 0))], [(k_a0, eI G 60 k_x)], [(c_a0, eI G 60 (uZ (uZ c_x (x0_29 ((sumI l_x ((t_x 10)).toNat) - 2)) ((c_x (x0_29 ((sumI l_x ((t_x 10)).toNat) - 2))) + (c_x (f_x (sumI l_x (x7_1).toNat))))) (f_x (sumI l_x (x7_1).toNat)) 0))], [(t_a0, eI G 12 (uZ t_x 7 ((t_x 7) + 1)))]]) H := hP
              have hD : va_D A (flt [[(f_a0, eI G 60 x0_29)], [(n_a0, eI G 64 (uZ n_x ((t_x 10) - 1) (t_x 4)))], [(l_a0, eI G 64 (uZ l_x x7_1 ((l_x x7_1) - 1)))], [(d_a0, eI G 64 (uZ d_x ((t_x 10) - 1) 0))], [(k_a0, eI G 60 k_x)], [(c_a0, eI G 60 (uZ (uZ c_x (x0_29 ((sumI l_x ((t_x 10)).toNat) - 2)) ((c_x (x0_29 ((sumI l_x ((t_x 10)).toNat) - 2))) + (c_x (f_x (sumI l_x (x7_1).toNat))))) (f_x (sumI l_x (x7_1).toNat)) 0))], [(t_a0, eI G 12 (uZ t_x 7 ((t_x 7) + 1)))]]) := hD
              refine lv_aload hx hb dL_step_275 (lv_at hl 11 rfl) ?_
              refine lv_iconst (v := iI 4) hx hb dL_step_277 rfl ?_
              refine lv_dup2_11 hx hb dL_step_278 rfl rfl ?_
              refine zr_iald (n := 12) (f := uZ t_x 7 ((t_x 7) + 1)) (i := 4) hx hb hK hP 6 rfl rg_4 ⟨by decide, by decide⟩ dL_step_279 ?_
              refine W.eq (g2 := F0 m 280 ls (.int (iI (t_x 4)) :: [.int (iI 4), .ref t_a0])) rfl ?_
              refine lv_iconst (v := iI 1) hx hb dL_step_280 rfl ?_
              refine zr_iadd (x := t_x 4) (y := 1) hx hb dL_step_281 ?_
              obtain ⟨r197, h198⟩ := h196
              refine zr_iast (n := 12) (f := uZ t_x 7 ((t_x 7) + 1)) (i := 4) (x := (t_x 4) + 1) hx hb hK hP hD hS 6 rfl rg_4 ⟨by decide, by decide⟩ dL_step_282 (fun H locs hP hD hS => ?_)
              have hP : va_P G.1 vwCl (flt [[(f_a0, eI G 60 x0_29)], [(n_a0, eI G 64 (uZ n_x ((t_x 10) - 1) (t_x 4)))], [(l_a0, eI G 64 (uZ l_x x7_1 ((l_x x7_1) - 1)))], [(d_a0, eI G 64 (uZ d_x ((t_x 10) - 1) 0))], [(k_a0, eI G 60 k_x)], [(c_a0, eI G 60 (uZ (uZ c_x (x0_29 ((sumI l_x ((t_x 10)).toNat) - 2)) ((c_x (x0_29 ((sumI l_x ((t_x 10)).toNat) - 2))) + (c_x (f_x (sumI l_x (x7_1).toNat))))) (f_x (sumI l_x (x7_1).toNat)) 0))], [(t_a0, eI G 12 (uZ (uZ t_x 7 ((t_x 7) + 1)) 4 ((t_x 4) + 1)))]]) H := hP
              have hD : va_D A (flt [[(f_a0, eI G 60 x0_29)], [(n_a0, eI G 64 (uZ n_x ((t_x 10) - 1) (t_x 4)))], [(l_a0, eI G 64 (uZ l_x x7_1 ((l_x x7_1) - 1)))], [(d_a0, eI G 64 (uZ d_x ((t_x 10) - 1) 0))], [(k_a0, eI G 60 k_x)], [(c_a0, eI G 60 (uZ (uZ c_x (x0_29 ((sumI l_x ((t_x 10)).toNat) - 2)) ((c_x (x0_29 ((sumI l_x ((t_x 10)).toNat) - 2))) + (c_x (f_x (sumI l_x (x7_1).toNat))))) (f_x (sumI l_x (x7_1).toNat)) 0))], [(t_a0, eI G 12 (uZ (uZ t_x 7 ((t_x 7) + 1)) 4 ((t_x 4) + 1)))]]) := hD
              refine lv_aload hx hb dL_step_283 (lv_at hl 11 rfl) ?_
              refine lv_iconst (v := iI 5) hx hb dL_step_285 rfl ?_
              refine lv_iconst (v := iI 0) hx hb dL_step_286 rfl ?_
              refine zr_iast (n := 12) (f := uZ (uZ t_x 7 ((t_x 7) + 1)) 4 ((t_x 4) + 1)) (i := 5) (x := 0) hx hb hK hP hD hS 6 rfl rg_5 ⟨by decide, by decide⟩ dL_step_287 (fun H locs hP hD hS => ?_)
              have hP : va_P G.1 vwCl (flt [[(f_a0, eI G 60 x0_29)], [(n_a0, eI G 64 (uZ n_x ((t_x 10) - 1) (t_x 4)))], [(l_a0, eI G 64 (uZ l_x x7_1 ((l_x x7_1) - 1)))], [(d_a0, eI G 64 (uZ d_x ((t_x 10) - 1) 0))], [(k_a0, eI G 60 k_x)], [(c_a0, eI G 60 (uZ (uZ c_x (x0_29 ((sumI l_x ((t_x 10)).toNat) - 2)) ((c_x (x0_29 ((sumI l_x ((t_x 10)).toNat) - 2))) + (c_x (f_x (sumI l_x (x7_1).toNat))))) (f_x (sumI l_x (x7_1).toNat)) 0))], [(t_a0, eI G 12 (uZ (uZ (uZ t_x 7 ((t_x 7) + 1)) 4 ((t_x 4) + 1)) 5 0))]]) H := hP
              have hD : va_D A (flt [[(f_a0, eI G 60 x0_29)], [(n_a0, eI G 64 (uZ n_x ((t_x 10) - 1) (t_x 4)))], [(l_a0, eI G 64 (uZ l_x x7_1 ((l_x x7_1) - 1)))], [(d_a0, eI G 64 (uZ d_x ((t_x 10) - 1) 0))], [(k_a0, eI G 60 k_x)], [(c_a0, eI G 60 (uZ (uZ c_x (x0_29 ((sumI l_x ((t_x 10)).toNat) - 2)) ((c_x (x0_29 ((sumI l_x ((t_x 10)).toNat) - 2))) + (c_x (f_x (sumI l_x (x7_1).toNat))))) (f_x (sumI l_x (x7_1).toNat)) 0))], [(t_a0, eI G 12 (uZ (uZ (uZ t_x 7 ((t_x 7) + 1)) 4 ((t_x 4) + 1)) 5 0))]]) := hD
              refine lv_aload_n hx hb dL_step_288 rfl (lv_at hl 6 rfl) ?_
              refine lv_aload_n hx hb dL_step_289 rfl (lv_at hl 7 rfl) ?_
              refine lv_aload_n hx hb dL_step_290 rfl (lv_at hl 8 rfl) ?_
              refine lv_aload hx hb dL_step_291 (lv_at hl 11 rfl) ?_
              obtain ⟨g199, g200, h201⟩ := h198
              obtain ⟨b202, h203⟩ := h201
              obtain ⟨b204, h205⟩ := h203
              refine zs_vv (As := [.ref n_a0, .ref l_a0, .ref d_a0, .ref t_a0]) (rest := []) (L := [[(f_a0, eI G 60 x0_29)], [(n_a0, eI G 64 (uZ n_x ((t_x 10) - 1) (t_x 4)))], [(l_a0, eI G 64 (uZ l_x x7_1 ((l_x x7_1) - 1)))], [(d_a0, eI G 64 (uZ d_x ((t_x 10) - 1) 0))], [(k_a0, eI G 60 k_x)], [(c_a0, eI G 60 (uZ (uZ c_x (x0_29 ((sumI l_x ((t_x 10)).toNat) - 2)) ((c_x (x0_29 ((sumI l_x ((t_x 10)).toNat) - 2))) + (c_x (f_x (sumI l_x (x7_1).toNat))))) (f_x (sumI l_x (x7_1).toNat)) 0))], [(t_a0, eI G 12 (uZ (uZ (uZ t_x 7 ((t_x 7) + 1)) 4 ((t_x 4) + 1)) 5 0))]]) (LC := [[(n_a0, eI G 64 (uZ n_x ((t_x 10) - 1) (t_x 4)))], [(l_a0, eI G 64 (uZ l_x x7_1 ((l_x x7_1) - 1)))], [(d_a0, eI G 64 (uZ d_x ((t_x 10) - 1) 0))], [(t_a0, eI G 12 (uZ (uZ (uZ t_x 7 ((t_x 7) + 1)) 4 ((t_x 4) + 1)) 5 0))]]) (LR := [[(f_a0, eI G 60 x0_29)], [(k_a0, eI G 60 k_x)], [(c_a0, eI G 60 (uZ (uZ c_x (x0_29 ((sumI l_x ((t_x 10)).toNat) - 2)) ((c_x (x0_29 ((sumI l_x ((t_x 10)).toNat) - 2))) + (c_x (f_x (sumI l_x (x7_1).toNat))))) (f_x (sumI l_x (x7_1).toNat)) 0))]]) (LC1 := fun (u_210 : (Int → Int) × (Int → Int) × (Int → Int) × (Int → Int)) => [[(n_a0, eI G 64 u_210.1)], [(l_a0, eI G 64 u_210.2.1)], [(d_a0, eI G 64 u_210.2.2.1)], [(t_a0, eI G 12 u_210.2.2.2)]]) (L2 := fun (u_210 : (Int → Int) × (Int → Int) × (Int → Int) × (Int → Int)) => [[(f_a0, eI G 60 x0_29)], [(n_a0, eI G 64 u_210.1)], [(l_a0, eI G 64 u_210.2.1)], [(d_a0, eI G 64 u_210.2.2.1)], [(k_a0, eI G 60 k_x)], [(c_a0, eI G 60 (uZ (uZ c_x (x0_29 ((sumI l_x ((t_x 10)).toNat) - 2)) ((c_x (x0_29 ((sumI l_x ((t_x 10)).toNat) - 2))) + (c_x (f_x (sumI l_x (x7_1).toNat))))) (f_x (sumI l_x (x7_1).toNat)) 0))], [(t_a0, eI G 12 u_210.2.2.2)]]) (c_L_clean l G n_a0 l_a0 d_a0 t_a0 (uZ n_x ((t_x 10) - 1) (t_x 4)) (uZ l_x x7_1 ((l_x x7_1) - 1)) (uZ d_x ((t_x 10) - 1) 0) (uZ (uZ (uZ t_x 7 ((t_x 7) + 1)) 4 ((t_x 4) + 1)) 5 0) g199 g200 (rgA_u (i := (t_x 10) - 1) r_n_x (r_t_x 4)) (rgA_u (i := x7_1) r_l_x r45) (rgA_u (i := (t_x 10) - 1) r_d_x rg_0) (rgA_u (i := 5) (rgA_u (i := 4) (rgA_u (i := 7) r_t_x r183) r197) rg_0) b202 b204) ⟨hx, hb, hml, hown, hts⟩ (va_cwS 4 hts gL_step_L_clean rfl rfl rfl hdL_clean ⟨Nat.le_of_ble_eq_true rfl, Nat.le_of_ble_eq_true rfl⟩) hK hP hD hS hA [1, 2, 3, 6] [0, 4, 5] [4, 0, 1, 2, 5, 6, 3] rfl rfl 7 rfl (by decide) (fun _ => rfl) (fun _ => rfl) (by decide) rfl hl.1 rfl (Nat.le_of_ble_eq_true rfl) dL_step_293 ⟨Nat.zero_le _, Nat.zero_le _⟩ (fun u_210 H locs hw hP hD hS => ?_)
              obtain ⟨u_n_x206, u_l_x207, u_d_x208, u_t_x209⟩ := u_210
              obtain ⟨ru_n_x206, ru_l_x207, ru_d_x208, ru_t_x209, h212⟩ := hw
              have h213 := h205 u_n_x206 u_l_x207 u_d_x208 u_t_x209 ru_n_x206 ru_l_x207 ru_d_x208 ru_t_x209 h212
              have hP : va_P G.1 vwCl (flt [[(f_a0, eI G 60 x0_29)], [(n_a0, eI G 64 u_n_x206)], [(l_a0, eI G 64 u_l_x207)], [(d_a0, eI G 64 u_d_x208)], [(k_a0, eI G 60 k_x)], [(c_a0, eI G 60 (uZ (uZ c_x (x0_29 ((sumI l_x ((t_x 10)).toNat) - 2)) ((c_x (x0_29 ((sumI l_x ((t_x 10)).toNat) - 2))) + (c_x (f_x (sumI l_x (x7_1).toNat))))) (f_x (sumI l_x (x7_1).toNat)) 0))], [(t_a0, eI G 12 u_t_x209)]]) H := hP
              have hD : va_D A (flt [[(f_a0, eI G 60 x0_29)], [(n_a0, eI G 64 u_n_x206)], [(l_a0, eI G 64 u_l_x207)], [(d_a0, eI G 64 u_d_x208)], [(k_a0, eI G 60 k_x)], [(c_a0, eI G 60 (uZ (uZ c_x (x0_29 ((sumI l_x ((t_x 10)).toNat) - 2)) ((c_x (x0_29 ((sumI l_x ((t_x 10)).toNat) - 2))) + (c_x (f_x (sumI l_x (x7_1).toNat))))) (f_x (sumI l_x (x7_1).toNat)) 0))], [(t_a0, eI G 12 u_t_x209)]]) := hD
              exact zr_vret hx hb hr hlocks hK ((x0_29, u_n_x206, u_l_x207, u_d_x208, uZ (uZ c_x (x0_29 ((sumI l_x ((t_x 10)).toNat) - 2)) ((c_x (x0_29 ((sumI l_x ((t_x 10)).toNat) - 2))) + (c_x (f_x (sumI l_x (x7_1).toNat))))) (f_x (sumI l_x (x7_1).toNat)) 0, u_t_x209)) hP hD hS dL_step_296 ⟨rx0_29, ru_n_x206, ru_l_x207, ru_d_x208, (rgA_u (i := f_x (sumI l_x (x7_1).toNat)) (rgA_u (i := x0_29 ((sumI l_x ((t_x 10)).toNat) - 2)) r_c_x r181) rg_0), ru_t_x209, h213⟩
    · have h214 := h38.1 c39
      refine lv_aload_n hx hb dL_step_113 rfl (lv_at hl 4 rfl) ?_
      refine lv_iload hx hb dL_step_114 (lv_at hl 0 rfl) ?_
      refine lv_aload_n hx hb dL_step_116 rfl (lv_at hl 4 rfl) ?_
      refine lv_iload hx hb dL_step_117 (lv_at hl 0 rfl) ?_
      refine lv_iconst (v := iI 1) hx hb dL_step_119 rfl ?_
      refine zr_iadd (x := x11_29) (y := 1) hx hb dL_step_120 ?_
      obtain ⟨r215, h216⟩ := h214
      obtain ⟨b217, h218⟩ := h216
      refine zr_iald (n := 60) (f := x0_29) (i := x11_29 + 1) hx hb hK hP 0 rfl r215 b217 dL_step_121 ?_
      obtain ⟨b219, h220⟩ := h218
      refine zr_iast (n := 60) (f := x0_29) (i := x11_29) (x := x0_29 (x11_29 + 1)) hx hb hK hP hD hS 0 rfl rx11_29 b219 dL_step_122 (fun H locs hP hD hS => ?_)
      have hP : va_P G.1 vwCl (flt [[(f_a0, eI G 60 (uZ x0_29 x11_29 (x0_29 (x11_29 + 1))))], [(n_a0, eI G 64 n_x)], [(l_a0, eI G 64 l_x)], [(d_a0, eI G 64 d_x)], [(k_a0, eI G 60 k_x)], [(c_a0, eI G 60 c_x)], [(t_a0, eI G 12 t_x)]]) H := hP
      have hD : va_D A (flt [[(f_a0, eI G 60 (uZ x0_29 x11_29 (x0_29 (x11_29 + 1))))], [(n_a0, eI G 64 n_x)], [(l_a0, eI G 64 l_x)], [(d_a0, eI G 64 d_x)], [(k_a0, eI G 60 k_x)], [(c_a0, eI G 60 c_x)], [(t_a0, eI G 12 t_x)]]) := hD
      refine zr_iinc (x := x11_29) (lv' := [(11, .int (iI (x11_29 + 1))), (10, .int (iI (f_x (sumI l_x (x7_1).toNat)))), (8, .int (iI (sumI l_x ((t_x 10)).toNat))), (7, .int (iI x7_1)), (0, .ref f_a0), (1, .ref n_a0), (2, .ref l_a0), (3, .ref d_a0), (4, .ref k_a0), (5, .ref c_a0), (6, .ref t_a0)]) hx hb dL_step_123 hl (k := 0) rfl (by decide) rfl (fun ls hl => ?_)
      refine lv_goto (tgt := 104) hx hb dL_step_126 (by decide) ?_
      obtain ⟨h221, h222⟩ := h220
      exact ih34 ((x11_29 + 1, uZ x0_29 x11_29 (x0_29 (x11_29 + 1)))) _ _ _ ⟨⟨r215, (rgA_u (i := x11_29) rx0_29 (rx0_29 (x11_29 + 1)))⟩, h221⟩ h222 hP hD hS (lv_sub hl [0, 1, 2, 3, 4, 5, 6, 7, 8, 9, 10] rfl)
  · have h223 := h8.1 c9
    refine lv_aload_n hx hb dL_step_16 rfl (lv_at hl 5 rfl) ?_
    refine lv_iload hx hb dL_step_17 (lv_at hl 0 rfl) ?_
    obtain ⟨b224, h225⟩ := h223
    refine zr_iald (n := 64) (f := d_x) (i := x8_1) hx hb hK hP 3 rfl rx8_1 b224 dL_step_19 ?_
    refine lv_iconst (v := iI 1) hx hb dL_step_20 rfl ?_
    refine zr_icmp_ne (tgt := 65) (x := d_x x8_1) (y := 1) hx hb (r_d_x x8_1) rg_1 dL_step_21 (by decide) (fun c226 => ?_) (fun c226 => ?_)
    · have h229 := h225.2 c226
      refine lv_iload hx hb dL_step_65 (lv_at hl 1 rfl) ?_
      refine lv_istore (lv' := [(7, .int (iI x7_1)), (8, .int (iI x8_1)), (0, .ref f_a0), (1, .ref n_a0), (2, .ref l_a0), (3, .ref d_a0), (4, .ref k_a0), (5, .ref c_a0), (6, .ref t_a0)]) hx hb dL_step_67 hl (by decide) rfl (fun ls hl => ?_)
      obtain ⟨r230, h231⟩ := h229
      refine zr_iinc (x := x8_1) (lv' := [(8, .int (iI (x8_1 + 1))), (7, .int (iI x7_1)), (0, .ref f_a0), (1, .ref n_a0), (2, .ref l_a0), (3, .ref d_a0), (4, .ref k_a0), (5, .ref c_a0), (6, .ref t_a0)]) hx hb dL_step_69 hl (k := 1) rfl (by decide) rfl (fun ls hl => ?_)
      refine lv_goto (tgt := 6) hx hb dL_step_72 (by decide) ?_
      obtain ⟨h232, h233⟩ := h231
      exact ih6 ((x7_1, x8_1 + 1)) _ _ _ ⟨⟨rx7_1, r230⟩, h232⟩ h233 hP hD hS (lv_sub hl [0, 1, 2, 3, 4, 5, 6, 7, 8] rfl)
    · have h234 := h225.1 c226
      refine lv_aload_n hx hb dL_step_24 rfl (lv_at hl 4 rfl) ?_
      refine lv_iload hx hb dL_step_25 (lv_at hl 0 rfl) ?_
      refine zr_iald (n := 64) (f := l_x) (i := x8_1) hx hb hK hP 2 rfl rx8_1 b224 dL_step_27 ?_
      refine zr_if_le (tgt := 65) (x := l_x x8_1) hx hb (r_l_x x8_1) dL_step_28 (by decide) (fun c235 => ?_) (fun c235 => ?_)
      · have h238 := h234.2 c235
        refine lv_iload hx hb dL_step_65 (lv_at hl 1 rfl) ?_
        refine lv_istore (lv' := [(7, .int (iI x7_1)), (8, .int (iI x8_1)), (0, .ref f_a0), (1, .ref n_a0), (2, .ref l_a0), (3, .ref d_a0), (4, .ref k_a0), (5, .ref c_a0), (6, .ref t_a0)]) hx hb dL_step_67 hl (by decide) rfl (fun ls hl => ?_)
        obtain ⟨r239, h240⟩ := h238
        refine zr_iinc (x := x8_1) (lv' := [(8, .int (iI (x8_1 + 1))), (7, .int (iI x7_1)), (0, .ref f_a0), (1, .ref n_a0), (2, .ref l_a0), (3, .ref d_a0), (4, .ref k_a0), (5, .ref c_a0), (6, .ref t_a0)]) hx hb dL_step_69 hl (k := 1) rfl (by decide) rfl (fun ls hl => ?_)
        refine lv_goto (tgt := 6) hx hb dL_step_72 (by decide) ?_
        obtain ⟨h241, h242⟩ := h240
        exact ih6 ((x7_1, x8_1 + 1)) _ _ _ ⟨⟨rx7_1, r239⟩, h241⟩ h242 hP hD hS (lv_sub hl [0, 1, 2, 3, 4, 5, 6, 7, 8] rfl)
      · have h243 := h234.1 c235
        refine lv_iload hx hb dL_step_31 (lv_at hl 1 rfl) ?_
        refine zr_if_lt (tgt := 60) (x := x7_1) hx hb rx7_1 dL_step_33 (by decide) (fun c244 => ?_) (fun c244 => ?_)
        · have h247 := h243.1 c244
          refine lv_iload hx hb dL_step_60 (lv_at hl 0 rfl) ?_
          refine lv_goto (tgt := 67) hx hb dL_step_62 (by decide) ?_
          refine lv_istore (lv' := [(7, .int (iI x8_1)), (8, .int (iI x8_1)), (0, .ref f_a0), (1, .ref n_a0), (2, .ref l_a0), (3, .ref d_a0), (4, .ref k_a0), (5, .ref c_a0), (6, .ref t_a0)]) hx hb dL_step_67 hl (by decide) rfl (fun ls hl => ?_)
          obtain ⟨r248, h249⟩ := h247
          refine zr_iinc (x := x8_1) (lv' := [(8, .int (iI (x8_1 + 1))), (7, .int (iI x8_1)), (0, .ref f_a0), (1, .ref n_a0), (2, .ref l_a0), (3, .ref d_a0), (4, .ref k_a0), (5, .ref c_a0), (6, .ref t_a0)]) hx hb dL_step_69 hl (k := 1) rfl (by decide) rfl (fun ls hl => ?_)
          refine lv_goto (tgt := 6) hx hb dL_step_72 (by decide) ?_
          obtain ⟨h250, h251⟩ := h249
          exact ih6 ((x8_1, x8_1 + 1)) _ _ _ ⟨⟨rx8_1, r248⟩, h250⟩ h251 hP hD hS (lv_sub hl [0, 1, 2, 3, 4, 5, 6, 7, 8] rfl)
        · have h252 := h243.2 c244
          refine lv_aload hx hb dL_step_36 (lv_at hl 6 rfl) ?_
          refine lv_aload_n hx hb dL_step_38 rfl (lv_at hl 2 rfl) ?_
          refine lv_aload_n hx hb dL_step_39 rfl (lv_at hl 4 rfl) ?_
          refine lv_iload hx hb dL_step_40 (lv_at hl 0 rfl) ?_
          obtain ⟨b253, h254⟩ := h252
          obtain ⟨b255, h256⟩ := h254
          refine zs_viR (As := [.ref l_a0, .int (iI x8_1)]) (rest := [.ref f_a0, .ref k_a0]) (c_L_start l G l_a0 l_x x8_1 r_l_x rx8_1 b253 b255) ⟨hx, hb, hml, hown, hts⟩ (va_cwS 2 hts gL_step_L_start rfl rfl rfl hdL_start ⟨Nat.le_of_ble_eq_true rfl, Nat.le_of_ble_eq_true rfl⟩) hK hP hD hS hA [2] rfl rfl rfl hl.1 rfl (Nat.le_of_ble_eq_true rfl) dL_step_42 ⟨Nat.zero_le _, Nat.zero_le _⟩ (fun z258 H locs hw hP hD hS => ?_)
          obtain ⟨rfl, r259⟩ := hw
          have hP : va_P G.1 vwCl (flt [[(f_a0, eI G 60 f_x)], [(n_a0, eI G 64 n_x)], [(l_a0, eI G 64 l_x)], [(d_a0, eI G 64 d_x)], [(k_a0, eI G 60 k_x)], [(c_a0, eI G 60 c_x)], [(t_a0, eI G 12 t_x)]]) H := hP
          have hD : va_D A (flt [[(f_a0, eI G 60 f_x)], [(n_a0, eI G 64 n_x)], [(l_a0, eI G 64 l_x)], [(d_a0, eI G 64 d_x)], [(k_a0, eI G 60 k_x)], [(c_a0, eI G 60 c_x)], [(t_a0, eI G 12 t_x)]]) := hD
          obtain ⟨b260, h261⟩ := h256
          refine zr_iald (n := 60) (f := f_x) (i := sumI l_x (x8_1).toNat) hx hb hK hP 0 rfl r259 b260 dL_step_45 ?_
          refine lv_aload_n hx hb dL_step_46 rfl (lv_at hl 2 rfl) ?_
          refine lv_aload_n hx hb dL_step_47 rfl (lv_at hl 4 rfl) ?_
          refine lv_iload hx hb dL_step_48 (lv_at hl 1 rfl) ?_
          obtain ⟨b262, h263⟩ := h261
          obtain ⟨b264, h265⟩ := h263
          refine zs_viR (As := [.ref l_a0, .int (iI x7_1)]) (rest := [.ref f_a0, .int (iI (f_x (sumI l_x (x8_1).toNat))), .ref k_a0]) (c_L_start l G l_a0 l_x x7_1 r_l_x rx7_1 b262 b264) ⟨hx, hb, hml, hown, hts⟩ (va_cwS 2 hts gL_step_L_start rfl rfl rfl hdL_start ⟨Nat.le_of_ble_eq_true rfl, Nat.le_of_ble_eq_true rfl⟩) hK hP hD hS hA [2] rfl rfl rfl hl.1 rfl (Nat.le_of_ble_eq_true rfl) dL_step_50 ⟨Nat.zero_le _, Nat.zero_le _⟩ (fun z267 H locs hw hP hD hS => ?_)
          obtain ⟨rfl, r268⟩ := hw
          have hP : va_P G.1 vwCl (flt [[(f_a0, eI G 60 f_x)], [(n_a0, eI G 64 n_x)], [(l_a0, eI G 64 l_x)], [(d_a0, eI G 64 d_x)], [(k_a0, eI G 60 k_x)], [(c_a0, eI G 60 c_x)], [(t_a0, eI G 12 t_x)]]) H := hP
          have hD : va_D A (flt [[(f_a0, eI G 60 f_x)], [(n_a0, eI G 64 n_x)], [(l_a0, eI G 64 l_x)], [(d_a0, eI G 64 d_x)], [(k_a0, eI G 60 k_x)], [(c_a0, eI G 60 c_x)], [(t_a0, eI G 12 t_x)]]) := hD
          obtain ⟨b269, h270⟩ := h265
          refine zr_iald (n := 60) (f := f_x) (i := sumI l_x (x7_1).toNat) hx hb hK hP 0 rfl r268 b269 dL_step_53 ?_
          obtain ⟨b271, h272⟩ := h270
          obtain ⟨b273, h274⟩ := h272
          refine zs_viR (As := [.ref k_a0, .int (iI (f_x (sumI l_x (x8_1).toNat))), .int (iI (f_x (sumI l_x (x7_1).toNat)))]) (rest := []) (c_L_comes l G k_a0 k_x (f_x (sumI l_x (x8_1).toNat)) (f_x (sumI l_x (x7_1).toNat)) r_k_x (r_f_x (sumI l_x (x8_1).toNat)) (r_f_x (sumI l_x (x7_1).toNat)) b271 b273) ⟨hx, hb, hml, hown, hts⟩ (va_cwS 3 hts gL_step_L_comes rfl rfl rfl hdL_comes ⟨Nat.le_of_ble_eq_true rfl, Nat.le_of_ble_eq_true rfl⟩) hK hP hD hS hA [4] rfl rfl rfl hl.1 rfl (Nat.le_of_ble_eq_true rfl) dL_step_54 ⟨Nat.zero_le _, Nat.zero_le _⟩ (fun z276 H locs hw hP hD hS => ?_)
          obtain ⟨rfl, r277⟩ := hw
          have hP : va_P G.1 vwCl (flt [[(f_a0, eI G 60 f_x)], [(n_a0, eI G 64 n_x)], [(l_a0, eI G 64 l_x)], [(d_a0, eI G 64 d_x)], [(k_a0, eI G 60 k_x)], [(c_a0, eI G 60 c_x)], [(t_a0, eI G 12 t_x)]]) H := hP
          have hD : va_D A (flt [[(f_a0, eI G 60 f_x)], [(n_a0, eI G 64 n_x)], [(l_a0, eI G 64 l_x)], [(d_a0, eI G 64 d_x)], [(k_a0, eI G 60 k_x)], [(c_a0, eI G 60 c_x)], [(t_a0, eI G 12 t_x)]]) := hD
          refine zr_ifB_eq (tgt := 65)  hx hb dL_step_57 (by decide) (fun c278 => ?_) (fun c278 => ?_)
          · have h281 := h274.2 c278
            refine lv_iload hx hb dL_step_65 (lv_at hl 1 rfl) ?_
            refine lv_istore (lv' := [(7, .int (iI x7_1)), (8, .int (iI x8_1)), (0, .ref f_a0), (1, .ref n_a0), (2, .ref l_a0), (3, .ref d_a0), (4, .ref k_a0), (5, .ref c_a0), (6, .ref t_a0)]) hx hb dL_step_67 hl (by decide) rfl (fun ls hl => ?_)
            obtain ⟨r282, h283⟩ := h281
            refine zr_iinc (x := x8_1) (lv' := [(8, .int (iI (x8_1 + 1))), (7, .int (iI x7_1)), (0, .ref f_a0), (1, .ref n_a0), (2, .ref l_a0), (3, .ref d_a0), (4, .ref k_a0), (5, .ref c_a0), (6, .ref t_a0)]) hx hb dL_step_69 hl (k := 1) rfl (by decide) rfl (fun ls hl => ?_)
            refine lv_goto (tgt := 6) hx hb dL_step_72 (by decide) ?_
            obtain ⟨h284, h285⟩ := h283
            exact ih6 ((x7_1, x8_1 + 1)) _ _ _ ⟨⟨rx7_1, r282⟩, h284⟩ h285 hP hD hS (lv_sub hl [0, 1, 2, 3, 4, 5, 6, 7, 8] rfl)
          · have h286 := h274.1 c278
            refine lv_iload hx hb dL_step_60 (lv_at hl 0 rfl) ?_
            refine lv_goto (tgt := 67) hx hb dL_step_62 (by decide) ?_
            refine lv_istore (lv' := [(7, .int (iI x8_1)), (8, .int (iI x8_1)), (0, .ref f_a0), (1, .ref n_a0), (2, .ref l_a0), (3, .ref d_a0), (4, .ref k_a0), (5, .ref c_a0), (6, .ref t_a0)]) hx hb dL_step_67 hl (by decide) rfl (fun ls hl => ?_)
            obtain ⟨r287, h288⟩ := h286
            refine zr_iinc (x := x8_1) (lv' := [(8, .int (iI (x8_1 + 1))), (7, .int (iI x8_1)), (0, .ref f_a0), (1, .ref n_a0), (2, .ref l_a0), (3, .ref d_a0), (4, .ref k_a0), (5, .ref c_a0), (6, .ref t_a0)]) hx hb dL_step_69 hl (k := 1) rfl (by decide) rfl (fun ls hl => ?_)
            refine lv_goto (tgt := 6) hx hb dL_step_72 (by decide) ?_
            obtain ⟨h289, h290⟩ := h288
            exact ih6 ((x8_1, x8_1 + 1)) _ _ _ ⟨⟨rx8_1, r287⟩, h289⟩ h290 hP hD hS (lv_sub hl [0, 1, 2, 3, 4, 5, 6, 7, 8] rfl)
theorem c_L_step (l : Launch) (G : ZG) (f_a0 : Nat) (n_a0 : Nat) (l_a0 : Nat) (d_a0 : Nat) (k_a0 : Nat) (c_a0 : Nat) (t_a0 : Nat) (f_x : Int → Int) (n_x : Int → Int) (l_x : Int → Int) (d_x : Int → Int) (k_x : Int → Int) (c_x : Int → Int) (t_x : Int → Int)  (mg : Int → Int) (z : Int → Int) (r_f_x : rgA f_x) (r_n_x : rgA n_x) (r_l_x : rgA l_x) (r_d_x : rgA d_x) (r_k_x : rgA k_x) (r_c_x : rgA c_x) (r_t_x : rgA t_x)  (p0 : LV f_x n_x l_x d_x mg k_x t_x z) (p1 : LC c_x z) (p2 : Vz z) (p3 : z 5 = 1 ∧ z 4 + 1 ≤ 900000000 ∧ z 7 + 2 ≤ 2000000000) : ZV l G yL_step wsL_step 1 26 [.ref f_a0, .ref n_a0, .ref l_a0, .ref d_a0, .ref k_a0, .ref c_a0, .ref t_a0] (flt [[(f_a0, eI G 60 f_x)], [(n_a0, eI G 64 n_x)], [(l_a0, eI G 64 l_x)], [(d_a0, eI G 64 d_x)], [(k_a0, eI G 60 k_x)], [(c_a0, eI G 60 c_x)], [(t_a0, eI G 12 t_x)]]) (fun u : (Int → Int) × (Int → Int) × (Int → Int) × (Int → Int) × (Int → Int) × (Int → Int) => flt [[(f_a0, eI G 60 u.1)], [(n_a0, eI G 64 u.2.1)], [(l_a0, eI G 64 u.2.2.1)], [(d_a0, eI G 64 u.2.2.2.1)], [(k_a0, eI G 60 k_x)], [(c_a0, eI G 60 u.2.2.2.2.1)], [(t_a0, eI G 12 u.2.2.2.2.2)]]) (fun (u : (Int → Int) × (Int → Int) × (Int → Int) × (Int → Int) × (Int → Int) × (Int → Int)) => rgA u.1 ∧ rgA u.2.1 ∧ rgA u.2.2.1 ∧ rgA u.2.2.2.1 ∧ rgA u.2.2.2.2.1 ∧ rgA u.2.2.2.2.2 ∧ (LV u.1 u.2.1 u.2.2.1 u.2.2.2.1 mg k_x u.2.2.2.2.2 (stpZ z) ∧ LC u.2.2.2.2.1 (stpZ z))) :=
  c0_L_step l G f_a0 n_a0 l_a0 d_a0 k_a0 c_a0 t_a0 f_x n_x l_x d_x k_x c_x t_x (fun f_x' n_x' l_x' d_x' c_x' t_x' => LV f_x' n_x' l_x' d_x' mg k_x t_x' (stpZ z) ∧ LC c_x' (stpZ z)) r_f_x r_n_x r_l_x r_d_x r_k_x r_c_x r_t_x  (sp_L_step f_x n_x l_x d_x k_x c_x t_x mg z r_f_x r_n_x r_l_x r_d_x r_k_x r_c_x r_t_x  p0 p1 p2 p3)
