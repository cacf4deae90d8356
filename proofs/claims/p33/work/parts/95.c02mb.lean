theorem hdL_clean : yL_clean.cls ≠ "java/lang/invoke/MethodHandle" ∧ yL_clean.cls ≠ "java/lang/invoke/VarHandle" ∧ (parseMethodDescriptor yL_clean.desc).map (fun d => d.parameters.length) = some 4 := by decide +kernel
set_option maxRecDepth 100000 in
set_option maxHeartbeats 4000000 in
theorem c0_L_clean (l : Launch) (G : ZG) (n_a0 : Nat) (l_a0 : Nat) (d_a0 : Nat) (t_a0 : Nat) (n_x : Int → Int) (l_x : Int → Int) (d_x : Int → Int) (t_x : Int → Int)  (P : (Int → Int) → (Int → Int) → (Int → Int) → (Int → Int) → Prop) (r_n_x : rgA n_x) (r_l_x : rgA l_x) (r_d_x : rgA d_x) (r_t_x : rgA t_x)  (hwp : wp_L_clean n_x l_x d_x t_x P) : ZV l G yL_clean wsL_clean 0 0 [.ref n_a0, .ref l_a0, .ref d_a0, .ref t_a0] (flt [[(n_a0, eI G 64 n_x)], [(l_a0, eI G 64 l_x)], [(d_a0, eI G 64 d_x)], [(t_a0, eI G 12 t_x)]]) (fun u : (Int → Int) × (Int → Int) × (Int → Int) × (Int → Int) => flt [[(n_a0, eI G 64 u.1)], [(l_a0, eI G 64 u.2.1)], [(d_a0, eI G 64 u.2.2.1)], [(t_a0, eI G 12 u.2.2.2)]]) (fun (u : (Int → Int) × (Int → Int) × (Int → Int) × (Int → Int)) => rgA u.1 ∧ rgA u.2.1 ∧ rgA u.2.2.1 ∧ rgA u.2.2.2 ∧ P u.1 u.2.1 u.2.2.1 u.2.2.2) := by
  unfold wp_L_clean at hwp
  refine zm_v (cc := cL_clean) (maxL := 6) (ret := none) (own := RL) (lvs := [(0, .ref n_a0), (1, .ref l_a0), (2, .ref d_a0), (3, .ref t_a0)]) (by decide) rfl rfl (Nat.le_of_ble_eq_true rfl) rfl ?_
  intro p e sT m args below meth c ls A hx hb hr hml hown hts hlocks hK hP hD hS hA hl
  refine lv_iconst (v := iI 0) hx hb dL_clean_0 rfl ?_
  refine lv_istore (lv' := [(4, .int (iI 0)), (0, .ref n_a0), (1, .ref l_a0), (2, .ref d_a0), (3, .ref t_a0)]) hx hb dL_clean_1 hl (by decide) rfl (fun ls hl => ?_)
  refine lv_iconst (v := iI 0) hx hb dL_clean_3 rfl ?_
  refine lv_istore (lv' := [(5, .int (iI 0)), (4, .int (iI 0)), (0, .ref n_a0), (1, .ref l_a0), (2, .ref d_a0), (3, .ref t_a0)]) hx hb dL_clean_4 hl (by decide) rfl (fun ls hl => ?_)
  obtain ⟨I2, μ3, h4, h5⟩ := hwp
  refine zr_loop (G := G) (σ := Int × Int × (Int → Int) × (Int → Int) × (Int → Int)) (fun x_1 => (rg x_1.1 ∧ rg x_1.2.1 ∧ rgA x_1.2.2.1 ∧ rgA x_1.2.2.2.1 ∧ rgA x_1.2.2.2.2) ∧ I2 x_1.1 x_1.2.1 x_1.2.2.1 x_1.2.2.2.1 x_1.2.2.2.2) (fun x_1 => μ3 x_1.1 x_1.2.1 x_1.2.2.1 x_1.2.2.2.1 x_1.2.2.2.2) (fun x_1 => flt [[(n_a0, eI G 64 x_1.2.2.1)], [(l_a0, eI G 64 x_1.2.2.2.1)], [(d_a0, eI G 64 x_1.2.2.2.2)], [(t_a0, eI G 12 t_x)]]) (fun x_1 => [(5, .int (iI x_1.2.1)), (4, .int (iI x_1.1)), (0, .ref n_a0), (1, .ref l_a0), (2, .ref d_a0), (3, .ref t_a0)]) ((0, 0, n_x, l_x, d_x)) ⟨⟨rg_0, rg_0, r_n_x, r_l_x, r_d_x⟩, h4⟩ hP hD hS (lv_sub hl [0, 1, 2, 3, 4, 5] rfl) ?_
  clear hP hD hS hl
  intro x_1 H locs ls ih6 h7 hP hD hS hl
  obtain ⟨x4_1, x5_1, x0_1, x1_1, x2_1⟩ := x_1
  obtain ⟨⟨rx4_1, rx5_1, rx0_1, rx1_1, rx2_1⟩, h7⟩ := h7
  have h8 := h5 x4_1 x5_1 x0_1 x1_1 x2_1 rx4_1 rx5_1 rx0_1 rx1_1 rx2_1 h7
  have hP : va_P G.1 vwCl (flt [[(n_a0, eI G 64 x0_1)], [(l_a0, eI G 64 x1_1)], [(d_a0, eI G 64 x2_1)], [(t_a0, eI G 12 t_x)]]) H := hP
  have hD : va_D A (flt [[(n_a0, eI G 64 x0_1)], [(l_a0, eI G 64 x1_1)], [(d_a0, eI G 64 x2_1)], [(t_a0, eI G 12 t_x)]]) := hD
  have hl : lv_has ls 6 [(5, .int (iI x5_1)), (4, .int (iI x4_1)), (0, .ref n_a0), (1, .ref l_a0), (2, .ref d_a0), (3, .ref t_a0)] := hl
  refine lv_iload hx hb dL_clean_6 (lv_at hl 0 rfl) ?_
  refine lv_aload_n hx hb dL_clean_8 rfl (lv_at hl 5 rfl) ?_
  refine lv_bipush (v := iI 10) hx hb dL_clean_9 (by decide) ?_
  refine zr_iald (n := 12) (f := t_x) (i := 10) hx hb hK hP 3 rfl rg_10 ⟨by decide, by decide⟩ dL_clean_11 ?_
  refine zr_icmp_ge (tgt := 55) (x := x5_1) (y := t_x 10) hx hb rx5_1 (r_t_x 10) dL_clean_12 (by decide) (fun c9 => ?_) (fun c9 => ?_)
  · have h12 := h8.2 c9
    refine lv_aload_n hx hb dL_clean_55 rfl (lv_at hl 5 rfl) ?_
    refine lv_bipush (v := iI 10) hx hb dL_clean_56 (by decide) ?_
    refine lv_iload hx hb dL_clean_58 (lv_at hl 1 rfl) ?_
    refine zr_iast (n := 12) (f := t_x) (i := 10) (x := x4_1) hx hb hK hP hD hS 3 rfl rg_10 ⟨by decide, by decide⟩ dL_clean_60 (fun H locs hP hD hS => ?_)
    have hP : va_P G.1 vwCl (flt [[(n_a0, eI G 64 x0_1)], [(l_a0, eI G 64 x1_1)], [(d_a0, eI G 64 x2_1)], [(t_a0, eI G 12 (uZ t_x 10 x4_1))]]) H := hP
    have hD : va_D A (flt [[(n_a0, eI G 64 x0_1)], [(l_a0, eI G 64 x1_1)], [(d_a0, eI G 64 x2_1)], [(t_a0, eI G 12 (uZ t_x 10 x4_1))]]) := hD
    exact zr_vret hx hb hr hlocks hK ((x0_1, x1_1, x2_1, uZ t_x 10 x4_1)) hP hD hS dL_clean_61 ⟨rx0_1, rx1_1, rx2_1, (rgA_u (i := 10) r_t_x rx4_1), h12⟩
  · have h13 := h8.1 c9
    refine lv_aload_n hx hb dL_clean_15 rfl (lv_at hl 3 rfl) ?_
    refine lv_iload hx hb dL_clean_16 (lv_at hl 0 rfl) ?_
    obtain ⟨b14, h15⟩ := h13
    refine zr_iald (n := 64) (f := x1_1) (i := x5_1) hx hb hK hP 1 rfl rx5_1 b14 dL_clean_18 ?_
    refine zr_if_le (tgt := 49) (x := x1_1 x5_1) hx hb (rx1_1 x5_1) dL_clean_19 (by decide) (fun c16 => ?_) (fun c16 => ?_)
    · have h19 := h15.2 c16
      obtain ⟨r20, h21⟩ := h19
      refine zr_iinc (x := x5_1) (lv' := [(5, .int (iI (x5_1 + 1))), (4, .int (iI x4_1)), (0, .ref n_a0), (1, .ref l_a0), (2, .ref d_a0), (3, .ref t_a0)]) hx hb dL_clean_49 hl (k := 0) rfl (by decide) rfl (fun ls hl => ?_)
      refine lv_goto (tgt := 6) hx hb dL_clean_52 (by decide) ?_
      obtain ⟨h22, h23⟩ := h21
      exact ih6 ((x4_1, x5_1 + 1, x0_1, x1_1, x2_1)) _ _ _ ⟨⟨rx4_1, r20, rx0_1, rx1_1, rx2_1⟩, h22⟩ h23 hP hD hS (lv_sub hl [0, 1, 2, 3, 4, 5] rfl)
    · have h24 := h15.1 c16
      refine lv_aload_n hx hb dL_clean_22 rfl (lv_at hl 2 rfl) ?_
      refine lv_iload hx hb dL_clean_23 (lv_at hl 1 rfl) ?_
      refine lv_aload_n hx hb dL_clean_25 rfl (lv_at hl 2 rfl) ?_
      refine lv_iload hx hb dL_clean_26 (lv_at hl 0 rfl) ?_
      refine zr_iald (n := 64) (f := x0_1) (i := x5_1) hx hb hK hP 0 rfl rx5_1 b14 dL_clean_28 ?_
      obtain ⟨b25, h26⟩ := h24
      refine zr_iast (n := 64) (f := x0_1) (i := x4_1) (x := x0_1 x5_1) hx hb hK hP hD hS 0 rfl rx4_1 b25 dL_clean_29 (fun H locs hP hD hS => ?_)
      have hP : va_P G.1 vwCl (flt [[(n_a0, eI G 64 (uZ x0_1 x4_1 (x0_1 x5_1)))], [(l_a0, eI G 64 x1_1)], [(d_a0, eI G 64 x2_1)], [(t_a0, eI G 12 t_x)]]) H := hP
      have hD : va_D A (flt [[(n_a0, eI G 64 (uZ x0_1 x4_1 (x0_1 x5_1)))], [(l_a0, eI G 64 x1_1)], [(d_a0, eI G 64 x2_1)], [(t_a0, eI G 12 t_x)]]) := hD
      refine lv_aload_n hx hb dL_clean_30 rfl (lv_at hl 3 rfl) ?_
      refine lv_iload hx hb dL_clean_31 (lv_at hl 1 rfl) ?_
      refine lv_aload_n hx hb dL_clean_33 rfl (lv_at hl 3 rfl) ?_
      refine lv_iload hx hb dL_clean_34 (lv_at hl 0 rfl) ?_
      refine zr_iald (n := 64) (f := x1_1) (i := x5_1) hx hb hK hP 1 rfl rx5_1 b14 dL_clean_36 ?_
      refine zr_iast (n := 64) (f := x1_1) (i := x4_1) (x := x1_1 x5_1) hx hb hK hP hD hS 1 rfl rx4_1 b25 dL_clean_37 (fun H locs hP hD hS => ?_)
      have hP : va_P G.1 vwCl (flt [[(n_a0, eI G 64 (uZ x0_1 x4_1 (x0_1 x5_1)))], [(l_a0, eI G 64 (uZ x1_1 x4_1 (x1_1 x5_1)))], [(d_a0, eI G 64 x2_1)], [(t_a0, eI G 12 t_x)]]) H := hP
      have hD : va_D A (flt [[(n_a0, eI G 64 (uZ x0_1 x4_1 (x0_1 x5_1)))], [(l_a0, eI G 64 (uZ x1_1 x4_1 (x1_1 x5_1)))], [(d_a0, eI G 64 x2_1)], [(t_a0, eI G 12 t_x)]]) := hD
      refine lv_aload_n hx hb dL_clean_38 rfl (lv_at hl 4 rfl) ?_
      refine lv_iload hx hb dL_clean_39 (lv_at hl 1 rfl) ?_
      refine lv_aload_n hx hb dL_clean_41 rfl (lv_at hl 4 rfl) ?_
      refine lv_iload hx hb dL_clean_42 (lv_at hl 0 rfl) ?_
      refine zr_iald (n := 64) (f := x2_1) (i := x5_1) hx hb hK hP 2 rfl rx5_1 b14 dL_clean_44 ?_
      refine zr_iast (n := 64) (f := x2_1) (i := x4_1) (x := x2_1 x5_1) hx hb hK hP hD hS 2 rfl rx4_1 b25 dL_clean_45 (fun H locs hP hD hS => ?_)
      have hP : va_P G.1 vwCl (flt [[(n_a0, eI G 64 (uZ x0_1 x4_1 (x0_1 x5_1)))], [(l_a0, eI G 64 (uZ x1_1 x4_1 (x1_1 x5_1)))], [(d_a0, eI G 64 (uZ x2_1 x4_1 (x2_1 x5_1)))], [(t_a0, eI G 12 t_x)]]) H := hP
      have hD : va_D A (flt [[(n_a0, eI G 64 (uZ x0_1 x4_1 (x0_1 x5_1)))], [(l_a0, eI G 64 (uZ x1_1 x4_1 (x1_1 x5_1)))], [(d_a0, eI G 64 (uZ x2_1 x4_1 (x2_1 x5_1)))], [(t_a0, eI G 12 t_x)]]) := hD
      obtain ⟨r27, h28⟩ := h26
      refine zr_iinc (x := x4_1) (lv' := [(4, .int (iI (x4_1 + 1))), (5, .int (iI x5_1)), (0, .ref n_a0), (1, .ref l_a0), (2, .ref d_a0), (3, .ref t_a0)]) hx hb dL_clean_46 hl (k := 1) rfl (by decide) rfl (fun ls hl => ?_)
      obtain ⟨r29, h30⟩ := h28
      refine zr_iinc (x := x5_1) (lv' := [(5, .int (iI (x5_1 + 1))), (4, .int (iI (x4_1 + 1))), (0, .ref n_a0), (1, .ref l_a0), (2, .ref d_a0), (3, .ref t_a0)]) hx hb dL_clean_49 hl (k := 1) rfl (by decide) rfl (fun ls hl => ?_)
      refine lv_goto (tgt := 6) hx hb dL_clean_52 (by decide) ?_
      obtain ⟨h31, h32⟩ := h30
      exact ih6 ((x4_1 + 1, x5_1 + 1, uZ x0_1 x4_1 (x0_1 x5_1), uZ x1_1 x4_1 (x1_1 x5_1), uZ x2_1 x4_1 (x2_1 x5_1))) _ _ _ ⟨⟨r27, r29, (rgA_u (i := x4_1) rx0_1 (rx0_1 x5_1)), (rgA_u (i := x4_1) rx1_1 (rx1_1 x5_1)), (rgA_u (i := x4_1) rx2_1 (rx2_1 x5_1))⟩, h31⟩ h32 hP hD hS (lv_sub hl [0, 1, 2, 3, 4, 5] rfl)
theorem c_L_clean (l : Launch) (G : ZG) (n_a0 : Nat) (l_a0 : Nat) (d_a0 : Nat) (t_a0 : Nat) (n_x : Int → Int) (l_x : Int → Int) (d_x : Int → Int) (t_x : Int → Int)  (fg : Int → Int) (z : Int → Int) (r_n_x : rgA n_x) (r_l_x : rgA l_x) (r_d_x : rgA d_x) (r_t_x : rgA t_x)  (p0 : LF fg n_x l_x d_x (t_x 10) z) (p1 : 0 ≤ t_x 10 ∧ t_x 10 ≤ 64) : ZV l G yL_clean wsL_clean 0 0 [.ref n_a0, .ref l_a0, .ref d_a0, .ref t_a0] (flt [[(n_a0, eI G 64 n_x)], [(l_a0, eI G 64 l_x)], [(d_a0, eI G 64 d_x)], [(t_a0, eI G 12 t_x)]]) (fun u : (Int → Int) × (Int → Int) × (Int → Int) × (Int → Int) => flt [[(n_a0, eI G 64 u.1)], [(l_a0, eI G 64 u.2.1)], [(d_a0, eI G 64 u.2.2.1)], [(t_a0, eI G 12 u.2.2.2)]]) (fun (u : (Int → Int) × (Int → Int) × (Int → Int) × (Int → Int)) => rgA u.1 ∧ rgA u.2.1 ∧ rgA u.2.2.1 ∧ rgA u.2.2.2 ∧ ((∀ i, i ≠ 10 → u.2.2.2 i = t_x i) ∧ (0 ≤ u.2.2.2 10 ∧ u.2.2.2 10 ≤ t_x 10) ∧ LF fg u.1 u.2.1 u.2.2.1 (u.2.2.2 10) z ∧ (∀ i, 0 ≤ i → i < u.2.2.2 10 → 0 < u.2.1 i ∧ ∃ j, (0 ≤ j ∧ j < t_x 10) ∧ u.2.2.1 i = d_x j ∧ 0 < l_x j))) :=
  c0_L_clean l G n_a0 l_a0 d_a0 t_a0 n_x l_x d_x t_x (fun n_x' l_x' d_x' t_x' => (∀ i, i ≠ 10 → t_x' i = t_x i) ∧ (0 ≤ t_x' 10 ∧ t_x' 10 ≤ t_x 10) ∧ LF fg n_x' l_x' d_x' (t_x' 10) z ∧ (∀ i, 0 ≤ i → i < t_x' 10 → 0 < l_x' i ∧ ∃ j, (0 ≤ j ∧ j < t_x 10) ∧ d_x' i = d_x j ∧ 0 < l_x j)) r_n_x r_l_x r_d_x r_t_x  (sp_L_clean n_x l_x d_x t_x fg z r_n_x r_l_x r_d_x r_t_x  p0 p1)
theorem hdL_begin : yL_begin.cls ≠ "java/lang/invoke/MethodHandle" ∧ yL_begin.cls ≠ "java/lang/invoke/VarHandle" ∧ (parseMethodDescriptor yL_begin.desc).map (fun d => d.parameters.length) = some 4 := by decide +kernel
set_option maxRecDepth 100000 in
set_option maxHeartbeats 4000000 in
theorem c0_L_begin (l : Launch) (G : ZG) (n_a0 : Nat) (l_a0 : Nat) (d_a0 : Nat) (t_a0 : Nat) (n_x : Int → Int) (l_x : Int → Int) (d_x : Int → Int) (t_x : Int → Int)  (P : (Int → Int) → (Int → Int) → (Int → Int) → (Int → Int) → Prop) (r_n_x : rgA n_x) (r_l_x : rgA l_x) (r_d_x : rgA d_x) (r_t_x : rgA t_x)  (hwp : wp_L_begin n_x l_x d_x t_x P) : ZV l G yL_begin wsL_begin 1 26 [.ref n_a0, .ref l_a0, .ref d_a0, .ref t_a0] (flt [[(n_a0, eI G 64 n_x)], [(l_a0, eI G 64 l_x)], [(d_a0, eI G 64 d_x)], [(t_a0, eI G 12 t_x)]]) (fun u : (Int → Int) × (Int → Int) × (Int → Int) × (Int → Int) => flt [[(n_a0, eI G 64 u.1)], [(l_a0, eI G 64 u.2.1)], [(d_a0, eI G 64 u.2.2.1)], [(t_a0, eI G 12 u.2.2.2)]]) (fun (u : (Int → Int) × (Int → Int) × (Int → Int) × (Int → Int)) => rgA u.1 ∧ rgA u.2.1 ∧ rgA u.2.2.1 ∧ rgA u.2.2.2 ∧ P u.1 u.2.1 u.2.2.1 u.2.2.2) := by
  unfold wp_L_begin at hwp
  refine zm_v (cc := cL_begin) (maxL := 9) (ret := none) (own := RL) (lvs := [(0, .ref n_a0), (1, .ref l_a0), (2, .ref d_a0), (3, .ref t_a0)]) (by decide) rfl rfl (Nat.le_of_ble_eq_true rfl) rfl ?_
  intro p e sT m args below meth c ls A hx hb hr hml hown hts hlocks hK hP hD hS hA hl
  refine lv_aload_n hx hb dL_begin_0 rfl (lv_at hl 1 rfl) ?_
  refine lv_aload_n hx hb dL_begin_1 rfl (lv_at hl 2 rfl) ?_
  refine lv_aload_n hx hb dL_begin_2 rfl (lv_at hl 3 rfl) ?_
  refine lv_iconst (v := iI 0) hx hb dL_begin_3 rfl ?_
  refine lv_iconst (v := iI 1) hx hb dL_begin_4 rfl ?_
  obtain ⟨b1, h2⟩ := hwp
  obtain ⟨b3, h4⟩ := h2
  refine zs_viR (As := [.ref l_a0, .ref d_a0, .ref t_a0, .int (iI 0), .int (iI 1)]) (rest := []) (c_L_kinds l G l_a0 d_a0 t_a0 l_x d_x t_x 0 1 r_l_x r_d_x r_t_x rg_0 rg_1 b1 b3) ⟨hx, hb, hml, hown, hts⟩ (va_cwS 5 hts gL_begin_L_kinds rfl rfl rfl hdL_kinds ⟨Nat.le_of_ble_eq_true rfl, Nat.le_of_ble_eq_true rfl⟩) hK hP hD hS hA [1, 2, 3] rfl rfl rfl hl.1 rfl (Nat.le_of_ble_eq_true rfl) dL_begin_5 ⟨Nat.zero_le _, Nat.zero_le _⟩ (fun z6 H locs hw hP hD hS => ?_)
  obtain ⟨rfl, r7⟩ := hw
  have hP : va_P G.1 vwCl (flt [[(n_a0, eI G 64 n_x)], [(l_a0, eI G 64 l_x)], [(d_a0, eI G 64 d_x)], [(t_a0, eI G 12 t_x)]]) H := hP
  have hD : va_D A (flt [[(n_a0, eI G 64 n_x)], [(l_a0, eI G 64 l_x)], [(d_a0, eI G 64 d_x)], [(t_a0, eI G 12 t_x)]]) := hD
  refine lv_istore (lv' := [(4, .int (iI (kdZ l_x d_x (0 : Int) (t_x 10).toNat))), (0, .ref n_a0), (1, .ref l_a0), (2, .ref d_a0), (3, .ref t_a0)]) hx hb dL_begin_8 hl (by decide) rfl (fun ls hl => ?_)
  refine lv_aload_n hx hb dL_begin_10 rfl (lv_at hl 4 rfl) ?_
  refine lv_bipush (v := iI 6) hx hb dL_begin_11 (by decide) ?_
  refine lv_iload hx hb dL_begin_13 (lv_at hl 0 rfl) ?_
  refine lv_aload_n hx hb dL_begin_15 rfl (lv_at hl 4 rfl) ?_
  refine lv_iconst (v := iI 0) hx hb dL_begin_16 rfl ?_
  refine zr_iald (n := 12) (f := t_x) (i := 0) hx hb hK hP 3 rfl rg_0 ⟨by decide, by decide⟩ dL_begin_17 ?_
  obtain ⟨b8, h9⟩ := h4
  refine zc_si (As := [.int (iI (t_x 0))]) (rest := [.int (iI (kdZ l_x d_x (0 : Int) (t_x 10).toNat)), .int (iI 6), .ref t_a0]) (c_L_ways l G (t_x 0) (r_t_x 0) b8) ⟨hx, hb, hml, hown, hts⟩ (va_cwS 1 hts gL_begin_L_ways rfl rfl rfl hdL_ways ⟨Nat.le_of_ble_eq_true rfl, Nat.le_of_ble_eq_true rfl⟩) hK hP hD hS hA rfl hl.1 rfl (Nat.le_of_ble_eq_true rfl) dL_begin_18 ⟨Nat.zero_le _, Nat.zero_le _⟩ (fun z11 H locs hw hP hD hS => ?_)
  obtain ⟨rfl, r12⟩ := hw
  have hP : va_P G.1 vwCl (flt [[(n_a0, eI G 64 n_x)], [(l_a0, eI G 64 l_x)], [(d_a0, eI G 64 d_x)], [(t_a0, eI G 12 t_x)]]) H := hP
  have hD : va_D A (flt [[(n_a0, eI G 64 n_x)], [(l_a0, eI G 64 l_x)], [(d_a0, eI G 64 d_x)], [(t_a0, eI G 12 t_x)]]) := hD
  obtain ⟨h13, h23⟩ := h9
  refine zr_join (G := G) (A := A) (H0 := sT.heap) (nL := 9) 35 (flt [[(n_a0, eI G 64 n_x)], [(l_a0, eI G 64 l_x)], [(d_a0, eI G 64 d_x)], [(t_a0, eI G 12 t_x)]]) [(0, .ref n_a0), (1, .ref l_a0), (2, .ref d_a0), (3, .ref t_a0)] [.int (iI ((if (waysZ (t_x 0)) < (kdZ l_x d_x (0 : Int) (t_x 10).toNat) then waysZ (t_x 0) else kdZ l_x d_x (0 : Int) (t_x 10).toNat) : Int)), .int (iI 6), .ref t_a0] (rg ((if (waysZ (t_x 0)) < (kdZ l_x d_x (0 : Int) (t_x 10).toNat) then waysZ (t_x 0) else kdZ l_x d_x (0 : Int) (t_x 10).toNat) : Int)) ?_ ?_
  · intro p25 H locs ls hP hD hS hl
    have r22 := p25
    clear h13
    refine zr_iast (n := 12) (f := t_x) (i := 6) (x := ((if (waysZ (t_x 0)) < (kdZ l_x d_x (0 : Int) (t_x 10).toNat) then waysZ (t_x 0) else kdZ l_x d_x (0 : Int) (t_x 10).toNat) : Int)) hx hb hK hP hD hS 3 rfl rg_6 ⟨by decide, by decide⟩ dL_begin_35 (fun H locs hP hD hS => ?_)
    have hP : va_P G.1 vwCl (flt [[(n_a0, eI G 64 n_x)], [(l_a0, eI G 64 l_x)], [(d_a0, eI G 64 d_x)], [(t_a0, eI G 12 (uZ t_x 6 ((if (waysZ (t_x 0)) < (kdZ l_x d_x (0 : Int) (t_x 10).toNat) then waysZ (t_x 0) else kdZ l_x d_x (0 : Int) (t_x 10).toNat) : Int)))]]) H := hP
    have hD : va_D A (flt [[(n_a0, eI G 64 n_x)], [(l_a0, eI G 64 l_x)], [(d_a0, eI G 64 d_x)], [(t_a0, eI G 12 (uZ t_x 6 ((if (waysZ (t_x 0)) < (kdZ l_x d_x (0 : Int) (t_x 10).toNat) then waysZ (t_x 0) else kdZ l_x d_x (0 : Int) (t_x 10).toNat) : Int)))]]) := hD
    refine lv_iconst (v := iI 0) hx hb dL_begin_36 rfl ?_
    refine lv_istore (lv' := [(5, .int (iI 0)), (0, .ref n_a0), (1, .ref l_a0), (2, .ref d_a0), (3, .ref t_a0)]) hx hb dL_begin_37 hl (by decide) rfl (fun ls hl => ?_)
    obtain ⟨I28, μ29, h30, h31⟩ := h23
    refine zr_loop (G := G) (σ := Int × (Int → Int)) (fun x_27 => (rg x_27.1 ∧ rgA x_27.2) ∧ I28 x_27.1 x_27.2) (fun x_27 => μ29 x_27.1 x_27.2) (fun x_27 => flt [[(n_a0, eI G 64 n_x)], [(l_a0, eI G 64 l_x)], [(d_a0, eI G 64 x_27.2)], [(t_a0, eI G 12 (uZ t_x 6 ((if (waysZ (t_x 0)) < (kdZ l_x d_x (0 : Int) (t_x 10).toNat) then waysZ (t_x 0) else kdZ l_x d_x (0 : Int) (t_x 10).toNat) : Int)))]]) (fun x_27 => [(5, .int (iI x_27.1)), (0, .ref n_a0), (1, .ref l_a0), (2, .ref d_a0), (3, .ref t_a0)]) ((0, d_x)) ⟨⟨rg_0, r_d_x⟩, h30⟩ hP hD hS (lv_sub hl [0, 1, 2, 3, 4] rfl) ?_
    clear hP hD hS hl
    intro x_27 H locs ls ih32 h33 hP hD hS hl
    obtain ⟨x5_27, x2_27⟩ := x_27
    obtain ⟨⟨rx5_27, rx2_27⟩, h33⟩ := h33
    have h34 := h31 x5_27 x2_27 rx5_27 rx2_27 h33
    have hP : va_P G.1 vwCl (flt [[(n_a0, eI G 64 n_x)], [(l_a0, eI G 64 l_x)], [(d_a0, eI G 64 x2_27)], [(t_a0, eI G 12 (uZ t_x 6 ((if (waysZ (t_x 0)) < (kdZ l_x d_x (0 : Int) (t_x 10).toNat) then waysZ (t_x 0) else kdZ l_x d_x (0 : Int) (t_x 10).toNat) : Int)))]]) H := hP
    have hD : va_D A (flt [[(n_a0, eI G 64 n_x)], [(l_a0, eI G 64 l_x)], [(d_a0, eI G 64 x2_27)], [(t_a0, eI G 12 (uZ t_x 6 ((if (waysZ (t_x 0)) < (kdZ l_x d_x (0 : Int) (t_x 10).toNat) then waysZ (t_x 0) else kdZ l_x d_x (0 : Int) (t_x 10).toNat) : Int)))]]) := hD
    have hl : lv_has ls 9 [(5, .int (iI x5_27)), (0, .ref n_a0), (1, .ref l_a0), (2, .ref d_a0), (3, .ref t_a0)] := hl
    refine lv_iload hx hb dL_begin_39 (lv_at hl 0 rfl) ?_
    refine lv_aload_n hx hb dL_begin_41 rfl (lv_at hl 4 rfl) ?_
    refine lv_bipush (v := iI 6) hx hb dL_begin_42 (by decide) ?_
    refine zr_iald (n := 12) (f := uZ t_x 6 ((if (waysZ (t_x 0)) < (kdZ l_x d_x (0 : Int) (t_x 10).toNat) then waysZ (t_x 0) else kdZ l_x d_x (0 : Int) (t_x 10).toNat) : Int)) (i := 6) hx hb hK hP 3 rfl rg_6 ⟨by decide, by decide⟩ dL_begin_44 ?_
    refine W.eq (g2 := F0 m 45 ls (.int (iI ((if (waysZ (t_x 0)) < (kdZ l_x d_x (0 : Int) (t_x 10).toNat) then waysZ (t_x 0) else kdZ l_x d_x (0 : Int) (t_x 10).toNat) : Int)) :: [.int (iI x5_27)])) rfl ?_
    refine zr_icmp_ge (tgt := 146) (x := x5_27) (y := ((if (waysZ (t_x 0)) < (kdZ l_x d_x (0 : Int) (t_x 10).toNat) then waysZ (t_x 0) else kdZ l_x d_x (0 : Int) (t_x 10).toNat) : Int)) hx hb rx5_27 r22 dL_begin_45 (by decide) (fun c35 => ?_) (fun c35 => ?_)
    · have h38 := h34.2 c35
      refine lv_aload_n hx hb dL_begin_146 rfl (lv_at hl 1 rfl) ?_
      refine lv_aload_n hx hb dL_begin_147 rfl (lv_at hl 4 rfl) ?_
      refine lv_bipush (v := iI 10) hx hb dL_begin_148 (by decide) ?_
      refine zr_iald (n := 12) (f := uZ t_x 6 ((if (waysZ (t_x 0)) < (kdZ l_x d_x (0 : Int) (t_x 10).toNat) then waysZ (t_x 0) else kdZ l_x d_x (0 : Int) (t_x 10).toNat) : Int)) (i := 10) hx hb hK hP 3 rfl rg_10 ⟨by decide, by decide⟩ dL_begin_150 ?_
      refine W.eq (g2 := F0 m 151 ls (.int (iI (t_x 10)) :: [.ref n_a0])) rfl ?_
      refine lv_iconst (v := iI (-1)) hx hb dL_begin_151 rfl ?_
      obtain ⟨b39, h40⟩ := h38
      refine zr_iast (n := 64) (f := n_x) (i := t_x 10) (x := (-1)) hx hb hK hP hD hS 0 rfl (r_t_x 10) b39 dL_begin_152 (fun H locs hP hD hS => ?_)
      have hP : va_P G.1 vwCl (flt [[(n_a0, eI G 64 (uZ n_x (t_x 10) (-1)))], [(l_a0, eI G 64 l_x)], [(d_a0, eI G 64 x2_27)], [(t_a0, eI G 12 (uZ t_x 6 ((if (waysZ (t_x 0)) < (kdZ l_x d_x (0 : Int) (t_x 10).toNat) then waysZ (t_x 0) else kdZ l_x d_x (0 : Int) (t_x 10).toNat) : Int)))]]) H := hP
      have hD : va_D A (flt [[(n_a0, eI G 64 (uZ n_x (t_x 10) (-1)))], [(l_a0, eI G 64 l_x)], [(d_a0, eI G 64 x2_27)], [(t_a0, eI G 12 (uZ t_x 6 ((if (waysZ (t_x 0)) < (kdZ l_x d_x (0 : Int) (t_x 10).toNat) then waysZ (t_x 0) else kdZ l_x d_x (0 : Int) (t_x 10).toNat) : Int)))]]) := hD
      refine lv_aload_n hx hb dL_begin_153 rfl (lv_at hl 2 rfl) ?_
      refine lv_aload_n hx hb dL_begin_154 rfl (lv_at hl 4 rfl) ?_
      refine lv_bipush (v := iI 10) hx hb dL_begin_155 (by decide) ?_
      refine zr_iald (n := 12) (f := uZ t_x 6 ((if (waysZ (t_x 0)) < (kdZ l_x d_x (0 : Int) (t_x 10).toNat) then waysZ (t_x 0) else kdZ l_x d_x (0 : Int) (t_x 10).toNat) : Int)) (i := 10) hx hb hK hP 3 rfl rg_10 ⟨by decide, by decide⟩ dL_begin_157 ?_
      refine W.eq (g2 := F0 m 158 ls (.int (iI (t_x 10)) :: [.ref l_a0])) rfl ?_
      refine lv_iconst (v := iI 0) hx hb dL_begin_158 rfl ?_
      refine zr_iast (n := 64) (f := l_x) (i := t_x 10) (x := 0) hx hb hK hP hD hS 1 rfl (r_t_x 10) b39 dL_begin_159 (fun H locs hP hD hS => ?_)
      have hP : va_P G.1 vwCl (flt [[(n_a0, eI G 64 (uZ n_x (t_x 10) (-1)))], [(l_a0, eI G 64 (uZ l_x (t_x 10) 0))], [(d_a0, eI G 64 x2_27)], [(t_a0, eI G 12 (uZ t_x 6 ((if (waysZ (t_x 0)) < (kdZ l_x d_x (0 : Int) (t_x 10).toNat) then waysZ (t_x 0) else kdZ l_x d_x (0 : Int) (t_x 10).toNat) : Int)))]]) H := hP
      have hD : va_D A (flt [[(n_a0, eI G 64 (uZ n_x (t_x 10) (-1)))], [(l_a0, eI G 64 (uZ l_x (t_x 10) 0))], [(d_a0, eI G 64 x2_27)], [(t_a0, eI G 12 (uZ t_x 6 ((if (waysZ (t_x 0)) < (kdZ l_x d_x (0 : Int) (t_x 10).toNat) then waysZ (t_x 0) else kdZ l_x d_x (0 : Int) (t_x 10).toNat) : Int)))]]) := hD
      refine lv_aload_n hx hb dL_begin_160 rfl (lv_at hl 3 rfl) ?_
      refine lv_aload_n hx hb dL_begin_161 rfl (lv_at hl 4 rfl) ?_
      refine lv_bipush (v := iI 10) hx hb dL_begin_162 (by decide) ?_
      refine zr_iald (n := 12) (f := uZ t_x 6 ((if (waysZ (t_x 0)) < (kdZ l_x d_x (0 : Int) (t_x 10).toNat) then waysZ (t_x 0) else kdZ l_x d_x (0 : Int) (t_x 10).toNat) : Int)) (i := 10) hx hb hK hP 3 rfl rg_10 ⟨by decide, by decide⟩ dL_begin_164 ?_
      refine W.eq (g2 := F0 m 165 ls (.int (iI (t_x 10)) :: [.ref d_a0])) rfl ?_
      refine lv_iconst (v := iI 2) hx hb dL_begin_165 rfl ?_
      refine zr_iast (n := 64) (f := x2_27) (i := t_x 10) (x := 2) hx hb hK hP hD hS 2 rfl (r_t_x 10) b39 dL_begin_166 (fun H locs hP hD hS => ?_)
      have hP : va_P G.1 vwCl (flt [[(n_a0, eI G 64 (uZ n_x (t_x 10) (-1)))], [(l_a0, eI G 64 (uZ l_x (t_x 10) 0))], [(d_a0, eI G 64 (uZ x2_27 (t_x 10) 2))], [(t_a0, eI G 12 (uZ t_x 6 ((if (waysZ (t_x 0)) < (kdZ l_x d_x (0 : Int) (t_x 10).toNat) then waysZ (t_x 0) else kdZ l_x d_x (0 : Int) (t_x 10).toNat) : Int)))]]) H := hP
      have hD : va_D A (flt [[(n_a0, eI G 64 (uZ n_x (t_x 10) (-1)))], [(l_a0, eI G 64 (uZ l_x (t_x 10) 0))], [(d_a0, eI G 64 (uZ x2_27 (t_x 10) 2))], [(t_a0, eI G 12 (uZ t_x 6 ((if (waysZ (t_x 0)) < (kdZ l_x d_x (0 : Int) (t_x 10).toNat) then waysZ (t_x 0) else kdZ l_x d_x (0 : Int) (t_x 10).toNat) : Int)))]]) := hD
      refine lv_aload_n hx hb dL_begin_167 rfl (lv_at hl 4 rfl) ?_
      refine lv_bipush (v := iI 10) hx hb dL_begin_168 (by decide) ?_
      refine lv_dup2_11 hx hb dL_begin_170 rfl rfl ?_
      refine zr_iald (n := 12) (f := uZ t_x 6 ((if (waysZ (t_x 0)) < (kdZ l_x d_x (0 : Int) (t_x 10).toNat) then waysZ (t_x 0) else kdZ l_x d_x (0 : Int) (t_x 10).toNat) : Int)) (i := 10) hx hb hK hP 3 rfl rg_10 ⟨by decide, by decide⟩ dL_begin_171 ?_
      refine W.eq (g2 := F0 m 172 ls (.int (iI (t_x 10)) :: [.int (iI 10), .ref t_a0])) rfl ?_
      refine lv_iconst (v := iI 1) hx hb dL_begin_172 rfl ?_
      refine zr_iadd (x := t_x 10) (y := 1) hx hb dL_begin_173 ?_
      obtain ⟨r41, h42⟩ := h40
      refine zr_iast (n := 12) (f := uZ t_x 6 ((if (waysZ (t_x 0)) < (kdZ l_x d_x (0 : Int) (t_x 10).toNat) then waysZ (t_x 0) else kdZ l_x d_x (0 : Int) (t_x 10).toNat) : Int)) (i := 10) (x := (t_x 10) + 1) hx hb hK hP hD hS 3 rfl rg_10 ⟨by decide, by decide⟩ dL_begin_174 (fun H locs hP hD hS => ?_)
      have hP : va_P G.1 vwCl (flt [[(n_a0, eI G 64 (uZ n_x (t_x 10) (-1)))], [(l_a0, eI G 64 (uZ l_x (t_x 10) 0))], [(d_a0, eI G 64 (uZ x2_27 (t_x 10) 2))], [(t_a0, eI G 12 (uZ (uZ t_x 6 ((if (waysZ (t_x 0)) < (kdZ l_x d_x (0 : Int) (t_x 10).toNat) then waysZ (t_x 0) else kdZ l_x d_x (0 : Int) (t_x 10).toNat) : Int)) 10 ((t_x 10) + 1)))]]) H := hP
      have hD : va_D A (flt [[(n_a0, eI G 64 (uZ n_x (t_x 10) (-1)))], [(l_a0, eI G 64 (uZ l_x (t_x 10) 0))], [(d_a0, eI G 64 (uZ x2_27 (t_x 10) 2))], [(t_a0, eI G 12 (uZ (uZ t_x 6 ((if (waysZ (t_x 0)) < (kdZ l_x d_x (0 : Int) (t_x 10).toNat) then waysZ (t_x 0) else kdZ l_x d_x (0 : Int) (t_x 10).toNat) : Int)) 10 ((t_x 10) + 1)))]]) := hD
      refine lv_aload_n hx hb dL_begin_175 rfl (lv_at hl 4 rfl) ?_
      refine lv_iconst (v := iI 5) hx hb dL_begin_176 rfl ?_
      refine lv_iconst (v := iI 1) hx hb dL_begin_177 rfl ?_
      refine zr_iast (n := 12) (f := uZ (uZ t_x 6 ((if (waysZ (t_x 0)) < (kdZ l_x d_x (0 : Int) (t_x 10).toNat) then waysZ (t_x 0) else kdZ l_x d_x (0 : Int) (t_x 10).toNat) : Int)) 10 ((t_x 10) + 1)) (i := 5) (x := 1) hx hb hK hP hD hS 3 rfl rg_5 ⟨by decide, by decide⟩ dL_begin_178 (fun H locs hP hD hS => ?_)
      have hP : va_P G.1 vwCl (flt [[(n_a0, eI G 64 (uZ n_x (t_x 10) (-1)))], [(l_a0, eI G 64 (uZ l_x (t_x 10) 0))], [(d_a0, eI G 64 (uZ x2_27 (t_x 10) 2))], [(t_a0, eI G 12 (uZ (uZ (uZ t_x 6 ((if (waysZ (t_x 0)) < (kdZ l_x d_x (0 : Int) (t_x 10).toNat) then waysZ (t_x 0) else kdZ l_x d_x (0 : Int) (t_x 10).toNat) : Int)) 10 ((t_x 10) + 1)) 5 1))]]) H := hP
      have hD : va_D A (flt [[(n_a0, eI G 64 (uZ n_x (t_x 10) (-1)))], [(l_a0, eI G 64 (uZ l_x (t_x 10) 0))], [(d_a0, eI G 64 (uZ x2_27 (t_x 10) 2))], [(t_a0, eI G 12 (uZ (uZ (uZ t_x 6 ((if (waysZ (t_x 0)) < (kdZ l_x d_x (0 : Int) (t_x 10).toNat) then waysZ (t_x 0) else kdZ l_x d_x (0 : Int) (t_x 10).toNat) : Int)) 10 ((t_x 10) + 1)) 5 1))]]) := hD
      refine lv_aload_n hx hb dL_begin_179 rfl (lv_at hl 4 rfl) ?_
      refine lv_bipush (v := iI 8) hx hb dL_begin_180 (by decide) ?_
      refine lv_dup2_11 hx hb dL_begin_182 rfl rfl ?_
      refine zr_iald (n := 12) (f := uZ (uZ (uZ t_x 6 ((if (waysZ (t_x 0)) < (kdZ l_x d_x (0 : Int) (t_x 10).toNat) then waysZ (t_x 0) else kdZ l_x d_x (0 : Int) (t_x 10).toNat) : Int)) 10 ((t_x 10) + 1)) 5 1) (i := 8) hx hb hK hP 3 rfl rg_8 ⟨by decide, by decide⟩ dL_begin_183 ?_
      refine W.eq (g2 := F0 m 184 ls (.int (iI (t_x 8)) :: [.int (iI 8), .ref t_a0])) rfl ?_
      refine lv_iconst (v := iI 1) hx hb dL_begin_184 rfl ?_
      refine zr_iadd (x := t_x 8) (y := 1) hx hb dL_begin_185 ?_
      obtain ⟨r43, h44⟩ := h42
      refine zr_iast (n := 12) (f := uZ (uZ (uZ t_x 6 ((if (waysZ (t_x 0)) < (kdZ l_x d_x (0 : Int) (t_x 10).toNat) then waysZ (t_x 0) else kdZ l_x d_x (0 : Int) (t_x 10).toNat) : Int)) 10 ((t_x 10) + 1)) 5 1) (i := 8) (x := (t_x 8) + 1) hx hb hK hP hD hS 3 rfl rg_8 ⟨by decide, by decide⟩ dL_begin_186 (fun H locs hP hD hS => ?_)
      have hP : va_P G.1 vwCl (flt [[(n_a0, eI G 64 (uZ n_x (t_x 10) (-1)))], [(l_a0, eI G 64 (uZ l_x (t_x 10) 0))], [(d_a0, eI G 64 (uZ x2_27 (t_x 10) 2))], [(t_a0, eI G 12 (uZ (uZ (uZ (uZ t_x 6 ((if (waysZ (t_x 0)) < (kdZ l_x d_x (0 : Int) (t_x 10).toNat) then waysZ (t_x 0) else kdZ l_x d_x (0 : Int) (t_x 10).toNat) : Int)) 10 ((t_x 10) + 1)) 5 1) 8 ((t_x 8) + 1)))]]) H := hP
      have hD : va_D A (flt [[(n_a0, eI G 64 (uZ n_x (t_x 10) (-1)))], [(l_a0, eI G 64 (uZ l_x (t_x 10) 0))], [(d_a0, eI G 64 (uZ x2_27 (t_x 10) 2))], [(t_a0, eI G 12 (uZ (uZ (uZ (uZ t_x 6 ((if (waysZ (t_x 0)) < (kdZ l_x d_x (0 : Int) (t_x 10).toNat) then waysZ (t_x 0) else kdZ l_x d_x (0 : Int) (t_x 10).toNat) : Int)) 10 ((t_x 10) + 1)) 5 1) 8 ((t_x 8) + 1)))]]) := hD
      exact zr_vret hx hb hr hlocks hK ((uZ n_x (t_x 10) (-1), uZ l_x (t_x 10) 0, uZ x2_27 (t_x 10) 2, uZ (uZ (uZ (uZ t_x 6 ((if (waysZ (t_x 0)) < (kdZ l_x d_x (0 : Int) (t_x 10).toNat) then waysZ (t_x 0) else kdZ l_x d_x (0 : Int) (t_x 10).toNat) : Int)) 10 ((t_x 10) + 1)) 5 1) 8 ((t_x 8) + 1))) hP hD hS dL_begin_187 ⟨(rgA_u (i := t_x 10) r_n_x rg_m1), (rgA_u (i := t_x 10) r_l_x rg_0), (rgA_u (i := t_x 10) rx2_27 rg_2), (rgA_u (i := 8) (rgA_u (i := 5) (rgA_u (i := 10) (rgA_u (i := 6) r_t_x r22) r41) rg_1) r43), h44⟩
    · have h45 := h34.1 c35
      refine lv_iconst (v := iI (-1)) hx hb dL_begin_48 rfl ?_
      refine lv_istore (lv' := [(6, .int (iI (-1))), (5, .int (iI x5_27)), (0, .ref n_a0), (1, .ref l_a0), (2, .ref d_a0), (3, .ref t_a0)]) hx hb dL_begin_49 hl (by decide) rfl (fun ls hl => ?_)
      refine lv_iconst (v := iI 0) hx hb dL_begin_51 rfl ?_
      refine lv_istore (lv' := [(7, .int (iI 0)), (6, .int (iI (-1))), (5, .int (iI x5_27)), (0, .ref n_a0), (1, .ref l_a0), (2, .ref d_a0), (3, .ref t_a0)]) hx hb dL_begin_52 hl (by decide) rfl (fun ls hl => ?_)
      obtain ⟨I47, μ48, h49, h50⟩ := h45
      refine zr_loop (G := G) (σ := Int × Int) (fun x_46 => (rg x_46.1 ∧ rg x_46.2) ∧ I47 x_46.1 x_46.2) (fun x_46 => μ48 x_46.1 x_46.2) (fun x_46 => flt [[(n_a0, eI G 64 n_x)], [(l_a0, eI G 64 l_x)], [(d_a0, eI G 64 x2_27)], [(t_a0, eI G 12 (uZ t_x 6 ((if (waysZ (t_x 0)) < (kdZ l_x d_x (0 : Int) (t_x 10).toNat) then waysZ (t_x 0) else kdZ l_x d_x (0 : Int) (t_x 10).toNat) : Int)))]]) (fun x_46 => [(7, .int (iI x_46.2)), (6, .int (iI x_46.1)), (5, .int (iI x5_27)), (0, .ref n_a0), (1, .ref l_a0), (2, .ref d_a0), (3, .ref t_a0)]) (((-1), 0)) ⟨⟨rg_m1, rg_0⟩, h49⟩ hP hD hS (lv_sub hl [0, 1, 2, 3, 4, 5, 6] rfl) ?_
      clear hP hD hS hl
      intro x_46 H locs ls ih51 h52 hP hD hS hl
      obtain ⟨x6_46, x7_46⟩ := x_46
      obtain ⟨⟨rx6_46, rx7_46⟩, h52⟩ := h52
      have h53 := h50 x6_46 x7_46 rx6_46 rx7_46 h52
      have hP : va_P G.1 vwCl (flt [[(n_a0, eI G 64 n_x)], [(l_a0, eI G 64 l_x)], [(d_a0, eI G 64 x2_27)], [(t_a0, eI G 12 (uZ t_x 6 ((if (waysZ (t_x 0)) < (kdZ l_x d_x (0 : Int) (t_x 10).toNat) then waysZ (t_x 0) else kdZ l_x d_x (0 : Int) (t_x 10).toNat) : Int)))]]) H := hP
      have hD : va_D A (flt [[(n_a0, eI G 64 n_x)], [(l_a0, eI G 64 l_x)], [(d_a0, eI G 64 x2_27)], [(t_a0, eI G 12 (uZ t_x 6 ((if (waysZ (t_x 0)) < (kdZ l_x d_x (0 : Int) (t_x 10).toNat) then waysZ (t_x 0) else kdZ l_x d_x (0 : Int) (t_x 10).toNat) : Int)))]]) := hD
      have hl : lv_has ls 9 [(7, .int (iI x7_46)), (6, .int (iI x6_46)), (5, .int (iI x5_27)), (0, .ref n_a0), (1, .ref l_a0), (2, .ref d_a0), (3, .ref t_a0)] := hl
      refine lv_iload hx hb dL_begin_54 (lv_at hl 0 rfl) ?_
      refine lv_aload_n hx hb dL_begin_56 rfl (lv_at hl 6 rfl) ?_
      refine lv_bipush (v := iI 10) hx hb dL_begin_57 (by decide) ?_
      refine zr_iald (n := 12) (f := uZ t_x 6 ((if (waysZ (t_x 0)) < (kdZ l_x d_x (0 : Int) (t_x 10).toNat) then waysZ (t_x 0) else kdZ l_x d_x (0 : Int) (t_x 10).toNat) : Int)) (i := 10) hx hb hK hP 3 rfl rg_10 ⟨by decide, by decide⟩ dL_begin_59 ?_
      refine W.eq (g2 := F0 m 60 ls (.int (iI (t_x 10)) :: [.int (iI x7_46)])) rfl ?_
      refine zr_icmp_ge (tgt := 135) (x := x7_46) (y := t_x 10) hx hb rx7_46 (r_t_x 10) dL_begin_60 (by decide) (fun c54 => ?_) (fun c54 => ?_)
      · have h57 := h53.2 c54
        refine lv_aload_n hx hb dL_begin_135 rfl (lv_at hl 5 rfl) ?_
        refine lv_iload hx hb dL_begin_136 (lv_at hl 1 rfl) ?_
        refine lv_iconst (v := iI 1) hx hb dL_begin_138 rfl ?_
        obtain ⟨b58, h59⟩ := h57
        refine zr_iast (n := 64) (f := x2_27) (i := x6_46) (x := 1) hx hb hK hP hD hS 2 rfl rx6_46 b58 dL_begin_139 (fun H locs hP hD hS => ?_)
        have hP : va_P G.1 vwCl (flt [[(n_a0, eI G 64 n_x)], [(l_a0, eI G 64 l_x)], [(d_a0, eI G 64 (uZ x2_27 x6_46 1))], [(t_a0, eI G 12 (uZ t_x 6 ((if (waysZ (t_x 0)) < (kdZ l_x d_x (0 : Int) (t_x 10).toNat) then waysZ (t_x 0) else kdZ l_x d_x (0 : Int) (t_x 10).toNat) : Int)))]]) H := hP
        have hD : va_D A (flt [[(n_a0, eI G 64 n_x)], [(l_a0, eI G 64 l_x)], [(d_a0, eI G 64 (uZ x2_27 x6_46 1))], [(t_a0, eI G 12 (uZ t_x 6 ((if (waysZ (t_x 0)) < (kdZ l_x d_x (0 : Int) (t_x 10).toNat) then waysZ (t_x 0) else kdZ l_x d_x (0 : Int) (t_x 10).toNat) : Int)))]]) := hD
        obtain ⟨r60, h61⟩ := h59
        refine zr_iinc (x := x5_27) (lv' := [(5, .int (iI (x5_27 + 1))), (7, .int (iI x7_46)), (6, .int (iI x6_46)), (0, .ref n_a0), (1, .ref l_a0), (2, .ref d_a0), (3, .ref t_a0)]) hx hb dL_begin_140 hl (k := 2) rfl (by decide) rfl (fun ls hl => ?_)
        refine lv_goto (tgt := 39) hx hb dL_begin_143 (by decide) ?_
        obtain ⟨h62, h63⟩ := h61
        exact ih32 ((x5_27 + 1, uZ x2_27 x6_46 1)) _ _ _ ⟨⟨r60, (rgA_u (i := x6_46) rx2_27 rg_1)⟩, h62⟩ h63 hP hD hS (lv_sub hl [0, 3, 4, 5, 6] rfl)
      · have h64 := h53.1 c54
        refine lv_aload_n hx hb dL_begin_63 rfl (lv_at hl 5 rfl) ?_
        refine lv_iload hx hb dL_begin_64 (lv_at hl 0 rfl) ?_
        obtain ⟨b65, h66⟩ := h64
        refine zr_iald (n := 64) (f := x2_27) (i := x7_46) hx hb hK hP 2 rfl rx7_46 b65 dL_begin_66 ?_
        refine zr_if_ne (tgt := 112) (x := x2_27 x7_46) hx hb (rx2_27 x7_46) dL_begin_67 (by decide) (fun c67 => ?_) (fun c67 => ?_)
        · have h70 := h66.2 c67
          refine lv_iconst (v := iI 0) hx hb dL_begin_112 rfl ?_
          refine lv_istore (lv' := [(8, .int (iI 0)), (7, .int (iI x7_46)), (6, .int (iI x6_46)), (5, .int (iI x5_27)), (0, .ref n_a0), (1, .ref l_a0), (2, .ref d_a0), (3, .ref t_a0)]) hx hb dL_begin_113 hl (by decide) rfl (fun ls hl => ?_)
          refine lv_iload hx hb dL_begin_115 (lv_at hl 0 rfl) ?_
          refine zr_if_eq (tgt := 125) (x := 0) hx hb rg_0 dL_begin_117 (by decide) (fun _ => ?_) (fun c => absurd (by decide) c)
          refine lv_iload hx hb dL_begin_125 (lv_at hl 2 rfl) ?_
          refine lv_istore (lv' := [(6, .int (iI x6_46)), (8, .int (iI 0)), (7, .int (iI x7_46)), (5, .int (iI x5_27)), (0, .ref n_a0), (1, .ref l_a0), (2, .ref d_a0), (3, .ref t_a0)]) hx hb dL_begin_127 hl (by decide) rfl (fun ls hl => ?_)
          obtain ⟨r71, h72⟩ := h70
          refine zr_iinc (x := x7_46) (lv' := [(7, .int (iI (x7_46 + 1))), (6, .int (iI x6_46)), (8, .int (iI 0)), (5, .int (iI x5_27)), (0, .ref n_a0), (1, .ref l_a0), (2, .ref d_a0), (3, .ref t_a0)]) hx hb dL_begin_129 hl (k := 2) rfl (by decide) rfl (fun ls hl => ?_)
          refine lv_goto (tgt := 54) hx hb dL_begin_132 (by decide) ?_
          obtain ⟨h73, h74⟩ := h72
          exact ih51 ((x6_46, x7_46 + 1)) _ _ _ ⟨⟨rx6_46, r71⟩, h73⟩ h74 hP hD hS (lv_sub hl [0, 1, 3, 4, 5, 6, 7] rfl)
        · have h75 := h66.1 c67
          refine lv_iload hx hb dL_begin_70 (lv_at hl 1 rfl) ?_
          refine zr_if_lt (tgt := 108) (x := x6_46) hx hb rx6_46 dL_begin_72 (by decide) (fun c76 => ?_) (fun c76 => ?_)
          · have h79 := h75.1 c76
            refine lv_iconst (v := iI 1) hx hb dL_begin_108 rfl ?_
            refine lv_goto (tgt := 113) hx hb dL_begin_109 (by decide) ?_
            refine lv_istore (lv' := [(8, .int (iI 1)), (7, .int (iI x7_46)), (6, .int (iI x6_46)), (5, .int (iI x5_27)), (0, .ref n_a0), (1, .ref l_a0), (2, .ref d_a0), (3, .ref t_a0)]) hx hb dL_begin_113 hl (by decide) rfl (fun ls hl => ?_)
            refine lv_iload hx hb dL_begin_115 (lv_at hl 0 rfl) ?_
            refine zr_if_eq (tgt := 125) (x := 1) hx hb rg_1 dL_begin_117 (by decide) (fun c => absurd c (by decide)) (fun _ => ?_)
            refine lv_iload hx hb dL_begin_120 (lv_at hl 1 rfl) ?_
            refine lv_goto (tgt := 127) hx hb dL_begin_122 (by decide) ?_
            refine lv_istore (lv' := [(6, .int (iI x7_46)), (8, .int (iI 1)), (7, .int (iI x7_46)), (5, .int (iI x5_27)), (0, .ref n_a0), (1, .ref l_a0), (2, .ref d_a0), (3, .ref t_a0)]) hx hb dL_begin_127 hl (by decide) rfl (fun ls hl => ?_)
            obtain ⟨r80, h81⟩ := h79
            refine zr_iinc (x := x7_46) (lv' := [(7, .int (iI (x7_46 + 1))), (6, .int (iI x7_46)), (8, .int (iI 1)), (5, .int (iI x5_27)), (0, .ref n_a0), (1, .ref l_a0), (2, .ref d_a0), (3, .ref t_a0)]) hx hb dL_begin_129 hl (k := 2) rfl (by decide) rfl (fun ls hl => ?_)
            refine lv_goto (tgt := 54) hx hb dL_begin_132 (by decide) ?_
            obtain ⟨h82, h83⟩ := h81
            exact ih51 ((x7_46, x7_46 + 1)) _ _ _ ⟨⟨rx7_46, r80⟩, h82⟩ h83 hP hD hS (lv_sub hl [0, 1, 3, 4, 5, 6, 7] rfl)
          · have h84 := h75.2 c76
            refine lv_aload_n hx hb dL_begin_75 rfl (lv_at hl 4 rfl) ?_
            refine lv_iload hx hb dL_begin_76 (lv_at hl 0 rfl) ?_
            refine zr_iald (n := 64) (f := l_x) (i := x7_46) hx hb hK hP 1 rfl rx7_46 b65 dL_begin_78 ?_
            refine lv_aload_n hx hb dL_begin_79 rfl (lv_at hl 4 rfl) ?_
            refine lv_iload hx hb dL_begin_80 (lv_at hl 1 rfl) ?_
            obtain ⟨b85, h86⟩ := h84
            refine zr_iald (n := 64) (f := l_x) (i := x6_46) hx hb hK hP 1 rfl rx6_46 b85 dL_begin_82 ?_
            refine zr_icmp_lt (tgt := 108) (x := l_x x7_46) (y := l_x x6_46) hx hb (r_l_x x7_46) (r_l_x x6_46) dL_begin_83 (by decide) (fun c87 => ?_) (fun c87 => ?_)
            · have h90 := h86.1 c87
              refine lv_iconst (v := iI 1) hx hb dL_begin_108 rfl ?_
              refine lv_goto (tgt := 113) hx hb dL_begin_109 (by decide) ?_
              refine lv_istore (lv' := [(8, .int (iI 1)), (7, .int (iI x7_46)), (6, .int (iI x6_46)), (5, .int (iI x5_27)), (0, .ref n_a0), (1, .ref l_a0), (2, .ref d_a0), (3, .ref t_a0)]) hx hb dL_begin_113 hl (by decide) rfl (fun ls hl => ?_)
              refine lv_iload hx hb dL_begin_115 (lv_at hl 0 rfl) ?_
              refine zr_if_eq (tgt := 125) (x := 1) hx hb rg_1 dL_begin_117 (by decide) (fun c => absurd c (by decide)) (fun _ => ?_)
              refine lv_iload hx hb dL_begin_120 (lv_at hl 1 rfl) ?_
              refine lv_goto (tgt := 127) hx hb dL_begin_122 (by decide) ?_
              refine lv_istore (lv' := [(6, .int (iI x7_46)), (8, .int (iI 1)), (7, .int (iI x7_46)), (5, .int (iI x5_27)), (0, .ref n_a0), (1, .ref l_a0), (2, .ref d_a0), (3, .ref t_a0)]) hx hb dL_begin_127 hl (by decide) rfl (fun ls hl => ?_)
              obtain ⟨r91, h92⟩ := h90
              refine zr_iinc (x := x7_46) (lv' := [(7, .int (iI (x7_46 + 1))), (6, .int (iI x7_46)), (8, .int (iI 1)), (5, .int (iI x5_27)), (0, .ref n_a0), (1, .ref l_a0), (2, .ref d_a0), (3, .ref t_a0)]) hx hb dL_begin_129 hl (k := 2) rfl (by decide) rfl (fun ls hl => ?_)
              refine lv_goto (tgt := 54) hx hb dL_begin_132 (by decide) ?_
              obtain ⟨h93, h94⟩ := h92
              exact ih51 ((x7_46, x7_46 + 1)) _ _ _ ⟨⟨rx7_46, r91⟩, h93⟩ h94 hP hD hS (lv_sub hl [0, 1, 3, 4, 5, 6, 7] rfl)
            · have h95 := h86.2 c87
              refine lv_aload_n hx hb dL_begin_86 rfl (lv_at hl 4 rfl) ?_
              refine lv_iload hx hb dL_begin_87 (lv_at hl 0 rfl) ?_
              refine zr_iald (n := 64) (f := l_x) (i := x7_46) hx hb hK hP 1 rfl rx7_46 b65 dL_begin_89 ?_
              refine lv_aload_n hx hb dL_begin_90 rfl (lv_at hl 4 rfl) ?_
              refine lv_iload hx hb dL_begin_91 (lv_at hl 1 rfl) ?_
              refine zr_iald (n := 64) (f := l_x) (i := x6_46) hx hb hK hP 1 rfl rx6_46 b85 dL_begin_93 ?_
              refine zr_icmp_ne (tgt := 112) (x := l_x x7_46) (y := l_x x6_46) hx hb (r_l_x x7_46) (r_l_x x6_46) dL_begin_94 (by decide) (fun c96 => ?_) (fun c96 => ?_)
              · have h99 := h95.2 c96
                refine lv_iconst (v := iI 0) hx hb dL_begin_112 rfl ?_
                refine lv_istore (lv' := [(8, .int (iI 0)), (7, .int (iI x7_46)), (6, .int (iI x6_46)), (5, .int (iI x5_27)), (0, .ref n_a0), (1, .ref l_a0), (2, .ref d_a0), (3, .ref t_a0)]) hx hb dL_begin_113 hl (by decide) rfl (fun ls hl => ?_)
                refine lv_iload hx hb dL_begin_115 (lv_at hl 0 rfl) ?_
                refine zr_if_eq (tgt := 125) (x := 0) hx hb rg_0 dL_begin_117 (by decide) (fun _ => ?_) (fun c => absurd (by decide) c)
                refine lv_iload hx hb dL_begin_125 (lv_at hl 2 rfl) ?_
                refine lv_istore (lv' := [(6, .int (iI x6_46)), (8, .int (iI 0)), (7, .int (iI x7_46)), (5, .int (iI x5_27)), (0, .ref n_a0), (1, .ref l_a0), (2, .ref d_a0), (3, .ref t_a0)]) hx hb dL_begin_127 hl (by decide) rfl (fun ls hl => ?_)
                obtain ⟨r100, h101⟩ := h99
                refine zr_iinc (x := x7_46) (lv' := [(7, .int (iI (x7_46 + 1))), (6, .int (iI x6_46)), (8, .int (iI 0)), (5, .int (iI x5_27)), (0, .ref n_a0), (1, .ref l_a0), (2, .ref d_a0), (3, .ref t_a0)]) hx hb dL_begin_129 hl (k := 2) rfl (by decide) rfl (fun ls hl => ?_)
                refine lv_goto (tgt := 54) hx hb dL_begin_132 (by decide) ?_
                obtain ⟨h102, h103⟩ := h101
                exact ih51 ((x6_46, x7_46 + 1)) _ _ _ ⟨⟨rx6_46, r100⟩, h102⟩ h103 hP hD hS (lv_sub hl [0, 1, 3, 4, 5, 6, 7] rfl)
              · have h104 := h95.1 c96
                refine lv_aload_n hx hb dL_begin_97 rfl (lv_at hl 3 rfl) ?_
                refine lv_iload hx hb dL_begin_98 (lv_at hl 0 rfl) ?_
                refine zr_iald (n := 64) (f := n_x) (i := x7_46) hx hb hK hP 0 rfl rx7_46 b65 dL_begin_100 ?_
                refine lv_aload_n hx hb dL_begin_101 rfl (lv_at hl 3 rfl) ?_
                refine lv_iload hx hb dL_begin_102 (lv_at hl 1 rfl) ?_
                refine zr_iald (n := 64) (f := n_x) (i := x6_46) hx hb hK hP 0 rfl rx6_46 b85 dL_begin_104 ?_
                refine zr_icmp_ge (tgt := 112) (x := n_x x7_46) (y := n_x x6_46) hx hb (r_n_x x7_46) (r_n_x x6_46) dL_begin_105 (by decide) (fun c105 => ?_) (fun c105 => ?_)
                · have h108 := h104.2 c105
                  refine lv_iconst (v := iI 0) hx hb dL_begin_112 rfl ?_
                  refine lv_istore (lv' := [(8, .int (iI 0)), (7, .int (iI x7_46)), (6, .int (iI x6_46)), (5, .int (iI x5_27)), (0, .ref n_a0), (1, .ref l_a0), (2, .ref d_a0), (3, .ref t_a0)]) hx hb dL_begin_113 hl (by decide) rfl (fun ls hl => ?_)
                  refine lv_iload hx hb dL_begin_115 (lv_at hl 0 rfl) ?_
                  refine zr_if_eq (tgt := 125) (x := 0) hx hb rg_0 dL_begin_117 (by decide) (fun _ => ?_) (fun c => absurd (by decide) c)
                  refine lv_iload hx hb dL_begin_125 (lv_at hl 2 rfl) ?_
                  refine lv_istore (lv' := [(6, .int (iI x6_46)), (8, .int (iI 0)), (7, .int (iI x7_46)), (5, .int (iI x5_27)), (0, .ref n_a0), (1, .ref l_a0), (2, .ref d_a0), (3, .ref t_a0)]) hx hb dL_begin_127 hl (by decide) rfl (fun ls hl => ?_)
                  obtain ⟨r109, h110⟩ := h108
                  refine zr_iinc (x := x7_46) (lv' := [(7, .int (iI (x7_46 + 1))), (6, .int (iI x6_46)), (8, .int (iI 0)), (5, .int (iI x5_27)), (0, .ref n_a0), (1, .ref l_a0), (2, .ref d_a0), (3, .ref t_a0)]) hx hb dL_begin_129 hl (k := 2) rfl (by decide) rfl (fun ls hl => ?_)
                  refine lv_goto (tgt := 54) hx hb dL_begin_132 (by decide) ?_
                  obtain ⟨h111, h112⟩ := h110
                  exact ih51 ((x6_46, x7_46 + 1)) _ _ _ ⟨⟨rx6_46, r109⟩, h111⟩ h112 hP hD hS (lv_sub hl [0, 1, 3, 4, 5, 6, 7] rfl)
                · have h113 := h104.1 c105
                  refine lv_iconst (v := iI 1) hx hb dL_begin_108 rfl ?_
                  refine lv_goto (tgt := 113) hx hb dL_begin_109 (by decide) ?_
                  refine lv_istore (lv' := [(8, .int (iI 1)), (7, .int (iI x7_46)), (6, .int (iI x6_46)), (5, .int (iI x5_27)), (0, .ref n_a0), (1, .ref l_a0), (2, .ref d_a0), (3, .ref t_a0)]) hx hb dL_begin_113 hl (by decide) rfl (fun ls hl => ?_)
                  refine lv_iload hx hb dL_begin_115 (lv_at hl 0 rfl) ?_
                  refine zr_if_eq (tgt := 125) (x := 1) hx hb rg_1 dL_begin_117 (by decide) (fun c => absurd c (by decide)) (fun _ => ?_)
                  refine lv_iload hx hb dL_begin_120 (lv_at hl 1 rfl) ?_
                  refine lv_goto (tgt := 127) hx hb dL_begin_122 (by decide) ?_
                  refine lv_istore (lv' := [(6, .int (iI x7_46)), (8, .int (iI 1)), (7, .int (iI x7_46)), (5, .int (iI x5_27)), (0, .ref n_a0), (1, .ref l_a0), (2, .ref d_a0), (3, .ref t_a0)]) hx hb dL_begin_127 hl (by decide) rfl (fun ls hl => ?_)
                  obtain ⟨r114, h115⟩ := h113
                  refine zr_iinc (x := x7_46) (lv' := [(7, .int (iI (x7_46 + 1))), (6, .int (iI x7_46)), (8, .int (iI 1)), (5, .int (iI x5_27)), (0, .ref n_a0), (1, .ref l_a0), (2, .ref d_a0), (3, .ref t_a0)]) hx hb dL_begin_129 hl (k := 2) rfl (by decide) rfl (fun ls hl => ?_)
                  refine lv_goto (tgt := 54) hx hb dL_begin_132 (by decide) ?_
                  obtain ⟨h116, h117⟩ := h115
                  exact ih51 ((x7_46, x7_46 + 1)) _ _ _ ⟨⟨rx7_46, r114⟩, h116⟩ h117 hP hD hS (lv_sub hl [0, 1, 3, 4, 5, 6, 7] rfl)
  · intro J24
    refine zr_icmp_le (tgt := 33) (x := kdZ l_x d_x (0 : Int) (t_x 10).toNat) (y := waysZ (t_x 0)) hx hb r7 r12 dL_begin_21 (by decide) (fun c14 => ?_) (fun c14 => ?_)
    · have h17 := h13.2 c14
      refine lv_iload hx hb dL_begin_33 (lv_at hl 0 rfl) ?_
      have e0_J24 : ((if (waysZ (t_x 0)) < (kdZ l_x d_x (0 : Int) (t_x 10).toNat) then waysZ (t_x 0) else kdZ l_x d_x (0 : Int) (t_x 10).toNat) : Int) = kdZ l_x d_x (0 : Int) (t_x 10).toNat := (if_neg c14)
      have J9 := J24 _ _ _ (by (try rw [e0_J24]); exact hP) (by (try rw [e0_J24]); exact hD) hS (by (try rw [e0_J24]); exact lv_sub hl [1, 2, 3, 4] rfl) (by rw [show ((if (waysZ (t_x 0)) < (kdZ l_x d_x (0 : Int) (t_x 10).toNat) then waysZ (t_x 0) else kdZ l_x d_x (0 : Int) (t_x 10).toNat) : Int) = kdZ l_x d_x (0 : Int) (t_x 10).toNat from (if_neg c14)]; exact r7)
      (try rw [e0_J24] at J9)
      exact J9
    · have h18 := h13.1 c14
      refine lv_aload_n hx hb dL_begin_24 rfl (lv_at hl 4 rfl) ?_
      refine lv_iconst (v := iI 0) hx hb dL_begin_25 rfl ?_
      refine zr_iald (n := 12) (f := t_x) (i := 0) hx hb hK hP 3 rfl rg_0 ⟨by decide, by decide⟩ dL_begin_26 ?_
      refine zc_si (As := [.int (iI (t_x 0))]) (rest := [.int (iI 6), .ref t_a0]) (c_L_ways l G (t_x 0) (r_t_x 0) b8) ⟨hx, hb, hml, hown, hts⟩ (va_cwS 1 hts gL_begin_L_ways rfl rfl rfl hdL_ways ⟨Nat.le_of_ble_eq_true rfl, Nat.le_of_ble_eq_true rfl⟩) hK hP hD hS hA rfl hl.1 rfl (Nat.le_of_ble_eq_true rfl) dL_begin_27 ⟨Nat.zero_le _, Nat.zero_le _⟩ (fun z20 H locs hw hP hD hS => ?_)
      obtain ⟨rfl, r21⟩ := hw
      have hP : va_P G.1 vwCl (flt [[(n_a0, eI G 64 n_x)], [(l_a0, eI G 64 l_x)], [(d_a0, eI G 64 d_x)], [(t_a0, eI G 12 t_x)]]) H := hP
      have hD : va_D A (flt [[(n_a0, eI G 64 n_x)], [(l_a0, eI G 64 l_x)], [(d_a0, eI G 64 d_x)], [(t_a0, eI G 12 t_x)]]) := hD
      refine lv_goto (tgt := 35) hx hb dL_begin_30 (by decide) ?_
      have e0_J24 : ((if (waysZ (t_x 0)) < (kdZ l_x d_x (0 : Int) (t_x 10).toNat) then waysZ (t_x 0) else kdZ l_x d_x (0 : Int) (t_x 10).toNat) : Int) = waysZ (t_x 0) := (if_pos c14)
      have J9 := J24 _ _ _ (by (try rw [e0_J24]); exact hP) (by (try rw [e0_J24]); exact hD) hS (by (try rw [e0_J24]); exact lv_sub hl [1, 2, 3, 4] rfl) (by rw [show ((if (waysZ (t_x 0)) < (kdZ l_x d_x (0 : Int) (t_x 10).toNat) then waysZ (t_x 0) else kdZ l_x d_x (0 : Int) (t_x 10).toNat) : Int) = waysZ (t_x 0) from (if_pos c14)]; exact r21)
      (try rw [e0_J24] at J9)
      exact J9
theorem c_L_begin (l : Launch) (G : ZG) (n_a0 : Nat) (l_a0 : Nat) (d_a0 : Nat) (t_a0 : Nat) (n_x : Int → Int) (l_x : Int → Int) (d_x : Int → Int) (t_x : Int → Int)  (fg : Int → Int) (mg : Int → Int) (kg : Int → Int) (z : Int → Int) (r_n_x : rgA n_x) (r_l_x : rgA l_x) (r_d_x : rgA d_x) (r_t_x : rgA t_x)  (p0 : LV fg n_x l_x d_x mg kg t_x z) (p1 : Vz z) (p2 : z 5 = 0 ∧ z 2 = 0 ∧ 2 ≤ begN z ∧ z 8 + 1 ≤ 2000000000) : ZV l G yL_begin wsL_begin 1 26 [.ref n_a0, .ref l_a0, .ref d_a0, .ref t_a0] (flt [[(n_a0, eI G 64 n_x)], [(l_a0, eI G 64 l_x)], [(d_a0, eI G 64 d_x)], [(t_a0, eI G 12 t_x)]]) (fun u : (Int → Int) × (Int → Int) × (Int → Int) × (Int → Int) => flt [[(n_a0, eI G 64 u.1)], [(l_a0, eI G 64 u.2.1)], [(d_a0, eI G 64 u.2.2.1)], [(t_a0, eI G 12 u.2.2.2)]]) (fun (u : (Int → Int) × (Int → Int) × (Int → Int) × (Int → Int)) => rgA u.1 ∧ rgA u.2.1 ∧ rgA u.2.2.1 ∧ rgA u.2.2.2 ∧ (LV fg u.1 u.2.1 u.2.2.1 mg kg u.2.2.2 (begZ z))) :=
  c0_L_begin l G n_a0 l_a0 d_a0 t_a0 n_x l_x d_x t_x (fun n_x' l_x' d_x' t_x' => LV fg n_x' l_x' d_x' mg kg t_x' (begZ z)) r_n_x r_l_x r_d_x r_t_x  (sp_L_begin n_x l_x d_x t_x fg mg kg z r_n_x r_l_x r_d_x r_t_x  p0 p1 p2)
