def wp_L_grant (f_x : Int → Int) (n_x : Int → Int) (l_x : Int → Int) (d_x : Int → Int) (m_x : Int → Int) (k_x : Int → Int) (t_x : Int → Int) (size : Int) (P : Int → (Int → Int) → (Int → Int) → (Int → Int) → (Int → Int) → (Int → Int) → Prop) : Prop :=
  (((t_x 2) = 1) → (((size < (t_x 11)) → (∃ (g240 : Int → Int), (LV f_x n_x l_x d_x m_x k_x (uZ t_x 0 size) g240) ∧ ((Vb g240) ∧ ((g240 5 = 0 ∧ g240 4 + 1 ≤ 900000000 ∧ 0 ≤ g240 7 ∧ g240 7 + 120 ≤ 2000000000) ∧ (∀ (z254 : Int) (u_f_x248 : Int → Int) (u_n_x249 : Int → Int) (u_l_x250 : Int → Int) (u_d_x251 : Int → Int) (u_t_x252 : Int → Int), rg z254 → rgA u_f_x248 → rgA u_n_x249 → rgA u_l_x250 → rgA u_d_x251 → rgA u_t_x252 → (z254 = (if rowsAt g240 1 = 0 then -6 else g240 4) ∧ LV u_f_x248 u_n_x249 u_l_x250 u_d_x251 m_x k_x u_t_x252 (wriZ g240)) → (((z254 < 0) → (P 0 u_f_x248 u_n_x249 u_l_x250 u_d_x251 u_t_x252)) ∧ ((¬ (z254 < 0)) → (P 1 u_f_x248 u_n_x249 u_l_x250 u_d_x251 u_t_x252)))))))) ∧ ((¬ (size < (t_x 11))) → (P 0 f_x n_x l_x d_x (uZ t_x 0 size))))) ∧ ((¬ ((t_x 2) = 1)) → ((((t_x 5) = 0) → (P 0 f_x n_x l_x d_x (uZ t_x 0 size))) ∧ ((¬ ((t_x 5) = 0)) → ((0 ≤ (uZ t_x 0 size) 10 ∧ (uZ t_x 0 size) 10 ≤ 64) ∧ (((1 : Int) = 1) ∧ ((2 ≤ size ∧ size ≤ 20) ∧ ((((waysZ size) < (kdZ l_x d_x (1 : Int) ((uZ t_x 0 size) 10).toNat)) → (rg ((t_x 10) - 1) ∧ ((0 ≤ ((t_x 10) - 1) ∧ ((t_x 10) - 1) < 64) ∧ (((0 < (l_x ((t_x 10) - 1))) → (rg ((t_x 4) + 1) ∧ (∃ (I136 : (Int → Int) → (Int → Int) → (Int → Int) → Prop) (μ137 : (Int → Int) → (Int → Int) → (Int → Int) → Nat), I136 (uZ n_x ((t_x 10) - 1) (t_x 4)) (uZ d_x ((t_x 10) - 1) 0) (uZ (uZ t_x 0 size) 4 ((t_x 4) + 1)) ∧ ∀ (x1_135 : Int → Int) (x3_135 : Int → Int) (x6_135 : Int → Int), rgA x1_135 → rgA x3_135 → rgA x6_135 → I136 x1_135 x3_135 x6_135 → ((0 ≤ x6_135 10 ∧ x6_135 10 ≤ 64) ∧ (((0 < (kdZ l_x x3_135 (1 : Int) (x6_135 10).toNat)) → (∃ (I171 : Int → Int → (Int → Int) → (Int → Int) → (Int → Int) → Prop) (μ172 : Int → Int → (Int → Int) → (Int → Int) → (Int → Int) → Nat), I171 (-1) 0 x1_135 x3_135 x6_135 ∧ ∀ (x10_170 : Int) (x11_170 : Int) (x1_170 : Int → Int) (x3_170 : Int → Int) (x6_170 : Int → Int), rg x10_170 → rg x11_170 → rgA x1_170 → rgA x3_170 → rgA x6_170 → I171 x10_170 x11_170 x1_170 x3_170 x6_170 → (((x11_170 < (x6_170 10)) → ((0 ≤ x11_170 ∧ x11_170 < 64) ∧ ((((x3_170 x11_170) = 1) → (((0 < (l_x x11_170)) → (((x10_170 < 0) → (rg (x11_170 + 1) ∧ (I171 x11_170 (x11_170 + 1) x1_170 x3_170 x6_170 ∧ μ172 x11_170 (x11_170 + 1) x1_170 x3_170 x6_170 < μ172 x10_170 x11_170 x1_170 x3_170 x6_170))) ∧ ((¬ (x10_170 < 0)) → ((0 ≤ x10_170 ∧ x10_170 < 64) ∧ ((((x1_170 x11_170) < (x1_170 x10_170)) → (rg (x11_170 + 1) ∧ (I171 x11_170 (x11_170 + 1) x1_170 x3_170 x6_170 ∧ μ172 x11_170 (x11_170 + 1) x1_170 x3_170 x6_170 < μ172 x10_170 x11_170 x1_170 x3_170 x6_170))) ∧ ((¬ ((x1_170 x11_170) < (x1_170 x10_170))) → (rg (x11_170 + 1) ∧ (I171 x10_170 (x11_170 + 1) x1_170 x3_170 x6_170 ∧ μ172 x10_170 (x11_170 + 1) x1_170 x3_170 x6_170 < μ172 x10_170 x11_170 x1_170 x3_170 x6_170)))))))) ∧ ((¬ (0 < (l_x x11_170))) → (rg (x11_170 + 1) ∧ (I171 x10_170 (x11_170 + 1) x1_170 x3_170 x6_170 ∧ μ172 x10_170 (x11_170 + 1) x1_170 x3_170 x6_170 < μ172 x10_170 x11_170 x1_170 x3_170 x6_170))))) ∧ ((¬ ((x3_170 x11_170) = 1)) → (rg (x11_170 + 1) ∧ (I171 x10_170 (x11_170 + 1) x1_170 x3_170 x6_170 ∧ μ172 x10_170 (x11_170 + 1) x1_170 x3_170 x6_170 < μ172 x10_170 x11_170 x1_170 x3_170 x6_170)))))) ∧ ((¬ (x11_170 < (x6_170 10))) → ((0 ≤ x10_170 ∧ x10_170 < 64) ∧ (rg ((x6_170 4) + 1) ∧ (I136 (uZ x1_170 x10_170 (x6_170 4)) (uZ x3_170 x10_170 0) (uZ x6_170 4 ((x6_170 4) + 1)) ∧ μ137 (uZ x1_170 x10_170 (x6_170 4)) (uZ x3_170 x10_170 0) (uZ x6_170 4 ((x6_170 4) + 1)) < μ137 x1_135 x3_135 x6_135))))))) ∧ ((¬ (0 < (kdZ l_x x3_135 (1 : Int) (x6_135 10).toNat))) → (∃ (g152 : Int → Int) (g153 : Int → Int), (LF g152 x1_135 l_x x3_135 (x6_135 10) g153) ∧ (∀ (u_n_x157 : Int → Int) (u_l_x158 : Int → Int) (u_d_x159 : Int → Int) (u_t_x160 : Int → Int), rgA u_n_x157 → rgA u_l_x158 → rgA u_d_x159 → rgA u_t_x160 → ((∀ i, i ≠ 10 → u_t_x160 i = x6_135 i) ∧ (0 ≤ u_t_x160 10 ∧ u_t_x160 10 ≤ x6_135 10) ∧ LF g152 u_n_x157 u_l_x158 u_d_x159 (u_t_x160 10) g153 ∧ (∀ i, 0 ≤ i → i < u_t_x160 10 → 0 < u_l_x158 i ∧ ∃ j, (0 ≤ j ∧ j < x6_135 10) ∧ u_d_x159 i = x3_135 j ∧ 0 < l_x j)) → (rg ((u_t_x160 9) + 1) ∧ (rg ((u_t_x160 4) - (t_x 4)) ∧ (P ((u_t_x160 4) - (t_x 4)) f_x u_n_x157 u_l_x158 u_d_x159 (uZ (uZ u_t_x160 5 0) 9 ((u_t_x160 9) + 1))))))))))))) ∧ ((¬ (0 < (l_x ((t_x 10) - 1)))) → (∃ (I35 : (Int → Int) → (Int → Int) → (Int → Int) → Prop) (μ36 : (Int → Int) → (Int → Int) → (Int → Int) → Nat), I35 n_x (uZ d_x ((t_x 10) - 1) 0) (uZ t_x 0 size) ∧ ∀ (x1_34 : Int → Int) (x3_34 : Int → Int) (x6_34 : Int → Int), rgA x1_34 → rgA x3_34 → rgA x6_34 → I35 x1_34 x3_34 x6_34 → ((0 ≤ x6_34 10 ∧ x6_34 10 ≤ 64) ∧ (((0 < (kdZ l_x x3_34 (1 : Int) (x6_34 10).toNat)) → (∃ (I70 : Int → Int → (Int → Int) → (Int → Int) → (Int → Int) → Prop) (μ71 : Int → Int → (Int → Int) → (Int → Int) → (Int → Int) → Nat), I70 (-1) 0 x1_34 x3_34 x6_34 ∧ ∀ (x10_69 : Int) (x11_69 : Int) (x1_69 : Int → Int) (x3_69 : Int → Int) (x6_69 : Int → Int), rg x10_69 → rg x11_69 → rgA x1_69 → rgA x3_69 → rgA x6_69 → I70 x10_69 x11_69 x1_69 x3_69 x6_69 → (((x11_69 < (x6_69 10)) → ((0 ≤ x11_69 ∧ x11_69 < 64) ∧ ((((x3_69 x11_69) = 1) → (((0 < (l_x x11_69)) → (((x10_69 < 0) → (rg (x11_69 + 1) ∧ (I70 x11_69 (x11_69 + 1) x1_69 x3_69 x6_69 ∧ μ71 x11_69 (x11_69 + 1) x1_69 x3_69 x6_69 < μ71 x10_69 x11_69 x1_69 x3_69 x6_69))) ∧ ((¬ (x10_69 < 0)) → ((0 ≤ x10_69 ∧ x10_69 < 64) ∧ ((((x1_69 x11_69) < (x1_69 x10_69)) → (rg (x11_69 + 1) ∧ (I70 x11_69 (x11_69 + 1) x1_69 x3_69 x6_69 ∧ μ71 x11_69 (x11_69 + 1) x1_69 x3_69 x6_69 < μ71 x10_69 x11_69 x1_69 x3_69 x6_69))) ∧ ((¬ ((x1_69 x11_69) < (x1_69 x10_69))) → (rg (x11_69 + 1) ∧ (I70 x10_69 (x11_69 + 1) x1_69 x3_69 x6_69 ∧ μ71 x10_69 (x11_69 + 1) x1_69 x3_69 x6_69 < μ71 x10_69 x11_69 x1_69 x3_69 x6_69)))))))) ∧ ((¬ (0 < (l_x x11_69))) → (rg (x11_69 + 1) ∧ (I70 x10_69 (x11_69 + 1) x1_69 x3_69 x6_69 ∧ μ71 x10_69 (x11_69 + 1) x1_69 x3_69 x6_69 < μ71 x10_69 x11_69 x1_69 x3_69 x6_69))))) ∧ ((¬ ((x3_69 x11_69) = 1)) → (rg (x11_69 + 1) ∧ (I70 x10_69 (x11_69 + 1) x1_69 x3_69 x6_69 ∧ μ71 x10_69 (x11_69 + 1) x1_69 x3_69 x6_69 < μ71 x10_69 x11_69 x1_69 x3_69 x6_69)))))) ∧ ((¬ (x11_69 < (x6_69 10))) → ((0 ≤ x10_69 ∧ x10_69 < 64) ∧ (rg ((x6_69 4) + 1) ∧ (I35 (uZ x1_69 x10_69 (x6_69 4)) (uZ x3_69 x10_69 0) (uZ x6_69 4 ((x6_69 4) + 1)) ∧ μ36 (uZ x1_69 x10_69 (x6_69 4)) (uZ x3_69 x10_69 0) (uZ x6_69 4 ((x6_69 4) + 1)) < μ36 x1_34 x3_34 x6_34))))))) ∧ ((¬ (0 < (kdZ l_x x3_34 (1 : Int) (x6_34 10).toNat))) → (∃ (g51 : Int → Int) (g52 : Int → Int), (LF g51 x1_34 l_x x3_34 (x6_34 10) g52) ∧ (∀ (u_n_x56 : Int → Int) (u_l_x57 : Int → Int) (u_d_x58 : Int → Int) (u_t_x59 : Int → Int), rgA u_n_x56 → rgA u_l_x57 → rgA u_d_x58 → rgA u_t_x59 → ((∀ i, i ≠ 10 → u_t_x59 i = x6_34 i) ∧ (0 ≤ u_t_x59 10 ∧ u_t_x59 10 ≤ x6_34 10) ∧ LF g51 u_n_x56 u_l_x57 u_d_x58 (u_t_x59 10) g52 ∧ (∀ i, 0 ≤ i → i < u_t_x59 10 → 0 < u_l_x57 i ∧ ∃ j, (0 ≤ j ∧ j < x6_34 10) ∧ u_d_x58 i = x3_34 j ∧ 0 < l_x j)) → (rg ((u_t_x59 9) + 1) ∧ (rg ((u_t_x59 4) - (t_x 4)) ∧ (P ((u_t_x59 4) - (t_x 4)) f_x u_n_x56 u_l_x57 u_d_x58 (uZ (uZ u_t_x59 5 0) 9 ((u_t_x59 9) + 1)))))))))))))))) ∧ ((¬ ((waysZ size) < (kdZ l_x d_x (1 : Int) ((uZ t_x 0 size) 10).toNat))) → (P 0 f_x n_x l_x d_x (uZ t_x 0 size))))))))))
set_option maxHeartbeats 4000000 in
theorem sp_L_grant (f_x : Int → Int) (n_x : Int → Int) (l_x : Int → Int) (d_x : Int → Int) (m_x : Int → Int) (k_x : Int → Int) (t_x : Int → Int) (size : Int) (z : Int → Int) (r_f_x : rgA f_x) (r_n_x : rgA n_x) (r_l_x : rgA l_x) (r_d_x : rgA d_x) (r_m_x : rgA m_x) (r_k_x : rgA k_x) (r_t_x : rgA t_x) (r_size : rg size) (p0 : LV f_x n_x l_x d_x m_x k_x t_x z) (p1 : Vz z) (p2 : 2 ≤ size ∧ size ≤ 20) (p3 : Bd z 50000) : wp_L_grant f_x n_x l_x d_x m_x k_x t_x size (fun r f_x' n_x' l_x' d_x' t_x' => r = graA z size ∧ LV f_x' n_x' l_x' d_x' m_x k_x t_x' (graZ z size)) := by
  unfold wp_L_grant
  obtain ⟨B4, B7, B8, B9⟩ := p3
  have hb := p1.1
  have hz3 := hb.1
  have hz4 := hb.2.2.1
  have h120 := hb.2.1
  have hS := (LV_sum hb p0).1
  have hN := LV_size (v := size) p0
  have m1 := runs_rows (kind := 1) hb
  have m0 := (manyZ_nn (z := z) (k := 1) hz4).1
  have hG := (graZ_Vz p1 p2 (by omega)).1
  have p0' := p0
  obtain ⟨⟨t0, t1, t2, t3, t4, t5, t7, t8, t9, t6⟩, hk, hm, hF, hX, hT, h56⟩ := p0'
  have p1' := p1
  obtain ⟨_, ⟨v0, v1, v2, v5, v6, v7, v8, v9⟩, _, _, vc, _, _, _, _, _⟩ := p1'
  have hr := RMm_len hm hz3
  have hm0 := hm.1
  have hbs : Vb (uZ z 0 size) := Vb_lo hb (by omega) (by omega) (by omega)
  have rs : ∀ p, rowsAt (uZ z 0 size) p = rowsAt z p := fun p => rowsAt_lo (by omega) (by omega)
  have ms : manyZ (uZ z 0 size) 1 = manyZ z 1 := manyZ_lo (by omega) (by omega) (by omega)
  have Z : ∀ i, i ≠ 0 → uZ z 0 size i = z i := fun i hi => uZ_ne hi
  have y4 := Z 4 (by omega)
  have all0 := (sumI_0n hF.1 hT.1 (Int.le_refl _)).1
  refine ⟨fun c => ⟨fun c2 => ⟨uZ z 0 size, hN, hbs, ?_, fun z' uf un ul ud ut _ _ _ _ _ _ ⟨e, hw⟩ => ?_⟩, fun c2 => ?_⟩, fun c => ⟨fun c5 => ?_, fun c5 => ?_⟩⟩
  · rw [Z 5 (by omega), y4, Z 7 (by omega)]
    exact ⟨(vc (by omega)).1, by omega, by omega, by omega⟩
  · rw [rs, y4, if_neg (by omega)] at e
    have eg : graZ z size = wriZ (uZ z 0 size) := if_pos ⟨by omega, by omega⟩
    have ea : graA z size = 1 := if_pos ⟨by omega, by omega⟩
    exact ⟨fun q => by omega, fun q => ⟨by rw [ea], by rw [eg]; exact hw⟩⟩
  · have := (vc (by omega)).1
    have eg : graZ z size = uZ z 0 size := by unfold graZ; rw [if_neg (by omega), if_neg (by omega)]
    have ea : graA z size = 0 := by unfold graA; rw [if_neg (by omega), if_neg (by omega)]
    exact ⟨by rw [ea], by rw [eg]; exact hN⟩
  · have eg : graZ z size = uZ z 0 size := by unfold graZ; rw [if_neg (by omega), if_neg (by omega)]
    have ea : graA z size = 0 := by unfold graA; rw [if_neg (by omega), if_neg (by omega)]
    exact ⟨by rw [ea], by rw [eg]; exact hN⟩
  have g5 : z 5 = 1 := by omega
  have g2 : z 2 = 0 := by omega
  have t11 := LV_t11 p1 g2 p0
  obtain ⟨x1, x2, x3⟩ := hX.2 g5
  have hFs := hN.2.2.2.1
  have u10 : uZ t_x 0 size 10 = t_x 10 := uZ_ne (by omega)
  rw [u10] at hFs ⊢
  have kd := LF_kinds hb hF (kind := 1) (Or.inr rfl)
  have hB : uZ z 0 size 4 + 1 + manyZ (uZ z 0 size) 1 ≤ 900000000 := by rw [y4, ms]; omega
  have rl2 : 0 < l_x (t_x 10 - 1) → rowsAt z 2 = l_x (t_x 10 - 1) := fun q => by
    have := LF_len hF hz3 (i := t_x 10 - 1) (by omega) q
    rw [pF_2 x2] at this
    exact this
  have d01 : ∀ i, 0 ≤ i → i < t_x 10 → uZ d_x (t_x 10 - 1) 0 i = 0 ∨ uZ d_x (t_x 10 - 1) 0 i = 1 := fun i a b => by
    by_cases w : i = t_x 10 - 1
    · rw [w, uZ_at]; exact Or.inl rfl
    · rw [uZ_ne w]
      rcases x3 i a (by omega) with v | ⟨v, _⟩
      · exact Or.inr v
      · exact Or.inl v
  have initA : 0 < l_x (t_x 10 - 1) → CI (uZ z 0 size) f_x l_x (t_x 10) (uZ n_x (t_x 10 - 1) (t_x 4)) (uZ d_x (t_x 10 - 1) 0) (uZ (uZ t_x 0 size) 4 (t_x 4 + 1)) 0 := fun q => by
    have r2 := rl2 q
    have w := LF_close hbs hFs (a := t_x 10 - 1) (by omega) q
    have e0 : ctF (uZ z 0 size) 0 = becm (uZ z 0 size) 2 := by rw [ctF_0, if_pos (by rw [rs, r2]; exact q)]
    rw [pF_2 x2, ← e0, y4, ← t4] at w
    refine ⟨by omega, w, by rw [uZ_at, e0, becm_4, y4, t4], d01, fun i a b e g => ?_⟩
    by_cases v : i = t_x 10 - 1
    · rw [v, uZ_at]; omega
    · rw [uZ_ne v] at e ⊢
      exact ((hF.2.1 i a b g).2.1 (by omega)).1
  have initB : ¬ 0 < l_x (t_x 10 - 1) → CI (uZ z 0 size) f_x l_x (t_x 10) n_x (uZ d_x (t_x 10 - 1) 0) (uZ t_x 0 size) 0 := fun q => by
    have lz := hF.1 (t_x 10 - 1) (by omega) (by omega)
    have e0 : ctF (uZ z 0 size) 0 = uZ z 0 size := by
      rw [ctF_0, if_neg]
      rw [rs]
      intro w
      obtain ⟨x, a1, a2, a3⟩ := rowsAt_pos.mp w
      obtain ⟨i, i1, i2, i3, i4⟩ := hF.2.2.2 x a1 a2 (by omega)
      have ii : i ≠ t_x 10 - 1 := fun v => by rw [v] at i3; exact q i3
      have nd : d_x i ≠ 2 := by rcases x3 i i1 (by omega) with v | ⟨v, _⟩ <;> omega
      obtain ⟨b1, b2, _⟩ := hF.2.1 i i1 i2 i3
      have := b2 nd
      rw [pF_n nd] at i4
      omega
    refine ⟨by omega, ?_, by rw [e0, uZ_ne (by omega), y4, t4], d01, fun i a b e g => ?_⟩
    · rw [e0]
      exact LF_cong hFs (fun _ _ _ => rfl) (fun i a b => ⟨rfl, fun g => ⟨rfl, uZ_ne (fun v => by rw [v] at g; exact q g)⟩⟩)
    · by_cases v : i = t_x 10 - 1
      · rw [v] at g; exact absurd g q
      · rw [uZ_ne v] at e
        exact ((hF.2.1 i a b g).2.1 (by omega)).1
  refine ⟨by omega, rfl, p2, fun c6 => ⟨by unfold rg; omega, by omega, fun c7 => ⟨by unfold rg; omega, ?_⟩, fun c7 => ?_⟩, fun c6 => ?_⟩
  rotate_left 2
  · have eg : graZ z size = uZ z 0 size := by unfold graZ; rw [if_neg (by omega), if_neg (by omega)]
    have ea : graA z size = 0 := by unfold graA; rw [if_neg (by omega), if_neg (by omega)]
    exact ⟨by rw [ea], by rw [eg]; exact hN⟩
  all_goals
    refine ⟨fun n' d' t' => (∃ K, CI (uZ z 0 size) f_x l_x (t_x 10) n' d' t' K) ∧ ∀ i, i ≠ 4 → t' i = uZ t_x 0 size i, fun _ _ t' => (z 4 + 2 + manyZ z 1 - t' 4).toNat, ⟨⟨0, by first | exact initA c7 | exact initB c7⟩, fun i hi => by first | exact uZ_ne hi | rfl⟩, ?_⟩
    intro n' d' t' rn rd rt ⟨⟨K, hC⟩, hT'⟩
    have e10 : t' 10 = t_x 10 := by rw [hT' 10 (by omega)]; exact uZ_ne (by omega)
    have le4 := ct_le hbs hC.1.1 hC.1.2
    rw [← hC.2.2.1, y4, ms] at le4
    rw [e10]
    refine ⟨by omega, fun c8 => ?_, fun c8 => ?_⟩
    · refine ⟨fun fm i n2 d2 t2' => (0 ≤ i ∧ i ≤ t_x 10) ∧ (n2 = n' ∧ d2 = d' ∧ t2' = t') ∧ ((fm = -1 ∧ ∀ j, 0 ≤ j → j < i → d' j = 1 → ¬ 0 < l_x j) ∨ ((0 ≤ fm ∧ fm < i) ∧ d' fm = 1 ∧ 0 < l_x fm ∧ ∀ j, 0 ≤ j → j < i → d' j = 1 → 0 < l_x j → n' fm ≤ n' j)), fun _ i _ _ _ => (t_x 10 - i).toNat, ⟨by omega, ⟨rfl, rfl, rfl⟩, Or.inl ⟨rfl, fun j a b => by omega⟩⟩, ?_⟩
      intro fm i n2 d2 t2' rfm ri rn2 rd2 rt2 ⟨i0, ⟨en, ed, et⟩, hi⟩
      rw [en, ed, et, e10]
      refine ⟨fun c1 => ⟨by omega, fun c2 => ⟨fun c3 => ⟨fun c4 => ⟨by unfold rg; omega, ⟨by omega, ⟨rfl, rfl, rfl⟩, Or.inr ⟨by omega, c2, c3, fun j a b e g => ?_⟩⟩, by dsimp only; omega⟩, fun c4 => ?_⟩, fun c3 => ⟨by unfold rg; omega, ⟨by omega, ⟨rfl, rfl, rfl⟩, ?_⟩, by dsimp only; omega⟩⟩, fun c2 => ⟨by unfold rg; omega, ⟨by omega, ⟨rfl, rfl, rfl⟩, ?_⟩, by dsimp only; omega⟩⟩, fun c1 => ?_⟩
      · rcases hi with ⟨_, w⟩ | ⟨w, _⟩
        · by_cases v : j = i
          · rw [v]; exact Int.le_refl _
          · exact absurd g (w j a (by omega) e)
        · omega
      · rcases hi with ⟨w, _⟩ | ⟨w, w1, w2, w3⟩
        · omega
        · refine ⟨by omega, fun c5' => ⟨by unfold rg; omega, ⟨by omega, ⟨rfl, rfl, rfl⟩, Or.inr ⟨by omega, c2, c3, fun j a b e g => ?_⟩⟩, by dsimp only; omega⟩, fun c5' => ⟨by unfold rg; omega, ⟨by omega, ⟨rfl, rfl, rfl⟩, Or.inr ⟨by omega, w1, w2, fun j a b e g => ?_⟩⟩, by dsimp only; omega⟩⟩
          · by_cases v : j = i
            · rw [v]; exact Int.le_refl _
            · have := w3 j a (by omega) e g
              omega
          · by_cases v : j = i
            · rw [v]; omega
            · exact w3 j a (by omega) e g
      · rcases hi with ⟨w, w1⟩ | ⟨w, w1, w2, w3⟩
        · exact Or.inl ⟨w, fun j a b e => by
            by_cases v : j = i
            · rw [v]; exact c3
            · exact w1 j a (by omega) e⟩
        · exact Or.inr ⟨by omega, w1, w2, fun j a b e g => by
            by_cases v : j = i
            · rw [v] at g; exact absurd g c3
            · exact w3 j a (by omega) e g⟩
      · rcases hi with ⟨w, w1⟩ | ⟨w, w1, w2, w3⟩
        · exact Or.inl ⟨w, fun j a b e => by
            by_cases v : j = i
            · rw [v] at e; exact absurd e c2
            · exact w1 j a (by omega) e⟩
        · exact Or.inr ⟨by omega, w1, w2, fun j a b e g => by
            by_cases v : j = i
            · rw [v] at e; exact absurd e c2
            · exact w3 j a (by omega) e g⟩
      · rcases hi with ⟨_, w1⟩ | ⟨w, w1, w2, w3⟩
        · unfold kdZ at c8
          obtain ⟨j, j1, j2⟩ := (cnt_pos (P := fun i => d' i = 1 ∧ 0 < l_x i)).mp c8
          exact absurd j2.2 (w1 j (by omega) (by omega) j2.1)
        · obtain ⟨q1, q2⟩ := CI_step hbs hB hC (a := fm) ⟨w.1, by omega⟩ w1 w2 (fun j a b e g => w3 j a (by omega) e g)
          rw [y4, ms] at q2
          exact ⟨by omega, by unfold rg; omega, ⟨⟨_, q1⟩, fun j hj => by rw [uZ_ne hj]; exact hT' j hj⟩, by dsimp only; rw [uZ_at]; omega⟩
    · have r0 : kdZ l_x d' 1 (t_x 10).toNat = 0 := by
        have : 0 ≤ kdZ l_x d' 1 (t_x 10).toNat := sumI_nn (fun _ _ => pz_nn _)
        omega
      have ce := CI_end hbs hC r0
      refine ⟨f_x, ctF (uZ z 0 size) K, hC.2.1, fun un ul ud ut _ _ _ _ ⟨u1, u2, u3, u4⟩ => ?_⟩
      have eg : graZ z size = cutZ (uZ z 0 size) := by unfold graZ; rw [if_neg (by omega), if_pos ⟨g5, by omega⟩]
      have ea : graA z size = pz (0 < rowsAt z 2) + manyZ z 1 := by unfold graA; rw [if_neg (by omega), if_pos ⟨g5, by omega⟩]
      have ec := ctF_end hbs
      rw [← ce] at ec
      have k4 : ctF (uZ z 0 size) K 4 = z 4 + pz (0 < rowsAt z 2) + manyZ z 1 := by
        rw [ce, ctF_4, y4, rs]
        have : sumI (fun k => pz (0 < rowsAt (uZ z 0 size) (10 + 2 * k + 1))) (z 4).toNat = manyZ z 1 := by
          rw [← ms]
          unfold manyZ
          rw [y4]
        rw [this]
      have v4 : ut 4 = z 4 + pz (0 < rowsAt z 2) + manyZ z 1 := by rw [u1 4 (by omega), hC.2.2.1, k4]
      have v1' : ∀ i, i ≠ 10 → i ≠ 4 → ut i = uZ t_x 0 size i := fun i a b => by rw [u1 i a, hT' i b]
      have v9' : ut 9 = z 9 := by rw [v1' 9 (by omega) (by omega), uZ_ne (by omega), t9]
      have po := pz_01 (0 < rowsAt z 2)
      have cl : ∀ i, i < 250 → i ≠ 4 → i ≠ 5 → i ≠ 9 → graZ z size i = uZ z 0 size i := fun i a b e g => by rw [eg]; exact cutZ_lo a b e g
      have c3' : graZ z size 3 = z 3 := by rw [cl 3 (by omega) (by omega) (by omega) (by omega)]; exact Z 3 (by omega)
      refine ⟨by unfold rg; omega, by unfold rg; omega, by rw [ea]; omega, ?_⟩
      refine LV_done hG (by rw [eg]; exact cutZ_5) (by rw [cl 2 (by omega) (by omega) (by omega) (by omega), Z 2 (by omega)]; exact g2) (by omega) ?_ (by rw [uZ_ne (by omega), uZ_ne (by omega)]; exact u2.1) (fun i a b => ?_) ⟨?_, ?_, ?_, ?_, ?_, ?_, ?_, ?_, ?_, fun q => ?_⟩ (by rw [uZ_ne (by omega), uZ_ne (by omega), v1' 11 (by omega) (by omega), uZ_ne (by omega)]; exact t11) (fun r a b => ?_)
      · rw [uZ_ne (by omega), uZ_ne (by omega), eg, ← ec]
        exact LF_z u3 (by rw [uZ_ne (by omega), uZ_ne (by omega)]; exact Int.le_refl _) (fun r r0 r1 _ => ⟨by rw [uZ_ne (by omega), uZ_ne (by omega)]; exact r1, by rw [uZ_ne (by omega), uZ_ne (by omega)]⟩) (fun r r0 r1 _ => ⟨by rw [uZ_ne (by omega), uZ_ne (by omega)] at r1; exact r1, by rw [uZ_ne (by omega), uZ_ne (by omega)]⟩) (fun r r0 r1 => by rw [uZ_ne (by omega), uZ_ne (by omega)])
      · rw [uZ_ne (by omega), uZ_ne (by omega)] at b
        obtain ⟨w1, j, j1, j2, j3⟩ := u4 i a b
        refine ⟨?_, w1⟩
        rw [j2]
        rcases hC.2.2.2.1 j j1.1 (by omega) with v | v
        · exact v
        · exfalso
          unfold kdZ at r0
          have := sumI_eq0 (f := fun i => pz (d' i = 1 ∧ 0 < l_x i)) (fun _ _ => pz_nn _) r0 j.toNat (by omega)
          rw [show ((j.toNat : Nat) : Int) = j by omega] at this
          exact pz_0 this ⟨v, j3⟩
      · rw [uZ_ne (by omega), uZ_ne (by omega), v1' 0 (by omega) (by omega), uZ_at, cl 0 (by omega) (by omega) (by omega) (by omega), uZ_at]
      · rw [uZ_ne (by omega), uZ_ne (by omega), v1' 1 (by omega) (by omega), uZ_ne (by omega), cl 1 (by omega) (by omega) (by omega) (by omega), Z 1 (by omega)]; exact t1
      · rw [uZ_ne (by omega), uZ_ne (by omega), v1' 2 (by omega) (by omega), uZ_ne (by omega), cl 2 (by omega) (by omega) (by omega) (by omega), Z 2 (by omega)]; exact t2
      · rw [uZ_ne (by omega), uZ_ne (by omega), v1' 3 (by omega) (by omega), uZ_ne (by omega), c3']; exact t3
      · rw [uZ_ne (by omega), uZ_ne (by omega), v4, eg, cutZ_4, y4, rs, ms]
      · rw [uZ_ne (by omega), uZ_at, eg, cutZ_5]
      · rw [uZ_ne (by omega), uZ_ne (by omega), v1' 7 (by omega) (by omega), uZ_ne (by omega), cl 7 (by omega) (by omega) (by omega) (by omega), Z 7 (by omega)]; exact t7
      · rw [uZ_ne (by omega), uZ_ne (by omega), v1' 8 (by omega) (by omega), uZ_ne (by omega), cl 8 (by omega) (by omega) (by omega) (by omega), Z 8 (by omega)]; exact t8
      · rw [uZ_at, v9', eg, cutZ_9, Z 9 (by omega)]
      · rw [eg, cutZ_5] at q; omega
      · rw [c3'] at b
        rw [cl _ (by omega) (by omega) (by omega) (by omega), Z _ (by omega)]; exact hk r a b
