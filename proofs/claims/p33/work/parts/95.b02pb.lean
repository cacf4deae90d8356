def wp_L_clean (n_x : Int → Int) (l_x : Int → Int) (d_x : Int → Int) (t_x : Int → Int)  (P : (Int → Int) → (Int → Int) → (Int → Int) → (Int → Int) → Prop) : Prop :=
  ∃ (I2 : Int → Int → (Int → Int) → (Int → Int) → (Int → Int) → Prop) (μ3 : Int → Int → (Int → Int) → (Int → Int) → (Int → Int) → Nat), I2 0 0 n_x l_x d_x ∧ ∀ (x4_1 : Int) (x5_1 : Int) (x0_1 : Int → Int) (x1_1 : Int → Int) (x2_1 : Int → Int), rg x4_1 → rg x5_1 → rgA x0_1 → rgA x1_1 → rgA x2_1 → I2 x4_1 x5_1 x0_1 x1_1 x2_1 → (((x5_1 < (t_x 10)) → ((0 ≤ x5_1 ∧ x5_1 < 64) ∧ (((0 < (x1_1 x5_1)) → ((0 ≤ x4_1 ∧ x4_1 < 64) ∧ (rg (x4_1 + 1) ∧ (rg (x5_1 + 1) ∧ (I2 (x4_1 + 1) (x5_1 + 1) (uZ x0_1 x4_1 (x0_1 x5_1)) (uZ x1_1 x4_1 (x1_1 x5_1)) (uZ x2_1 x4_1 (x2_1 x5_1)) ∧ μ3 (x4_1 + 1) (x5_1 + 1) (uZ x0_1 x4_1 (x0_1 x5_1)) (uZ x1_1 x4_1 (x1_1 x5_1)) (uZ x2_1 x4_1 (x2_1 x5_1)) < μ3 x4_1 x5_1 x0_1 x1_1 x2_1))))) ∧ ((¬ (0 < (x1_1 x5_1))) → (rg (x5_1 + 1) ∧ (I2 x4_1 (x5_1 + 1) x0_1 x1_1 x2_1 ∧ μ3 x4_1 (x5_1 + 1) x0_1 x1_1 x2_1 < μ3 x4_1 x5_1 x0_1 x1_1 x2_1)))))) ∧ ((¬ (x5_1 < (t_x 10))) → (P x0_1 x1_1 x2_1 (uZ t_x 10 x4_1))))
set_option maxHeartbeats 4000000 in
theorem sp_L_clean (n_x : Int → Int) (l_x : Int → Int) (d_x : Int → Int) (t_x : Int → Int)  (fg : Int → Int) (z : Int → Int) (r_n_x : rgA n_x) (r_l_x : rgA l_x) (r_d_x : rgA d_x) (r_t_x : rgA t_x)  (p0 : LF fg n_x l_x d_x (t_x 10) z) (p1 : 0 ≤ t_x 10 ∧ t_x 10 ≤ 64) : wp_L_clean n_x l_x d_x t_x (fun n_x' l_x' d_x' t_x' => (∀ i, i ≠ 10 → t_x' i = t_x i) ∧ (0 ≤ t_x' 10 ∧ t_x' 10 ≤ t_x 10) ∧ LF fg n_x' l_x' d_x' (t_x' 10) z ∧ (∀ i, 0 ≤ i → i < t_x' 10 → 0 < l_x' i ∧ ∃ j, (0 ≤ j ∧ j < t_x 10) ∧ d_x' i = d_x j ∧ 0 < l_x j)) := by
  unfold wp_L_clean
  refine ⟨fun to i n l d => ((0 ≤ to ∧ to ≤ i) ∧ i ≤ t_x 10) ∧ LF fg (hy n to i) (hy l to i) (hy d to i) (to + (t_x 10 - i)) z ∧ (∀ q, 0 ≤ q → q < to → 0 < l q ∧ ∃ j, (0 ≤ j ∧ j < t_x 10) ∧ d q = d_x j ∧ 0 < l_x j) ∧ ∀ q, i ≤ q → l q = l_x q ∧ d q = d_x q, fun _ i _ _ _ => (t_x 10 - i).toNat, ⟨by omega, ?_, fun q a b => by omega, fun q _ => ⟨rfl, rfl⟩⟩, ?_⟩
  · rw [show (0 : Int) + (t_x 10 - 0) = t_x 10 by omega]
    have e : ∀ (x : Int → Int) (q : Int), 0 ≤ q → hy x 0 0 q = x q := fun x q a => by unfold hy; rw [if_neg (by omega), show q - 0 + 0 = q by omega]
    exact LF_cong p0 (fun _ _ _ => rfl) (fun q a b => ⟨e _ q a, fun _ => ⟨e _ q a, e _ q a⟩⟩)
  intro to i n l d rto ri rn rl rd ⟨⟨h1, h2⟩, h3, h4, h5⟩
  refine ⟨fun c => ⟨by omega, fun c2 => ⟨by omega, by unfold rg; omega, by unfold rg; omega, ⟨by omega, ?_, fun q a b => ?_, fun q a => ?_⟩, by dsimp only; omega⟩, fun c2 => ⟨by unfold rg; omega, ⟨by omega, ?_, h4, fun q a => h5 q (by omega)⟩, by dsimp only; omega⟩⟩, fun c => ?_⟩
  · have e : ∀ (x : Int → Int) (q : Int), hy (uZ x to (x i)) (to + 1) (i + 1) q = hy x to i q := fun x q => hy_step h1.2
    rw [show to + 1 + (t_x 10 - (i + 1)) = to + (t_x 10 - i) by omega]
    exact LF_cong h3 (fun _ _ _ => rfl) (fun q a b => ⟨e _ q, fun _ => ⟨e _ q, e _ q⟩⟩)
  · by_cases w : q = to
    · obtain ⟨u1, u2⟩ := h5 i (Int.le_refl _)
      rw [w, uZ_at, uZ_at]
      exact ⟨c2, i, by omega, u2, by rw [← u1]; exact c2⟩
    · rw [uZ_ne w, uZ_ne w]; exact h4 q a (by omega)
  · rw [uZ_ne (by omega), uZ_ne (by omega)]; exact h5 q (by omega)
  · have l0 : hy l to i to = l i := by unfold hy; rw [if_neg (by omega), show to - to + i = i by omega]
    have ge := h3.1 to h1.1 (by omega)
    rw [l0] at ge
    have q := LF_drop (n' := hy n to (i + 1)) (l' := hy l to (i + 1)) (d' := hy d to (i + 1)) h3 (a := to) ⟨h1.1, by omega⟩ (by rw [l0]; omega) (fun q a b => by
      have e1 : ∀ x : Int → Int, q < to → hy x to (i + 1) q = hy x to i q := fun x w => by unfold hy; rw [if_pos w, if_pos w]
      have e2 : ∀ x : Int → Int, to ≤ q → hy x to (i + 1) q = hy x to i (q + 1) := fun x w => by unfold hy; rw [if_neg (by omega), if_neg (by omega), show q - to + (i + 1) = q + 1 - to + i by omega]
      exact ⟨fun w => ⟨e1 _ w, e1 _ w, e1 _ w⟩, fun w => ⟨e2 _ w, e2 _ w, e2 _ w⟩⟩)
    rw [show to + (t_x 10 - (i + 1)) = to + (t_x 10 - i) - 1 by omega]
    exact q
  · have iT : i = t_x 10 := by omega
    rw [iT, show to + (t_x 10 - t_x 10) = to by omega] at h3
    refine ⟨fun j hj => uZ_ne hj, ?_⟩
    rw [uZ_at]
    have e : ∀ (x : Int → Int) (q : Int), q < to → x q = hy x to (t_x 10) q := fun x q w => by unfold hy; rw [if_pos w]
    exact ⟨by omega, LF_cong h3 (fun _ _ _ => rfl) (fun q a b => ⟨e _ q b, fun _ => ⟨e _ q b, e _ q b⟩⟩), h4⟩
def wp_L_begin (n_x : Int → Int) (l_x : Int → Int) (d_x : Int → Int) (t_x : Int → Int)  (P : (Int → Int) → (Int → Int) → (Int → Int) → (Int → Int) → Prop) : Prop :=
  (0 ≤ t_x 10 ∧ t_x 10 ≤ 64) ∧ (((1 : Int) = 1) ∧ ((2 ≤ (t_x 0) ∧ (t_x 0) ≤ 20) ∧ (((((waysZ (t_x 0)) < (kdZ l_x d_x (0 : Int) (t_x 10).toNat)) → (True)) ∧ ((¬ ((waysZ (t_x 0)) < (kdZ l_x d_x (0 : Int) (t_x 10).toNat))) → (True))) ∧ (∃ (I28 : Int → (Int → Int) → Prop) (μ29 : Int → (Int → Int) → Nat), I28 0 d_x ∧ ∀ (x5_27 : Int) (x2_27 : Int → Int), rg x5_27 → rgA x2_27 → I28 x5_27 x2_27 → (((x5_27 < ((if (waysZ (t_x 0)) < (kdZ l_x d_x (0 : Int) (t_x 10).toNat) then waysZ (t_x 0) else kdZ l_x d_x (0 : Int) (t_x 10).toNat) : Int)) → (∃ (I47 : Int → Int → Prop) (μ48 : Int → Int → Nat), I47 (-1) 0 ∧ ∀ (x6_46 : Int) (x7_46 : Int), rg x6_46 → rg x7_46 → I47 x6_46 x7_46 → (((x7_46 < (t_x 10)) → ((0 ≤ x7_46 ∧ x7_46 < 64) ∧ ((((x2_27 x7_46) = 0) → (((x6_46 < 0) → (rg (x7_46 + 1) ∧ (I47 x7_46 (x7_46 + 1) ∧ μ48 x7_46 (x7_46 + 1) < μ48 x6_46 x7_46))) ∧ ((¬ (x6_46 < 0)) → ((0 ≤ x6_46 ∧ x6_46 < 64) ∧ ((((l_x x7_46) < (l_x x6_46)) → (rg (x7_46 + 1) ∧ (I47 x7_46 (x7_46 + 1) ∧ μ48 x7_46 (x7_46 + 1) < μ48 x6_46 x7_46))) ∧ ((¬ ((l_x x7_46) < (l_x x6_46))) → ((((l_x x7_46) = (l_x x6_46)) → ((((n_x x7_46) < (n_x x6_46)) → (rg (x7_46 + 1) ∧ (I47 x7_46 (x7_46 + 1) ∧ μ48 x7_46 (x7_46 + 1) < μ48 x6_46 x7_46))) ∧ ((¬ ((n_x x7_46) < (n_x x6_46))) → (rg (x7_46 + 1) ∧ (I47 x6_46 (x7_46 + 1) ∧ μ48 x6_46 (x7_46 + 1) < μ48 x6_46 x7_46))))) ∧ ((¬ ((l_x x7_46) = (l_x x6_46))) → (rg (x7_46 + 1) ∧ (I47 x6_46 (x7_46 + 1) ∧ μ48 x6_46 (x7_46 + 1) < μ48 x6_46 x7_46)))))))))) ∧ ((¬ ((x2_27 x7_46) = 0)) → (rg (x7_46 + 1) ∧ (I47 x6_46 (x7_46 + 1) ∧ μ48 x6_46 (x7_46 + 1) < μ48 x6_46 x7_46)))))) ∧ ((¬ (x7_46 < (t_x 10))) → ((0 ≤ x6_46 ∧ x6_46 < 64) ∧ (rg (x5_27 + 1) ∧ (I28 (x5_27 + 1) (uZ x2_27 x6_46 1) ∧ μ29 (x5_27 + 1) (uZ x2_27 x6_46 1) < μ29 x5_27 x2_27))))))) ∧ ((¬ (x5_27 < ((if (waysZ (t_x 0)) < (kdZ l_x d_x (0 : Int) (t_x 10).toNat) then waysZ (t_x 0) else kdZ l_x d_x (0 : Int) (t_x 10).toNat) : Int))) → ((0 ≤ (t_x 10) ∧ (t_x 10) < 64) ∧ (rg ((t_x 10) + 1) ∧ (rg ((t_x 8) + 1) ∧ (P (uZ n_x (t_x 10) (-1)) (uZ l_x (t_x 10) 0) (uZ x2_27 (t_x 10) 2) (uZ (uZ (uZ (uZ t_x 6 ((if (waysZ (t_x 0)) < (kdZ l_x d_x (0 : Int) (t_x 10).toNat) then waysZ (t_x 0) else kdZ l_x d_x (0 : Int) (t_x 10).toNat) : Int)) 10 ((t_x 10) + 1)) 5 1) 8 ((t_x 8) + 1))))))))))))
set_option maxHeartbeats 4000000 in
theorem sp_L_begin (n_x : Int → Int) (l_x : Int → Int) (d_x : Int → Int) (t_x : Int → Int)  (fg : Int → Int) (mg : Int → Int) (kg : Int → Int) (z : Int → Int) (r_n_x : rgA n_x) (r_l_x : rgA l_x) (r_d_x : rgA d_x) (r_t_x : rgA t_x)  (p0 : LV fg n_x l_x d_x mg kg t_x z) (p1 : Vz z) (p2 : z 5 = 0 ∧ z 2 = 0 ∧ 2 ≤ begN z ∧ z 8 + 1 ≤ 2000000000) : wp_L_begin n_x l_x d_x t_x (fun n_x' l_x' d_x' t_x' => LV fg n_x' l_x' d_x' mg kg t_x' (begZ z)) := by
  unfold wp_L_begin
  have hb := p1.1
  have hS := (LV_sum hb p0).1
  obtain ⟨g5, g2, gN, g8⟩ := p2
  have t11 := LV_t11 p1 g2 p0
  have hfl := LV_files p0 g5
  have p0' := p0
  obtain ⟨⟨t0, t1, t2, t3, t4, t5, t7, t8, t9, t6⟩, hk, hm, hF, hX, hT, h56⟩ := p0'
  have hx := hX.1 g5
  have v0 : 2 ≤ z 0 ∧ z 0 ≤ 20 := p1.2.1.1
  have v8 : 0 ≤ z 8 := p1.2.1.2.2.2.2.2.2.1
  have kd := LF_kinds hb hF (kind := 0) (Or.inl rfl)
  have eN : (if waysZ (t_x 0) < kdZ l_x d_x (0 : Int) (t_x 10).toNat then waysZ (t_x 0) else kdZ l_x d_x (0 : Int) (t_x 10).toNat) = begN z := by
    rw [kd, t0]
    unfold begN
    split <;> omega
  have nM : begN z ≤ manyZ z 0 := by unfold begN; omega
  have mle := runs_rows (kind := 0) hb
  refine ⟨by omega, rfl, by omega, ⟨fun _ => trivial, fun _ => trivial⟩, ?_⟩
  rw [eN]
  generalize hN : begN z = N at *
  have hb0 : Vb (uZ z 6 N) := Vb_lo hb (by omega) (by omega) (by omega)
  have em : manyZ (uZ z 6 N) 0 = manyZ z 0 := manyZ_lo (by omega) (by omega) (by omega)
  have bg := bg_inv hb0
  refine ⟨fun g d => (0 ≤ g ∧ g ≤ N) ∧ LF fg n_x l_x d (t_x 10) (bgI (uZ z 6 N) g.toNat) ∧ ∀ i, 0 ≤ i → i < t_x 10 → 0 < l_x i ∧ (d i = 0 ∨ d i = 1), fun g _ => (N - g).toNat, ⟨by omega, ?_, fun i a b => ⟨(hx i a b).2, Or.inl (hx i a b).1⟩⟩, ?_⟩
  · show LF fg n_x l_x d_x (t_x 10) (uZ z 6 N)
    exact LF_z hF (by rw [uZ_ne (by omega)]; exact Int.le_refl _) (fun r r0 r1 _ => ⟨by rw [uZ_ne (by omega)]; exact r1, uZ_ne (by omega)⟩) (fun r r0 r1 _ => ⟨by rw [uZ_ne (by omega)] at r1; exact r1, uZ_ne (by omega)⟩) (fun r r0 r1 => uZ_ne (by omega))
  intro g d rgg rd ⟨g0, hd, hk2⟩
  obtain ⟨bb, bl, bm⟩ := bg g.toNat (by omega)
  refine ⟨fun c => ?_, fun c => ?_⟩
  · refine ⟨fun best i => (0 ≤ i ∧ i ≤ t_x 10) ∧ ((best = -1 ∧ ∀ j, 0 ≤ j → j < i → d j ≠ 0) ∨ ((0 ≤ best ∧ best < i) ∧ d best = 0 ∧ ∀ j, 0 ≤ j → j < i → d j = 0 → l_x best < l_x j ∨ l_x best = l_x j ∧ n_x best ≤ n_x j)), fun _ i => (t_x 10 - i).toNat, ⟨by omega, Or.inl ⟨rfl, fun j a b => by omega⟩⟩, ?_⟩
    intro best i rb ri ⟨i0, hi⟩
    refine ⟨fun c1 => ⟨by omega, fun c2 => ⟨fun c3 => ⟨by unfold rg; omega, ⟨by omega, Or.inr ⟨by omega, c2, fun j a b e => ?_⟩⟩, by dsimp only; omega⟩, fun c3 => ?_⟩, fun c2 => ⟨by unfold rg; omega, ⟨by omega, ?_⟩, by dsimp only; omega⟩⟩, fun c1 => ?_⟩
    · rcases hi with ⟨_, h2⟩ | ⟨h1, _⟩
      · by_cases w : j = i
        · rw [w]; exact Or.inr ⟨rfl, Int.le_refl _⟩
        · exact absurd e (h2 j a (by omega))
      · omega
    · rcases hi with ⟨h1, _⟩ | ⟨b0, b1, b2⟩
      · omega
      · have new : (l_x i < l_x best ∨ l_x i = l_x best ∧ n_x i < n_x best) → (0 ≤ i + 1 ∧ i + 1 ≤ t_x 10) ∧ ((i = -1 ∧ ∀ j, 0 ≤ j → j < i + 1 → d j ≠ 0) ∨ ((0 ≤ i ∧ i < i + 1) ∧ d i = 0 ∧ ∀ j, 0 ≤ j → j < i + 1 → d j = 0 → l_x i < l_x j ∨ l_x i = l_x j ∧ n_x i ≤ n_x j)) := fun w => ⟨by omega, Or.inr ⟨by omega, c2, fun j a b e => by
          by_cases v : j = i
          · rw [v]; exact Or.inr ⟨rfl, Int.le_refl _⟩
          · have := b2 j a (by omega) e
            omega⟩⟩
        have old : ¬ (l_x i < l_x best ∨ l_x i = l_x best ∧ n_x i < n_x best) → (0 ≤ i + 1 ∧ i + 1 ≤ t_x 10) ∧ ((best = -1 ∧ ∀ j, 0 ≤ j → j < i + 1 → d j ≠ 0) ∨ ((0 ≤ best ∧ best < i + 1) ∧ d best = 0 ∧ ∀ j, 0 ≤ j → j < i + 1 → d j = 0 → l_x best < l_x j ∨ l_x best = l_x j ∧ n_x best ≤ n_x j)) := fun w => ⟨by omega, Or.inr ⟨by omega, b1, fun j a b e => by
          by_cases v : j = i
          · rw [v]; omega
          · exact b2 j a (by omega) e⟩⟩
        refine ⟨by omega, fun c4 => ⟨by unfold rg; omega, new (Or.inl c4), by dsimp only; omega⟩, fun c4 => ⟨fun c5 => ⟨fun c6 => ⟨by unfold rg; omega, new (Or.inr ⟨c5, c6⟩), by dsimp only; omega⟩, fun c6 => ⟨by unfold rg; omega, old (by omega), by dsimp only; omega⟩⟩, fun c5 => ⟨by unfold rg; omega, old (by omega), by dsimp only; omega⟩⟩⟩
    · rcases hi with ⟨h1, h2⟩ | ⟨b0, b1, b2⟩
      · exact Or.inl ⟨h1, fun j a b => by
          by_cases v : j = i
          · rw [v]; exact c2
          · exact h2 j a (by omega)⟩
      · exact Or.inr ⟨by omega, b1, fun j a b e => by
          by_cases v : j = i
          · rw [v] at e; exact absurd e c2
          · exact b2 j a (by omega) e⟩
    · rcases hi with ⟨_, h2⟩ | ⟨b0, b1, b2⟩
      · have e := LF_kinds bb hd (kind := 0) (Or.inl rfl)
        rw [bm, em] at e
        have pos : 0 < kdZ l_x d 0 (t_x 10).toNat := by omega
        unfold kdZ at pos
        obtain ⟨j, j1, j2⟩ := (cnt_pos (P := fun i => d i = 0 ∧ 0 < l_x i)).mp pos
        exact absurd j2.1 (h2 j (by omega) (by omega))
      · have lb := (hk2 best b0.1 (by omega)).1
        obtain ⟨es, _⟩ := LF_sml bb hd ⟨b0.1, by omega⟩ b1 lb (fun j a b e _ => b2 j a (by omega) e)
        have q := LF_input bb hd ⟨b0.1, by omega⟩ lb b1
        rw [← es] at q
        refine ⟨by omega, by unfold rg; omega, ⟨by omega, ?_, fun j a b => ?_⟩, by dsimp only; omega⟩
        · rw [show (g + 1).toNat = g.toNat + 1 by omega]
          exact q
        · refine ⟨(hk2 j a b).1, ?_⟩
          by_cases v : j = best
          · rw [v, uZ_at]; exact Or.inr rfl
          · rw [uZ_ne v]; exact (hk2 j a b).2
  · have gN' : g = N := by omega
    rw [gN'] at hd
    exact ⟨by omega, by unfold rg; omega, by unfold rg; omega, LV_begin p1 p0 g5 g2 hN.symm (by omega) hd hk2⟩
