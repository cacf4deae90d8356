def wp_L_comes (k_x : Int → Int) (a : Int) (b : Int) (P : Int → Prop) : Prop :=
  (0 ≤ a ∧ a < 60) ∧ ((0 ≤ b ∧ b < 60) ∧ ((((k_x a) < (k_x b)) → (P 1)) ∧ ((¬ ((k_x a) < (k_x b))) → ((((k_x a) = (k_x b)) → (((a < b) → (P 1)) ∧ ((¬ (a < b)) → (P 0)))) ∧ ((¬ ((k_x a) = (k_x b))) → (P 0))))))
set_option maxHeartbeats 4000000 in
theorem sp_L_comes (k_x : Int → Int) (a : Int) (b : Int) (r_k_x : rgA k_x) (r_a : rg a) (r_b : rg b) (p0 : 0 ≤ a ∧ a < 60) (p1 : 0 ≤ b ∧ b < 60) : wp_L_comes k_x a b (fun z => z = (pz (k_x a < k_x b ∨ k_x a = k_x b ∧ a < b))) := by
  unfold wp_L_comes
  exact ⟨p0, p1, fun c => (pz_t (Or.inl c)).symm, fun c => ⟨fun c2 => ⟨fun c3 => (pz_t (Or.inr ⟨c2, c3⟩)).symm, fun c3 => (pz_f (by omega)).symm⟩, fun c2 => (pz_f (by omega)).symm⟩⟩
def wp_L_start (l_x : Int → Int) (file : Int) (P : Int → Prop) : Prop :=
  ∃ (I2 : Int → Int → Prop) (μ3 : Int → Int → Nat), I2 0 0 ∧ ∀ (x2_1 : Int) (x3_1 : Int), rg x2_1 → rg x3_1 → I2 x2_1 x3_1 → (((x3_1 < file) → ((0 ≤ x3_1 ∧ x3_1 < 64) ∧ (rg (x2_1 + (l_x x3_1)) ∧ (rg (x3_1 + 1) ∧ (I2 (x2_1 + (l_x x3_1)) (x3_1 + 1) ∧ μ3 (x2_1 + (l_x x3_1)) (x3_1 + 1) < μ3 x2_1 x3_1))))) ∧ ((¬ (x3_1 < file)) → (P x2_1)))
set_option maxHeartbeats 4000000 in
theorem sp_L_start (l_x : Int → Int) (file : Int) (r_l_x : rgA l_x) (r_file : rg file) (p0 : 0 ≤ file ∧ file ≤ 64) (p1 : ∀ i, 0 ≤ i → i < file → 0 ≤ l_x i ∧ l_x i ≤ 60) : wp_L_start l_x file (fun z => z = (sumI l_x (file).toNat)) := by
  unfold wp_L_start
  refine ⟨fun s i => (0 ≤ i ∧ i ≤ file) ∧ s = sumI l_x i.toNat ∧ 0 ≤ s ∧ s ≤ 60 * i, fun _ i => (file - i).toNat, ⟨by omega, rfl, by omega, by omega⟩, ?_⟩
  intro s i rs ri ⟨h1, h2, h3, h4⟩
  refine ⟨fun c => ?_, fun c => ?_⟩
  · have := p1 i h1.1 c
    refine ⟨by omega, by unfold rg; omega, by unfold rg; omega, ⟨by omega, by rw [sumI_S h1.1, h2], by omega, by omega⟩, by dsimp only; omega⟩
  · rw [h2, show i = file by omega]
def wp_L_ways  (size : Int) (P : Int → Prop) : Prop :=
  ((9 < size) → (P 8)) ∧ ((¬ (9 < size)) → (rg (size - 1) ∧ (P (size - 1))))
set_option maxHeartbeats 4000000 in
theorem sp_L_ways  (size : Int)  (r_size : rg size) (p0 : 2 ≤ size ∧ size ≤ 20) : wp_L_ways size (fun z => z = (waysZ size)) := by
  unfold wp_L_ways
  unfold waysZ
  exact ⟨fun c => by omega, fun c => ⟨by unfold rg; omega, by omega⟩⟩
def wp_L_kinds (l_x : Int → Int) (d_x : Int → Int) (t_x : Int → Int) (kind : Int) (full : Int) (P : Int → Prop) : Prop :=
  ∃ (I2 : Int → Int → Prop) (μ3 : Int → Int → Nat), I2 0 0 ∧ ∀ (x5_1 : Int) (x6_1 : Int), rg x5_1 → rg x6_1 → I2 x5_1 x6_1 → (((x6_1 < (t_x 10)) → ((0 ≤ x6_1 ∧ x6_1 < 64) ∧ ((((d_x x6_1) = kind) → (((full = 0) → (rg (x5_1 + 1) ∧ (rg (x6_1 + 1) ∧ (I2 (x5_1 + 1) (x6_1 + 1) ∧ μ3 (x5_1 + 1) (x6_1 + 1) < μ3 x5_1 x6_1)))) ∧ ((¬ (full = 0)) → (((0 < (l_x x6_1)) → (rg (x5_1 + 1) ∧ (rg (x6_1 + 1) ∧ (I2 (x5_1 + 1) (x6_1 + 1) ∧ μ3 (x5_1 + 1) (x6_1 + 1) < μ3 x5_1 x6_1)))) ∧ ((¬ (0 < (l_x x6_1))) → (rg (x5_1 + 0) ∧ (rg (x6_1 + 1) ∧ (I2 (x5_1 + 0) (x6_1 + 1) ∧ μ3 (x5_1 + 0) (x6_1 + 1) < μ3 x5_1 x6_1)))))))) ∧ ((¬ ((d_x x6_1) = kind)) → (rg (x5_1 + 0) ∧ (rg (x6_1 + 1) ∧ (I2 (x5_1 + 0) (x6_1 + 1) ∧ μ3 (x5_1 + 0) (x6_1 + 1) < μ3 x5_1 x6_1))))))) ∧ ((¬ (x6_1 < (t_x 10))) → (P x5_1)))
set_option maxHeartbeats 4000000 in
theorem sp_L_kinds (l_x : Int → Int) (d_x : Int → Int) (t_x : Int → Int) (kind : Int) (full : Int) (r_l_x : rgA l_x) (r_d_x : rgA d_x) (r_t_x : rgA t_x) (r_kind : rg kind) (r_full : rg full) (p0 : 0 ≤ t_x 10 ∧ t_x 10 ≤ 64) (p1 : full = 1) : wp_L_kinds l_x d_x t_x kind full (fun z => z = (kdZ l_x d_x kind (t_x 10).toNat)) := by
  unfold wp_L_kinds
  refine ⟨fun s i => (0 ≤ i ∧ i ≤ t_x 10) ∧ s = kdZ l_x d_x kind i.toNat ∧ 0 ≤ s ∧ s ≤ i, fun _ i => (t_x 10 - i).toNat, ⟨by omega, rfl, by omega, by omega⟩, ?_⟩
  intro s i rs ri ⟨h1, h2, h3, h4⟩
  refine ⟨fun c => ?_, fun c => ?_⟩
  · have e := kdZ_S (l := l_x) (d := d_x) (kind := kind) h1.1
    refine ⟨by omega, fun w => ⟨fun q => by omega, fun _ => ⟨fun u => ?_, fun u => ?_⟩⟩, fun w => ?_⟩
    · rw [pz_t ⟨w, u⟩] at e
      exact ⟨by unfold rg; omega, by unfold rg; omega, ⟨by omega, by omega, by omega, by omega⟩, by dsimp only; omega⟩
    · rw [pz_f (fun q => u q.2)] at e
      exact ⟨by unfold rg; omega, by unfold rg; omega, ⟨by omega, by omega, by omega, by omega⟩, by dsimp only; omega⟩
    · rw [pz_f (fun q => w q.1)] at e
      exact ⟨by unfold rg; omega, by unfold rg; omega, ⟨by omega, by omega, by omega, by omega⟩, by dsimp only; omega⟩
  · rw [h2, show i = t_x 10 by omega]
def wp_L_write (f_x : Int → Int) (n_x : Int → Int) (l_x : Int → Int) (d_x : Int → Int) (m_x : Int → Int) (k_x : Int → Int) (t_x : Int → Int)  (P : Int → (Int → Int) → (Int → Int) → (Int → Int) → (Int → Int) → (Int → Int) → Prop) : Prop :=
  (((t_x 11) = 0) → (P (-6) f_x n_x l_x d_x t_x)) ∧ ((¬ ((t_x 11) = 0)) → ((0 ≤ (t_x 10) ∧ (t_x 10) ≤ 64) ∧ ((∀ i, 0 ≤ i → i < (t_x 10) → 0 ≤ l_x i ∧ l_x i ≤ 60) ∧ (∃ (I13 : Int → (Int → Int) → Prop) (μ14 : Int → (Int → Int) → Nat), I13 0 f_x ∧ ∀ (x8_12 : Int) (x0_12 : Int → Int), rg x8_12 → rgA x0_12 → I13 x8_12 x0_12 → (((x8_12 < (t_x 11)) → (rg ((sumI l_x ((t_x 10)).toNat) + x8_12) ∧ (∃ (I38 : Int → (Int → Int) → Prop) (μ39 : Int → (Int → Int) → Nat), I38 ((sumI l_x ((t_x 10)).toNat) + x8_12) x0_12 ∧ ∀ (x9_37 : Int) (x0_37 : Int → Int), rg x9_37 → rgA x0_37 → I38 x9_37 x0_37 → ((((sumI l_x ((t_x 10)).toNat) < x9_37) → ((0 ≤ x8_12 ∧ x8_12 < 20) ∧ (rg (x9_37 - 1) ∧ ((0 ≤ (x9_37 - 1) ∧ (x9_37 - 1) < 60) ∧ ((0 ≤ (m_x x8_12) ∧ (m_x x8_12) < 60) ∧ ((0 ≤ (x0_37 (x9_37 - 1)) ∧ (x0_37 (x9_37 - 1)) < 60) ∧ (((k_x (m_x x8_12) < k_x (x0_37 (x9_37 - 1)) ∨ k_x (m_x x8_12) = k_x (x0_37 (x9_37 - 1)) ∧ (m_x x8_12) < (x0_37 (x9_37 - 1))) → ((0 ≤ x9_37 ∧ x9_37 < 60) ∧ (rg (x9_37 + (-1)) ∧ (I38 (x9_37 + (-1)) (uZ x0_37 x9_37 (x0_37 (x9_37 - 1))) ∧ μ39 (x9_37 + (-1)) (uZ x0_37 x9_37 (x0_37 (x9_37 - 1))) < μ39 x9_37 x0_37)))) ∧ ((¬ (k_x (m_x x8_12) < k_x (x0_37 (x9_37 - 1)) ∨ k_x (m_x x8_12) = k_x (x0_37 (x9_37 - 1)) ∧ (m_x x8_12) < (x0_37 (x9_37 - 1)))) → ((0 ≤ x9_37 ∧ x9_37 < 60) ∧ (rg (x8_12 + 1) ∧ (I13 (x8_12 + 1) (uZ x0_37 x9_37 (m_x x8_12)) ∧ μ14 (x8_12 + 1) (uZ x0_37 x9_37 (m_x x8_12)) < μ14 x8_12 x0_12))))))))))) ∧ ((¬ ((sumI l_x ((t_x 10)).toNat) < x9_37)) → ((0 ≤ x8_12 ∧ x8_12 < 20) ∧ ((0 ≤ x9_37 ∧ x9_37 < 60) ∧ (rg (x8_12 + 1) ∧ (I13 (x8_12 + 1) (uZ x0_37 x9_37 (m_x x8_12)) ∧ μ14 (x8_12 + 1) (uZ x0_37 x9_37 (m_x x8_12)) < μ14 x8_12 x0_12))))))))) ∧ ((¬ (x8_12 < (t_x 11))) → ((0 ≤ (t_x 10) ∧ (t_x 10) < 64) ∧ (rg ((t_x 10) + 1) ∧ (rg ((t_x 4) + 1) ∧ (rg ((t_x 7) + (t_x 11)) ∧ (rg (((t_x 4) + 1) - 1) ∧ (P (((t_x 4) + 1) - 1) x0_12 (uZ n_x (t_x 10) (t_x 4)) (uZ l_x (t_x 10) (t_x 11)) (uZ d_x (t_x 10) 0) (uZ (uZ (uZ (uZ t_x 10 ((t_x 10) + 1)) 4 ((t_x 4) + 1)) 7 ((t_x 7) + (t_x 11))) 11 0)))))))))))))
set_option maxHeartbeats 4000000 in
theorem sp_L_write (f_x : Int → Int) (n_x : Int → Int) (l_x : Int → Int) (d_x : Int → Int) (m_x : Int → Int) (k_x : Int → Int) (t_x : Int → Int)  (z : Int → Int) (r_f_x : rgA f_x) (r_n_x : rgA n_x) (r_l_x : rgA l_x) (r_d_x : rgA d_x) (r_m_x : rgA m_x) (r_k_x : rgA k_x) (r_t_x : rgA t_x)  (p0 : LV f_x n_x l_x d_x m_x k_x t_x z) (p1 : Vb z) (p2 : z 5 = 0 ∧ z 4 + 1 ≤ 900000000 ∧ 0 ≤ z 7 ∧ z 7 + 120 ≤ 2000000000) : wp_L_write f_x n_x l_x d_x m_x k_x t_x (fun r f_x' n_x' l_x' d_x' t_x' => r = (if rowsAt z 1 = 0 then -6 else z 4) ∧ LV f_x' n_x' l_x' d_x' m_x k_x t_x' (wriZ z)) := by
  unfold wp_L_write
  have p0' := p0
  have hS := (LV_sum p1 p0).1
  obtain ⟨⟨t0, t1, t2, t3, t4, t5, t7, t8, t9, t6⟩, hk, hm, hF, hX, hT, h56⟩ := p0'
  obtain ⟨g5, g4, g7, g7b⟩ := p2
  have hz3 := p1.1
  have hz4 := p1.2.2.1
  have hr := RMm_len hm hz3
  have hfl := LV_files p0 g5
  have hm0 := hm.1
  have hs0 := (sumI_0n hF.1 hT.1 (Int.le_refl _)).1
  have hrow : ∀ i, 0 ≤ i → i < t_x 11 → 0 ≤ m_x i ∧ m_x i < 60 := fun i a b => by
    obtain ⟨x1, x2, _⟩ := hm.2.1 i a b
    omega
  refine ⟨fun c => ⟨by rw [if_pos (by omega)], ?_⟩, fun c => ⟨by omega, fun i a b => by have := LF_rng hF (by omega) i a b; omega, ?_⟩⟩
  · have : wriZ z = z := if_pos (by omega)
    rw [this]; exact p0
  generalize hfr : sumI l_x (t_x 10).toNat = fr at *
  refine ⟨fun i f => (0 ≤ i ∧ i ≤ t_x 11) ∧ (∀ q, q < fr → f q = f_x q) ∧ ∃ g, SrtI k_x m_x (t_x 11) i g ∧ (∀ q, 0 ≤ q → q < i → f (fr + q) = g q) ∧ ∀ q, i ≤ q → q < t_x 11 → g q = m_x q, fun i _ => (t_x 11 - i).toNat, ⟨by omega, fun q _ => rfl, m_x, ⟨fun i j a b e _ => by omega, fun i a b => ⟨i, a, b, rfl⟩, fun i a b => ⟨i, a, b, rfl⟩, fun i j a b e => by have := hm.2.2.1 i j a b e; omega⟩, fun q a b => by omega, fun q _ _ => rfl⟩, ?_⟩
  intro i f ri rf ⟨i0, if_, g, ig, ih, ik⟩
  have gin : ∀ j, 0 ≤ j → j < t_x 11 → 0 ≤ g j ∧ g j < 60 := fun j a b => by
    obtain ⟨q, q1, q2, q3⟩ := ig.2.1 j a b
    rw [q3]; exact hrow q q1 q2
  refine ⟨fun c1 => ⟨by unfold rg; omega, ?_⟩, fun c1 => ?_⟩
  · have gi : g i = m_x i := ik i (Int.le_refl _) c1
    have step : ∀ (at_ : Int) (f2 : Int → Int), fr ≤ at_ → at_ ≤ fr + i → (∀ q, q < fr → f2 q = f_x q) → (∀ j, 0 ≤ j → fr + j < at_ → f2 (fr + j) = g j) → (∀ j, at_ < fr + j → j ≤ i → f2 (fr + j) = g (j - 1)) → (∀ j, at_ ≤ fr + j → j < i → befK k_x (m_x i) (g j)) → (at_ = fr ∨ ¬ befK k_x (m_x i) (g (at_ - fr - 1))) → (0 ≤ i + 1 ∧ i + 1 ≤ t_x 11) ∧ (∀ q, q < fr → uZ f2 at_ (m_x i) q = f_x q) ∧ ∃ g, SrtI k_x m_x (t_x 11) (i + 1) g ∧ (∀ q, 0 ≤ q → q < i + 1 → uZ f2 at_ (m_x i) (fr + q) = g q) ∧ ∀ q, i + 1 ≤ q → q < t_x 11 → g q = m_x q := by
      intro at_ f2 a1 a2 a3 a4 a5 a6 a7
      refine ⟨by omega, fun q q1 => by rw [uZ_ne (by omega)]; exact a3 q q1, fun j => if j < at_ - fr ∨ i < j then g j else if j = at_ - fr then g i else g (j - 1), ?_, fun q q1 q2 => ?_, fun q q1 q2 => ?_⟩
      · by_cases i1 : 1 ≤ i
        · exact SrtI_ins (x := at_ - fr) ig ⟨i1, c1⟩ ⟨by omega, by omega⟩ (fun j => rfl) (fun j j1 j2 => by rw [gi]; exact a6 j (by omega) j2) (by rw [gi]; rcases a7 with w | w; exact Or.inl (by omega); exact Or.inr w)
        · have i00 : i = 0 := by omega
          have e : (fun j => if j < at_ - fr ∨ i < j then g j else if j = at_ - fr then g i else g (j - 1)) = g := by
            funext j
            by_cases w : j < at_ - fr ∨ i < j
            · rw [if_pos w]
            · rw [if_neg w, if_pos (by omega), show j = i by omega]
          rw [e]
          exact ⟨fun x y _ _ _ _ => by omega, ig.2⟩
      · dsimp only
        by_cases w : q = at_ - fr
        · rw [show fr + q = at_ by omega, uZ_at, if_neg (by omega), if_pos w, gi]
        · rw [uZ_ne (by omega)]
          by_cases v : q < at_ - fr
          · rw [if_pos (Or.inl v)]; exact a4 q q1 (by omega)
          · rw [if_neg (by omega), if_neg w]; exact a5 q (by omega) (by omega)
      · dsimp only
        rw [if_pos (Or.inr (by omega))]; exact ik q (by omega) q2
    refine ⟨fun at_ f2 => (fr ≤ at_ ∧ at_ ≤ fr + i) ∧ (∀ q, q < fr → f2 q = f_x q) ∧ (∀ j, 0 ≤ j → fr + j < at_ → f2 (fr + j) = g j) ∧ (∀ j, at_ < fr + j → j ≤ i → f2 (fr + j) = g (j - 1)) ∧ (∀ j, at_ ≤ fr + j → j < i → befK k_x (m_x i) (g j)), fun at_ _ => (at_ - fr).toNat, ⟨by omega, if_, fun j a b => ih j a (by omega), fun j a b => by omega, fun j a b => by omega⟩, ?_⟩
    intro at_ f2 ra rf2 ⟨b0, b1, b2, b3, b4⟩
    refine ⟨fun c2 => ?_, fun c2 => ?_⟩
    · have e2 : f2 (at_ - 1) = g (at_ - 1 - fr) := by
        have := b2 (at_ - 1 - fr) (by omega) (by omega)
        rw [show fr + (at_ - 1 - fr) = at_ - 1 by omega] at this
        exact this
      have g2 := gin (at_ - 1 - fr) (by omega) (by omega)
      refine ⟨by omega, by unfold rg; omega, by omega, hrow i i0.1 c1, by omega, fun c3 => ⟨by omega, by unfold rg; omega, ⟨by omega, fun q q1 => by rw [uZ_ne (by omega)]; exact b1 q q1, fun j j1 j2 => by rw [uZ_ne (by omega)]; exact b2 j j1 (by omega), fun j j1 j2 => ?_, fun j j1 j2 => ?_⟩, by dsimp only; omega⟩, fun c3 => ⟨by omega, by unfold rg; omega, ?_, by dsimp only; omega⟩⟩
      · by_cases w : fr + j = at_
        · rw [w, uZ_at, e2, show at_ - 1 - fr = j - 1 by omega]
        · rw [uZ_ne w]; exact b3 j (by omega) j2
      · by_cases w : fr + j = at_ - 1
        · rw [e2, show at_ - 1 - fr = j by omega] at c3
          exact c3
        · exact b4 j (by omega) j2
      · refine step at_ f2 b0.1 b0.2 b1 b2 b3 b4 (Or.inr ?_)
        rw [e2] at c3
        rw [show at_ - fr - 1 = at_ - 1 - fr by omega]
        exact c3
    · exact ⟨by omega, by omega, by unfold rg; omega, step at_ f2 b0.1 b0.2 b1 b2 b3 b4 (Or.inl (by omega)), by dsimp only; omega⟩
  · refine ⟨by omega, by unfold rg; omega, by unfold rg; omega, by unfold rg; omega, by unfold rg; omega, ?_, ?_⟩
    · rw [if_neg (by omega)]; omega
    · have iM : i = t_x 11 := by omega
      rw [iM] at ig ih
      refine LV_write p1 g5 p0 (by omega) (by rw [hfr]; exact if_) ig (by rw [hfr]; exact ih) ?_ ?_ ?_ ?_ ?_
      · rw [uZ_ne (by omega), uZ_ne (by omega), uZ_ne (by omega), uZ_at]
      · rw [uZ_ne (by omega), uZ_ne (by omega), uZ_at]
      · rw [uZ_ne (by omega), uZ_at]
      · rw [uZ_at]
      · intro j j1 j2 j3 j4
        rw [uZ_ne j4, uZ_ne j3, uZ_ne j2, uZ_ne j1]
def wp_L_add (f_x : Int → Int) (n_x : Int → Int) (l_x : Int → Int) (d_x : Int → Int) (m_x : Int → Int) (k_x : Int → Int) (c_x : Int → Int) (t_x : Int → Int) (key : Int) (P : (Int → Int) → (Int → Int) → (Int → Int) → (Int → Int) → (Int → Int) → (Int → Int) → (Int → Int) → (Int → Int) → Prop) : Prop :=
  rg ((t_x 3) + 1) ∧ ((0 ≤ (t_x 3) ∧ (t_x 3) < 60) ∧ (∃ (I6 : Int → Prop) (μ7 : Int → Nat), I6 0 ∧ ∀ (x10_5 : Int), rg x10_5 → I6 x10_5 → (((x10_5 < (t_x 11)) → ((((t_x 1) = 1) → ((0 ≤ x10_5 ∧ x10_5 < 20) ∧ ((0 ≤ (m_x x10_5) ∧ (m_x x10_5) < 60) ∧ (((((uZ k_x (t_x 3) key) (m_x x10_5)) = key) → (rg ((c_x (m_x x10_5)) + 1) ∧ (P f_x n_x l_x d_x m_x (uZ k_x (t_x 3) key) (uZ (uZ c_x (m_x x10_5) ((c_x (m_x x10_5)) + 1)) (t_x 3) 0) (uZ t_x 3 ((t_x 3) + 1))))) ∧ ((¬ (((uZ k_x (t_x 3) key) (m_x x10_5)) = key)) → (rg (x10_5 + 1) ∧ (I6 (x10_5 + 1) ∧ μ7 (x10_5 + 1) < μ7 x10_5))))))) ∧ ((¬ ((t_x 1) = 1)) → ((((t_x 11) = (t_x 0)) → (∃ (g62 : Int → Int), (LV f_x n_x l_x d_x m_x (uZ k_x (t_x 3) key) (uZ t_x 3 ((t_x 3) + 1)) g62) ∧ ((Vb g62) ∧ ((g62 5 = 0 ∧ g62 4 + 1 ≤ 900000000 ∧ 0 ≤ g62 7 ∧ g62 7 + 120 ≤ 2000000000) ∧ (∀ (z76 : Int) (u_f_x70 : Int → Int) (u_n_x71 : Int → Int) (u_l_x72 : Int → Int) (u_d_x73 : Int → Int) (u_t_x74 : Int → Int), rg z76 → rgA u_f_x70 → rgA u_n_x71 → rgA u_l_x72 → rgA u_d_x73 → rgA u_t_x74 → (z76 = (if rowsAt g62 1 = 0 then -6 else g62 4) ∧ LV u_f_x70 u_n_x71 u_l_x72 u_d_x73 m_x (uZ k_x (t_x 3) key) u_t_x74 (wriZ g62)) → ((0 ≤ (u_t_x74 11) ∧ (u_t_x74 11) < 20) ∧ (rg ((u_t_x74 11) + 1) ∧ (P u_f_x70 u_n_x71 u_l_x72 u_d_x73 (uZ m_x (u_t_x74 11) (t_x 3)) (uZ k_x (t_x 3) key) (uZ c_x (t_x 3) 1) (uZ u_t_x74 11 ((u_t_x74 11) + 1)))))))))) ∧ ((¬ ((t_x 11) = (t_x 0))) → ((0 ≤ (t_x 11) ∧ (t_x 11) < 20) ∧ (rg ((t_x 11) + 1) ∧ (P f_x n_x l_x d_x (uZ m_x (t_x 11) (t_x 3)) (uZ k_x (t_x 3) key) (uZ c_x (t_x 3) 1) (uZ (uZ t_x 3 ((t_x 3) + 1)) 11 ((t_x 11) + 1)))))))))) ∧ ((¬ (x10_5 < (t_x 11))) → ((((t_x 11) = (t_x 0)) → (∃ (g26 : Int → Int), (LV f_x n_x l_x d_x m_x (uZ k_x (t_x 3) key) (uZ t_x 3 ((t_x 3) + 1)) g26) ∧ ((Vb g26) ∧ ((g26 5 = 0 ∧ g26 4 + 1 ≤ 900000000 ∧ 0 ≤ g26 7 ∧ g26 7 + 120 ≤ 2000000000) ∧ (∀ (z40 : Int) (u_f_x34 : Int → Int) (u_n_x35 : Int → Int) (u_l_x36 : Int → Int) (u_d_x37 : Int → Int) (u_t_x38 : Int → Int), rg z40 → rgA u_f_x34 → rgA u_n_x35 → rgA u_l_x36 → rgA u_d_x37 → rgA u_t_x38 → (z40 = (if rowsAt g26 1 = 0 then -6 else g26 4) ∧ LV u_f_x34 u_n_x35 u_l_x36 u_d_x37 m_x (uZ k_x (t_x 3) key) u_t_x38 (wriZ g26)) → ((0 ≤ (u_t_x38 11) ∧ (u_t_x38 11) < 20) ∧ (rg ((u_t_x38 11) + 1) ∧ (P u_f_x34 u_n_x35 u_l_x36 u_d_x37 (uZ m_x (u_t_x38 11) (t_x 3)) (uZ k_x (t_x 3) key) (uZ c_x (t_x 3) 1) (uZ u_t_x38 11 ((u_t_x38 11) + 1)))))))))) ∧ ((¬ ((t_x 11) = (t_x 0))) → ((0 ≤ (t_x 11) ∧ (t_x 11) < 20) ∧ (rg ((t_x 11) + 1) ∧ (P f_x n_x l_x d_x (uZ m_x (t_x 11) (t_x 3)) (uZ k_x (t_x 3) key) (uZ c_x (t_x 3) 1) (uZ (uZ t_x 3 ((t_x 3) + 1)) 11 ((t_x 11) + 1)))))))))))
set_option maxHeartbeats 4000000 in
theorem sp_L_add (f_x : Int → Int) (n_x : Int → Int) (l_x : Int → Int) (d_x : Int → Int) (m_x : Int → Int) (k_x : Int → Int) (c_x : Int → Int) (t_x : Int → Int) (key : Int) (z : Int → Int) (r_f_x : rgA f_x) (r_n_x : rgA n_x) (r_l_x : rgA l_x) (r_d_x : rgA d_x) (r_m_x : rgA m_x) (r_k_x : rgA k_x) (r_c_x : rgA c_x) (r_t_x : rgA t_x) (r_key : rg key) (p0 : LV f_x n_x l_x d_x m_x k_x t_x z) (p1 : LC c_x z) (p2 : Vz z) (p3 : (z 2 = 1 ∧ z 3 < 56) ∧ z 4 + 1 ≤ 900000000 ∧ z 7 + 120 ≤ 2000000000) (p4 : 0 ≤ key ∧ key ≤ 999) : wp_L_add f_x n_x l_x d_x m_x k_x c_x t_x key (fun f_x' n_x' l_x' d_x' m_x' k_x' c_x' t_x' => LV f_x' n_x' l_x' d_x' m_x' k_x' t_x' (addZ z key) ∧ LC c_x' (addZ z key)) := by
  unfold wp_L_add
  obtain ⟨⟨g2, g3⟩, g4, g7⟩ := p3
  have hb := p2.1
  have hz3 := hb.1
  have hS := (LV_sum hb p0).1
  have p0' := p0
  obtain ⟨⟨t0, t1, t2, t3, t4, t5, t7, t8, t9, t6⟩, hk, hm, hF, hX, hT, h56⟩ := p0'
  have p2' := p2
  obtain ⟨_, ⟨v0, v1, v2, v5, v6, v7, v8, v9⟩, vR, vS, vc, _, _, _, vD, _⟩ := p2
  have hr := RMm_len hm hz3
  have hm0 := hm.1
  obtain ⟨vc5, vc0⟩ := vc g2
  have hrow : ∀ i, 0 ≤ i → i < t_x 11 → 0 ≤ m_x i ∧ m_x i < z 3 ∧ z (250 + m_x i) = 1 := fun i a b => hm.2.1 i a b
  have hNew := LV_new (key := key) ⟨hz3, g3⟩ p0 (z' := newZ z key 1) (newZ_3 hz3) (fun i a b => newZ_lo b (by omega) (by omega) (by omega)) (fun r a b => ⟨newZ_lo (by omega) (by omega) (by omega) (by omega), newZ_lo (by omega) (by omega) (by omega) (by omega)⟩) newZ_k newZ_p
  rw [← t3] at hNew
  have hbN : Vb (newZ z key 1) := newZ_Vb hb (by omega)
  have n3 : newZ z key 1 3 = z 3 + 1 := newZ_3 hz3
  have nl : ∀ i, i < 10 → i ≠ 3 → newZ z key 1 i = z i := fun i a b => newZ_lo b (by omega) (by omega) (by omega)
  have hcn : newZ z key 1 5 = 0 ∧ newZ z key 1 4 + 1 ≤ 900000000 ∧ 0 ≤ newZ z key 1 7 ∧ newZ z key 1 7 + 120 ≤ 2000000000 := by
    rw [nl 5 (by omega) (by omega), nl 4 (by omega) (by omega), nl 7 (by omega) (by omega)]
    omega
  have cn : ∀ r, 0 ≤ r → r < z 3 + 1 → newZ z key 1 (130 + r) = uZ c_x (t_x 3) 1 r := fun r a b => by
    rw [t3]
    by_cases w : r = z 3
    · rw [w, uZ_at]; exact newZ_c
    · rw [uZ_ne w, newZ_lo (by omega) (by omega) (by omega) (by omega)]; exact (p1 r a (by omega)).symm
  have tA : t_x 11 = t_x 0 → samV z key = -6 → ∀ uf un ul ud ut : Int → Int, LV uf un ul ud m_x (uZ k_x (t_x 3) key) ut (wriZ (newZ z key 1)) → (0 ≤ ut 11 ∧ ut 11 < 20) ∧ rg (ut 11 + 1) ∧ (LV uf un ul ud (uZ m_x (ut 11) (t_x 3)) (uZ k_x (t_x 3) key) (uZ ut 11 (ut 11 + 1)) (addZ z key) ∧ LC (uZ c_x (t_x 3) 1) (addZ z key)) := by
    intro ht hs uf un ul ud ut hw
    have hbW : Vb (wriZ (newZ z key 1)) := wriZ_Vb hbN (by omega)
    have w3 : wriZ (newZ z key 1) 3 = z 3 + 1 := by rw [wriZ_lo (by omega) (by omega) (by omega), n3]
    have w0 : rowsAt (wriZ (newZ z key 1)) 1 = 0 := (rowsAt_0 hbW.1).mpr (fun r a b q => by
      rw [w3] at b
      rw [wriZ_pl (by omega) a (by omega)] at q
      have := hbN.2.2.1
      split at q <;> omega)
    have u11 : ut 11 = 0 := by rw [← RMm_len hw.2.2.1 hbW.1]; exact w0
    have wp : wriZ (newZ z key 1) (250 + (wriZ (newZ z key 1) 3 - 1)) = 0 := by
      rw [w3, show z 3 + 1 - 1 = z 3 by omega, wriZ_pl (by omega) hz3 (by omega), newZ_p]; rfl
    have q := LV_mem hbW hw (by omega) wp (by omega)
    have e := (addZ_1 hs (by omega)).trans (wriZ_new (key := key) hb (by omega)).symm
    rw [w3, show z 3 + 1 - 1 = z 3 by omega, ← e] at q
    rw [u11] at q ⊢
    rw [← t3] at q
    refine ⟨by omega, by unfold rg; omega, q, fun r a b => ?_⟩
    rw [e, uZ_ne (by omega), w3] at b
    rw [e]
    exact ((uZ_ne (by omega)).trans ((wriZ_lo (by omega) (by omega) (by omega)).trans (cn r a b))).symm
  have tB : ¬ t_x 11 = t_x 0 → samV z key = -6 → (0 ≤ t_x 11 ∧ t_x 11 < 20) ∧ rg (t_x 11 + 1) ∧ (LV f_x n_x l_x d_x (uZ m_x (t_x 11) (t_x 3)) (uZ k_x (t_x 3) key) (uZ (uZ t_x 3 (t_x 3 + 1)) 11 (t_x 11 + 1)) (addZ z key) ∧ LC (uZ c_x (t_x 3) 1) (addZ z key)) := by
    intro ht hs
    have e := (addZ_2 hs (by omega)).trans (newZ_in (key := key)).symm
    have q := LV_mem hbN hNew (by omega) (by rw [n3, show z 3 + 1 - 1 = z 3 by omega]; exact newZ_p) (by rw [uZ_ne (by omega)]; omega)
    rw [n3, show z 3 + 1 - 1 = z 3 by omega, ← e, uZ_ne (show (11 : Int) ≠ 3 by omega), ← t3] at q
    refine ⟨by omega, by unfold rg; omega, q, fun r a b => ?_⟩
    rw [e, uZ_ne (by omega), n3] at b
    rw [e]
    exact ((uZ_ne (by omega)).trans (cn r a b)).symm
  have tail := fun (hs : samV z key = -6) => (⟨fun c => ⟨newZ z key 1, hNew, hbN, hcn, fun z' uf un ul ud ut _ _ _ _ _ _ hw => tA c hs uf un ul ud ut hw.2⟩, fun c => tB c hs⟩ : (t_x 11 = t_x 0 → ∃ g : Int → Int, LV f_x n_x l_x d_x m_x (uZ k_x (t_x 3) key) (uZ t_x 3 (t_x 3 + 1)) g ∧ Vb g ∧ (g 5 = 0 ∧ g 4 + 1 ≤ 900000000 ∧ 0 ≤ g 7 ∧ g 7 + 120 ≤ 2000000000) ∧ ∀ (z' : Int) (uf un ul ud ut : Int → Int), rg z' → rgA uf → rgA un → rgA ul → rgA ud → rgA ut → (z' = (if rowsAt g 1 = 0 then -6 else g 4) ∧ LV uf un ul ud m_x (uZ k_x (t_x 3) key) ut (wriZ g)) → (0 ≤ ut 11 ∧ ut 11 < 20) ∧ rg (ut 11 + 1) ∧ (LV uf un ul ud (uZ m_x (ut 11) (t_x 3)) (uZ k_x (t_x 3) key) (uZ ut 11 (ut 11 + 1)) (addZ z key) ∧ LC (uZ c_x (t_x 3) 1) (addZ z key))) ∧ (¬ t_x 11 = t_x 0 → (0 ≤ t_x 11 ∧ t_x 11 < 20) ∧ rg (t_x 11 + 1) ∧ (LV f_x n_x l_x d_x (uZ m_x (t_x 11) (t_x 3)) (uZ k_x (t_x 3) key) (uZ (uZ t_x 3 (t_x 3 + 1)) 11 (t_x 11 + 1)) (addZ z key) ∧ LC (uZ c_x (t_x 3) 1) (addZ z key))))
  have kx : ∀ i, 0 ≤ i → i < t_x 11 → uZ k_x (t_x 3) key (m_x i) = z (10 + m_x i) := fun i a b => by
    obtain ⟨x1, x2, x3⟩ := hrow i a b
    rw [uZ_ne (by omega)]; exact hk _ x1 x2
  refine ⟨by unfold rg; omega, by omega, fun x => (0 ≤ x ∧ x ≤ t_x 11) ∧ ∀ j, 0 ≤ j → j < x → t_x 1 = 1 → z (10 + m_x j) ≠ key, fun x => (t_x 11 - x).toNat, ⟨by omega, fun j a b => by omega⟩, ?_⟩
  intro x rx ⟨x0, hx⟩
  refine ⟨fun c1 => ⟨fun c2 => ?_, fun c2 => tail ?_⟩, fun c1 => tail ?_⟩
  · obtain ⟨y1, y2, y3⟩ := hrow x x0.1 c1
    refine ⟨by omega, by omega, fun c3 => ?_, fun c3 => ⟨by unfold rg; omega, ⟨by omega, fun j a b _ => ?_⟩, by dsimp only; omega⟩⟩
    · rw [kx x x0.1 c1] at c3
      have hv : samV z key = m_x x := by
        unfold samV
        rw [if_pos (by omega)]
        rcases samZ_spec (z := z) (k := key) (z 3).toNat with ⟨_, w2⟩ | ⟨w1, w2, w3, w4⟩
        · refine absurd (And.intro y3 c3) ?_
          have := w2 (m_x x).toNat (by omega)
          rw [show (((m_x x).toNat : Nat) : Int) = m_x x by omega] at this
          exact this
        · exact vD (by omega) _ _ w1 (by omega) y1 y2 w3 y3 (by rw [w4, c3])
      have cc := (Vz.cnt p2' ) _ y1 y2
      have e : addZ z key = uZ (newZ z key 0) (130 + m_x x) (z (130 + m_x x) + 1) := by
        have := addZ_3 (z := z) (k := key) (by omega)
        rw [hv] at this
        exact this
      have m3 : newZ z key 0 3 = z 3 + 1 := newZ_3 hz3
      refine ⟨by rw [p1 _ y1 y2]; unfold rg; omega, ?_, fun r a b => ?_⟩
      · have q := LV_new (key := key) ⟨hz3, g3⟩ p0 (z' := addZ z key) (by rw [e, uZ_ne (by omega), m3]) (fun i a b => by rw [e, uZ_ne (by omega)]; exact newZ_lo b (by omega) (by omega) (by omega)) (fun r a b => by rw [e, uZ_ne (by omega), uZ_ne (by omega)]; exact ⟨newZ_lo (by omega) (by omega) (by omega) (by omega), newZ_lo (by omega) (by omega) (by omega) (by omega)⟩) (by rw [e, uZ_ne (by omega)]; exact newZ_k) (by rw [e, uZ_ne (by omega)]; exact newZ_p)
        rw [← t3] at q
        exact q
      · rw [e, uZ_ne (by omega), m3] at b
        rw [e]
        by_cases w : r = z 3
        · rw [w, t3, uZ_at, uZ_ne (by omega)]; exact newZ_c.symm
        · rw [t3, uZ_ne w]
          by_cases w2 : r = m_x x
          · rw [w2, uZ_at, uZ_at, p1 _ y1 y2]
          · rw [uZ_ne w2, uZ_ne (by omega), newZ_lo (by omega) (by omega) (by omega) (by omega)]; exact p1 r a (by omega)
    · by_cases w : j = x
      · rw [w, ← kx x x0.1 c1]; exact c3
      · exact hx j a (by omega) c2
  · unfold samV
    rw [if_neg (by omega)]
  · rcases samV_spec (z := z) (k := key) hz3 with w | ⟨w1, w2, w3, w4, w5⟩
    · exact w
    · obtain ⟨i, i1, i2, i3⟩ := hm.2.2.2 _ w2 w3 w4
      exact absurd (by rw [i3]; exact w5) (hx i i1 (by omega) (by omega))
