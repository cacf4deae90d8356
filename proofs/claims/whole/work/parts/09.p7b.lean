def wp_X7_liesInInput (s : SS) (row : Int) (P : Int → Prop) : Prop :=
  (0 ≤ row ∧ row < 120) ∧ (((((s.2 0) (250 + row)) < 11) → (P 0)) ∧ ((¬ (((s.2 0) (250 + row)) < 11)) → (0 ≤ ((s.2 0) (250 + row)) ∧ ((((((s.2 0) (250 + row)) % 2) = 1) → (P 1)) ∧ ((¬ ((((s.2 0) (250 + row)) % 2) = 1)) → (P 0))))))
set_option maxHeartbeats 1000000 in
theorem sp_X7_liesInInput (s : SS) (row : Int) (r_s : RG s) (r_row : rg row) (p0 : 0 ≤ row ∧ row < 120) : wp_X7_liesInInput s row (fun z => z = (pz (11 ≤ (s.2 0) (250 + row) ∧ (s.2 0) (250 + row) % 2 = 1))) := by
  unfold wp_X7_liesInInput
  (repeat' first | (refine And.intro ?_ ?_) | intro _)
  all_goals first | rfl | assumption | omega | (unfold rg at *; omega) | (exact (pz_t (by omega)).symm) | (exact (pz_f (by omega)).symm)
def wp_X7_rowsInInputs (s : SS)  (P : Int → Prop) : Prop :=
  ∃ (I2 : Int → Int → Prop) (μ3 : Int → Int → Nat), I2 0 0 ∧ ∀ (x1_1 : Int) (x2_1 : Int), rg x1_1 → rg x2_1 → I2 x1_1 x2_1 → (((x2_1 < ((s.2 0) 3)) → ((0 ≤ x2_1 ∧ x2_1 < 120) ∧ (((11 ≤ (s.2 0) (250 + x2_1) ∧ (s.2 0) (250 + x2_1) % 2 = 1) → (rg (x1_1 + 1) ∧ (rg (x2_1 + 1) ∧ (I2 (x1_1 + 1) (x2_1 + 1) ∧ μ3 (x1_1 + 1) (x2_1 + 1) < μ3 x1_1 x2_1)))) ∧ ((¬ (11 ≤ (s.2 0) (250 + x2_1) ∧ (s.2 0) (250 + x2_1) % 2 = 1)) → (rg (x1_1 + 0) ∧ (rg (x2_1 + 1) ∧ (I2 (x1_1 + 0) (x2_1 + 1) ∧ μ3 (x1_1 + 0) (x2_1 + 1) < μ3 x1_1 x2_1))))))) ∧ ((¬ (x2_1 < ((s.2 0) 3))) → (P x1_1)))
set_option maxHeartbeats 1000000 in
theorem sp_X7_rowsInInputs (s : SS)  (r_s : RG s)  (p0 : Vb (s.2 0)) : wp_X7_rowsInInputs s (fun z => z = (riZ (s.2 0))) := by
  unfold wp_X7_rowsInInputs
  have ⟨v1, v2, _⟩ := p0
  refine ⟨fun n r => 0 ≤ r ∧ r ≤ s.2 0 3 ∧ n = sumI (fun r => pz (11 ≤ s.2 0 (250 + r) ∧ s.2 0 (250 + r) % 2 = 1)) r.toNat ∧ 0 ≤ n ∧ n ≤ r, fun _ r => (s.2 0 3 - r).toNat, ⟨by omega, by omega, rfl, by omega, by omega⟩, ?_⟩
  intro n r rn rr ⟨h0, h1, h2, h3, h4⟩
  dsimp only
  have e : sumI (fun r => pz (11 ≤ s.2 0 (250 + r) ∧ s.2 0 (250 + r) % 2 = 1)) (r + 1).toNat = sumI (fun r => pz (11 ≤ s.2 0 (250 + r) ∧ s.2 0 (250 + r) % 2 = 1)) r.toNat + pz (11 ≤ s.2 0 (250 + r) ∧ s.2 0 (250 + r) % 2 = 1) := sumI_S h0
  refine ⟨fun c => ⟨by omega, fun c2 => ?_, fun c2 => ?_⟩, fun c => ?_⟩
  · exact ⟨by unfold rg at *; omega, by unfold rg at *; omega, ⟨by omega, by omega, by rw [e, pz_t c2, h2], by omega, by omega⟩, by omega⟩
  · exact ⟨by unfold rg at *; omega, by unfold rg at *; omega, ⟨by omega, by omega, by rw [e, pz_f c2, h2], by omega, by omega⟩, by omega⟩
  · rw [h2, show r = s.2 0 3 by omega]; rfl
def wp_X7_firstRow (s : SS)  (P : Int → Prop) : Prop :=
  ∃ (I2 : Int → Int → Prop) (μ3 : Int → Int → Nat), I2 (-6) 0 ∧ ∀ (x1_1 : Int) (x2_1 : Int), rg x1_1 → rg x2_1 → I2 x1_1 x2_1 → (((x2_1 < ((s.2 0) 3)) → ((0 ≤ x2_1 ∧ x2_1 < 120) ∧ (((11 ≤ (s.2 0) (250 + x2_1) ∧ (s.2 0) (250 + x2_1) % 2 = 1) → (((x1_1 = (-6)) → (rg (x2_1 + 1) ∧ (I2 x2_1 (x2_1 + 1) ∧ μ3 x2_1 (x2_1 + 1) < μ3 x1_1 x2_1))) ∧ ((¬ (x1_1 = (-6))) → (rg (10 + x2_1) ∧ ((0 ≤ (10 + x2_1) ∧ (10 + x2_1) < 370) ∧ (rg (10 + x1_1) ∧ ((0 ≤ (10 + x1_1) ∧ (10 + x1_1) < 370) ∧ (((((s.2 0) (10 + x2_1)) < ((s.2 0) (10 + x1_1))) → (rg (x2_1 + 1) ∧ (I2 x2_1 (x2_1 + 1) ∧ μ3 x2_1 (x2_1 + 1) < μ3 x1_1 x2_1))) ∧ ((¬ (((s.2 0) (10 + x2_1)) < ((s.2 0) (10 + x1_1)))) → (rg (x2_1 + 1) ∧ (I2 x1_1 (x2_1 + 1) ∧ μ3 x1_1 (x2_1 + 1) < μ3 x1_1 x2_1))))))))))) ∧ ((¬ (11 ≤ (s.2 0) (250 + x2_1) ∧ (s.2 0) (250 + x2_1) % 2 = 1)) → (rg (x2_1 + 1) ∧ (I2 x1_1 (x2_1 + 1) ∧ μ3 x1_1 (x2_1 + 1) < μ3 x1_1 x2_1)))))) ∧ ((¬ (x2_1 < ((s.2 0) 3))) → (P x1_1)))
set_option maxHeartbeats 1000000 in
theorem sp_X7_firstRow (s : SS)  (r_s : RG s)  (p0 : Vb (s.2 0)) : wp_X7_firstRow s (fun z => z = (frV (s.2 0))) := by
  unfold wp_X7_firstRow
  have ⟨v1, v2, _⟩ := p0
  refine ⟨fun b r => 0 ≤ r ∧ r ≤ s.2 0 3 ∧ b = frZ (s.2 0) r.toNat, fun _ r => (s.2 0 3 - r).toNat, ⟨by omega, by omega, rfl⟩, ?_⟩
  intro b r rb rr ⟨h0, h1, h2⟩
  dsimp only
  have e := frZ_S (z := s.2 0) h0
  have hb : b = -6 ∨ (0 ≤ b ∧ b < r) := by
    rw [h2]
    rcases frZ_spec (z := s.2 0) r.toNat with ⟨g, _⟩ | ⟨g1, g2, _⟩
    · exact Or.inl g
    · exact Or.inr ⟨g1, by omega⟩
  rw [← h2] at e
  have kp : ((11 ≤ s.2 0 (250 + r) ∧ s.2 0 (250 + r) % 2 = 1) ∧ (b = -6 ∨ s.2 0 (10 + r) < s.2 0 (10 + b))) → r = frZ (s.2 0) (r + 1).toNat := fun q => by rw [e, if_pos q]
  have kn : ¬ ((11 ≤ s.2 0 (250 + r) ∧ s.2 0 (250 + r) % 2 = 1) ∧ (b = -6 ∨ s.2 0 (10 + r) < s.2 0 (10 + b))) → b = frZ (s.2 0) (r + 1).toNat := fun q => by rw [e, if_neg q]
  refine ⟨fun c => ?_, fun c => by rw [h2, show r = s.2 0 3 by omega]; rfl⟩
  clear h2 e
  (repeat' first | (refine And.intro ?_ ?_) | intro _)
  all_goals (try dsimp only)
  all_goals first | (unfold rg at *; omega) | omega | exact kp (by omega) | exact kn (by omega)
def wp_X7_lastOfOutput (s : SS)  (P : Int → Prop) : Prop :=
  ∃ (I2 : Int → Int → Prop) (μ3 : Int → Int → Nat), I2 (-6) 0 ∧ ∀ (x1_1 : Int) (x2_1 : Int), rg x1_1 → rg x2_1 → I2 x1_1 x2_1 → (((x2_1 < ((s.2 0) 3)) → ((0 ≤ x2_1 ∧ x2_1 < 120) ∧ (((((s.2 0) (250 + x2_1)) = 2) → (((x1_1 = (-6)) → (rg (x2_1 + 1) ∧ (I2 x2_1 (x2_1 + 1) ∧ μ3 x2_1 (x2_1 + 1) < μ3 x1_1 x2_1))) ∧ ((¬ (x1_1 = (-6))) → (rg (10 + x2_1) ∧ ((0 ≤ (10 + x2_1) ∧ (10 + x2_1) < 370) ∧ (rg (10 + x1_1) ∧ ((0 ≤ (10 + x1_1) ∧ (10 + x1_1) < 370) ∧ (((((s.2 0) (10 + x2_1)) < ((s.2 0) (10 + x1_1))) → (rg (x2_1 + 1) ∧ (I2 x1_1 (x2_1 + 1) ∧ μ3 x1_1 (x2_1 + 1) < μ3 x1_1 x2_1))) ∧ ((¬ (((s.2 0) (10 + x2_1)) < ((s.2 0) (10 + x1_1)))) → (rg (x2_1 + 1) ∧ (I2 x2_1 (x2_1 + 1) ∧ μ3 x2_1 (x2_1 + 1) < μ3 x1_1 x2_1))))))))))) ∧ ((¬ (((s.2 0) (250 + x2_1)) = 2)) → (rg (x2_1 + 1) ∧ (I2 x1_1 (x2_1 + 1) ∧ μ3 x1_1 (x2_1 + 1) < μ3 x1_1 x2_1)))))) ∧ ((¬ (x2_1 < ((s.2 0) 3))) → (P x1_1)))
set_option maxHeartbeats 1000000 in
theorem sp_X7_lastOfOutput (s : SS)  (r_s : RG s)  (p0 : Vb (s.2 0)) : wp_X7_lastOfOutput s (fun z => z = (loV (s.2 0))) := by
  unfold wp_X7_lastOfOutput
  have ⟨v1, v2, _⟩ := p0
  refine ⟨fun b r => 0 ≤ r ∧ r ≤ s.2 0 3 ∧ b = loZ (s.2 0) r.toNat, fun _ r => (s.2 0 3 - r).toNat, ⟨by omega, by omega, rfl⟩, ?_⟩
  intro b r rb rr ⟨h0, h1, h2⟩
  dsimp only
  have e := loZ_S (z := s.2 0) h0
  have hb : b = -6 ∨ (0 ≤ b ∧ b < r) := by
    rw [h2]
    rcases loZ_spec (z := s.2 0) r.toNat with ⟨g, _⟩ | ⟨g1, g2, _⟩
    · exact Or.inl g
    · exact Or.inr ⟨g1, by omega⟩
  rw [← h2] at e
  have kp : (s.2 0 (250 + r) = 2 ∧ (b = -6 ∨ s.2 0 (10 + b) ≤ s.2 0 (10 + r))) → r = loZ (s.2 0) (r + 1).toNat := fun q => by rw [e, if_pos q]
  have kn : ¬ (s.2 0 (250 + r) = 2 ∧ (b = -6 ∨ s.2 0 (10 + b) ≤ s.2 0 (10 + r))) → b = loZ (s.2 0) (r + 1).toNat := fun q => by rw [e, if_neg q]
  refine ⟨fun c => ?_, fun c => by rw [h2, show r = s.2 0 3 by omega]; rfl⟩
  clear h2 e
  (repeat' first | (refine And.intro ?_ ?_) | intro _)
  all_goals (try dsimp only)
  all_goals first | (unfold rg at *; omega) | omega | exact kp (by omega) | exact kn (by omega)
def wp_X7_smallest (s : SS)  (P : Int → Prop) : Prop :=
  (Vb (s.2 0)) ∧ (∃ (I7 : Int → Int → Int → Prop) (μ8 : Int → Int → Int → Nat), I7 (-6) 0 (nxP (s.2 0) (0 : Int) (0 : Int) ((s.2 0) 3).toNat) ∧ ∀ (x1_6 : Int) (x2_6 : Int) (x3_6 : Int), rg x1_6 → rg x2_6 → rg x3_6 → I7 x1_6 x2_6 x3_6 → (((x3_6 = (-6)) → (P x1_6)) ∧ ((¬ (x3_6 = (-6))) → (((x1_6 = (-6)) → (I7 x3_6 (rowsAt (s.2 0) x3_6) (nxP (s.2 0) x3_6 (0 : Int) ((s.2 0) 3).toNat) ∧ μ8 x3_6 (rowsAt (s.2 0) x3_6) (nxP (s.2 0) x3_6 (0 : Int) ((s.2 0) 3).toNat) < μ8 x1_6 x2_6 x3_6)) ∧ ((¬ (x1_6 = (-6))) → ((((rowsAt (s.2 0) x3_6) < x2_6) → (I7 x3_6 (rowsAt (s.2 0) x3_6) (nxP (s.2 0) x3_6 (0 : Int) ((s.2 0) 3).toNat) ∧ μ8 x3_6 (rowsAt (s.2 0) x3_6) (nxP (s.2 0) x3_6 (0 : Int) ((s.2 0) 3).toNat) < μ8 x1_6 x2_6 x3_6)) ∧ ((¬ ((rowsAt (s.2 0) x3_6) < x2_6)) → (I7 x1_6 x2_6 (nxP (s.2 0) x3_6 (0 : Int) ((s.2 0) 3).toNat) ∧ μ8 x1_6 x2_6 (nxP (s.2 0) x3_6 (0 : Int) ((s.2 0) 3).toNat) < μ8 x1_6 x2_6 x3_6))))))))
set_option maxHeartbeats 1000000 in
theorem sp_X7_smallest (s : SS)  (r_s : RG s)  (p0 : Vb (s.2 0)) (p1 : 0 < manyZ (s.2 0) 0) : wp_X7_smallest s (fun z => z = (smlZ (s.2 0))) := by
  unfold wp_X7_smallest
  refine ⟨p0, ?_⟩
  have hz := p0
  obtain ⟨v1, v2, v3, v4, v5⟩ := p0
  refine ⟨fun best least p => (p = -6 ∧ best = bstZ (smK (s.2 0) (s.2 0 4).toNat)) ∨ ∃ K : Int, 0 ≤ K ∧ K < s.2 0 4 ∧ p = 10 + 2 * K ∧ 0 < rowsAt (s.2 0) p ∧ best = bstZ (smK (s.2 0) K.toNat) ∧ (smK (s.2 0) K.toNat ≠ -1 → least = rowsAt (s.2 0) (10 + 2 * smK (s.2 0) K.toNat)), fun _ _ p => if p = -6 then 0 else (2 * s.2 0 4 + 20 - p).toNat, ?_, ?_⟩
  · rcases many_step0 hz 0 0 (by omega) v3 (Or.inr ⟨rfl, rfl⟩) with ⟨g1, g2⟩ | ⟨K', g1, g2, g3, g4, g5⟩
    · refine Or.inl ⟨g1, ?_⟩
      rw [smK_skip (K := 0) (K' := s.2 0 4) (by omega) v3 g2]; rfl
    · refine Or.inr ⟨K', g1, g2, g3, by rw [g3]; exact g4, ?_, fun h => absurd ?_ h⟩
      · rw [smK_skip (K := 0) (K' := K') (by omega) g1 g5]; rfl
      · rw [smK_skip (K := 0) (K' := K') (by omega) g1 g5]; rfl
  intro best least p rb rl rp hI
  dsimp only
  refine ⟨fun c => ?_, fun c => ?_⟩
  · rcases hI with ⟨_, h⟩ | ⟨K, h1, h2, h3, _⟩
    · obtain ⟨s1, _⟩ := sml_spec v3 p1
      rw [h]
      unfold bstZ smlZ
      rw [if_neg (by omega)]
    · omega
  rcases hI with ⟨h, _⟩ | ⟨K, h1, h2, h3, h4, h5, h6⟩
  · exact absurd h c
  have sp := smK_spec (z := s.2 0) K.toNat
  have es := smK_S (z := s.2 0) h1
  rw [h3] at h4
  have nextI : ∀ best' least' : Int, best' = bstZ (smK (s.2 0) (K + 1).toNat) → (smK (s.2 0) (K + 1).toNat ≠ -1 → least' = rowsAt (s.2 0) (10 + 2 * smK (s.2 0) (K + 1).toNat)) → (((nxP (s.2 0) p 0 (s.2 0 3).toNat = -6 ∧ best' = bstZ (smK (s.2 0) (s.2 0 4).toNat)) ∨ ∃ K : Int, 0 ≤ K ∧ K < s.2 0 4 ∧ nxP (s.2 0) p 0 (s.2 0 3).toNat = 10 + 2 * K ∧ 0 < rowsAt (s.2 0) (nxP (s.2 0) p 0 (s.2 0 3).toNat) ∧ best' = bstZ (smK (s.2 0) K.toNat) ∧ (smK (s.2 0) K.toNat ≠ -1 → least' = rowsAt (s.2 0) (10 + 2 * smK (s.2 0) K.toNat))) ∧ (if nxP (s.2 0) p 0 (s.2 0 3).toNat = -6 then 0 else (2 * s.2 0 4 + 20 - nxP (s.2 0) p 0 (s.2 0 3).toNat).toNat) < (if p = -6 then 0 else (2 * s.2 0 4 + 20 - p).toNat)) := by
    intro best' least' e1 e2
    rw [if_neg c]
    rcases many_step0 hz p (K + 1) (by omega) (by omega) (Or.inl (by omega)) with ⟨g1, g2⟩ | ⟨K', g1, g2, g3, g4, g5⟩
    · refine ⟨Or.inl ⟨g1, ?_⟩, by rw [if_pos g1]; omega⟩
      rw [smK_skip (K := K + 1) (K' := s.2 0 4) (by omega) (by omega) g2]; exact e1
    · refine ⟨Or.inr ⟨K', by omega, g2, g3, by rw [g3]; exact g4, ?_, ?_⟩, by rw [if_neg (by omega), g3]; omega⟩
      · rw [smK_skip (K := K + 1) (K' := K') (by omega) g1 g5]; exact e1
      · rw [smK_skip (K := K + 1) (K' := K') (by omega) g1 g5]; exact e2
  have hbst : bstZ K = p := by unfold bstZ; rw [if_neg (by omega)]; omega
  have hk : smK (s.2 0) K.toNat = -1 ∨ 0 ≤ smK (s.2 0) K.toNat := by
    rcases sp with ⟨g, _⟩ | ⟨g, _⟩
    · exact Or.inl g
    · exact Or.inr g
  refine ⟨fun c2 => ?_, fun c2 => ⟨fun c3 => ?_, fun c3 => ?_⟩⟩
  · have hk1 : smK (s.2 0) K.toNat = -1 := by
      rcases hk with q | q
      · exact q
      · rw [h5] at c2
        unfold bstZ at c2
        rw [if_neg (by omega)] at c2
        omega
    rw [if_pos ⟨h4, Or.inl hk1⟩] at es
    exact nextI _ _ (by rw [es, hbst]) (fun _ => by rw [es, h3])
  · have hk1 : smK (s.2 0) K.toNat ≠ -1 := fun q => c2 (by rw [h5, q]; rfl)
    rw [if_pos ⟨h4, Or.inr (by rw [← h6 hk1, ← h3]; exact c3)⟩] at es
    exact nextI _ _ (by rw [es, hbst]) (fun _ => by rw [es, h3])
  · have hk1 : smK (s.2 0) K.toNat ≠ -1 := fun q => c2 (by rw [h5, q]; rfl)
    rw [if_neg (fun x => by rcases x.2 with y | y; exact hk1 y; rw [← h6 hk1, ← h3] at y; exact c3 y)] at es
    exact nextI _ _ (by rw [es, h5]) (fun h => by rw [es]; exact h6 hk1)
def wp_X7_begins (s : SS)  (P : SS → Prop) : Prop :=
  (Vb (s.2 0)) ∧ ((0 ≤ ((s.2 0) 0) ∧ ((s.2 0) 0) ≤ 1000) ∧ (((((manyZ (s.2 0) 0) < (waysZ ((s.2 0) 0))) → (True)) ∧ ((¬ ((manyZ (s.2 0) 0) < (waysZ ((s.2 0) 0)))) → (True))) ∧ (∃ (I23 : Int → SS → Prop) (μ24 : Int → SS → Nat), I23 0 (sA s 0 (uZ (s.2 0) 6 (if (manyZ (s.2 0) 0) < (waysZ ((s.2 0) 0)) then manyZ (s.2 0) 0 else waysZ ((s.2 0) 0)))) ∧ ∀ (x3_22 : Int) (s0_22 : SS), rg x3_22 → RG s0_22 → I23 x3_22 s0_22 → (((x3_22 < ((s0_22.2 0) 6)) → ((Vb (s0_22.2 0)) ∧ ((0 < manyZ (s0_22.2 0) 0) ∧ (∃ (I45 : Int → SS → Prop) (μ46 : Int → SS → Nat), I45 0 s0_22 ∧ ∀ (x5_44 : Int) (s0_44 : SS), rg x5_44 → RG s0_44 → I45 x5_44 s0_44 → (((x5_44 < ((s0_44.2 0) 3)) → (rg (250 + x5_44) ∧ ((0 ≤ x5_44 ∧ x5_44 < 120) ∧ (((((s0_44.2 0) (250 + x5_44)) = (smlZ (s0_22.2 0))) → (rg ((smlZ (s0_22.2 0)) + 1) ∧ ((0 ≤ (250 + x5_44) ∧ (250 + x5_44) < 370) ∧ (rg (x5_44 + 1) ∧ (I45 (x5_44 + 1) (sA s0_44 0 (uZ (s0_44.2 0) (250 + x5_44) ((smlZ (s0_22.2 0)) + 1))) ∧ μ46 (x5_44 + 1) (sA s0_44 0 (uZ (s0_44.2 0) (250 + x5_44) ((smlZ (s0_22.2 0)) + 1))) < μ46 x5_44 s0_44))))) ∧ ((¬ (((s0_44.2 0) (250 + x5_44)) = (smlZ (s0_22.2 0)))) → ((0 ≤ (250 + x5_44) ∧ (250 + x5_44) < 370) ∧ (rg (x5_44 + 1) ∧ (I45 (x5_44 + 1) (sA s0_44 0 (uZ (s0_44.2 0) (250 + x5_44) ((s0_44.2 0) (250 + x5_44)))) ∧ μ46 (x5_44 + 1) (sA s0_44 0 (uZ (s0_44.2 0) (250 + x5_44) ((s0_44.2 0) (250 + x5_44)))) < μ46 x5_44 s0_44)))))))) ∧ ((¬ (x5_44 < ((s0_44.2 0) 3))) → (rg (x3_22 + 1) ∧ (I23 (x3_22 + 1) s0_44 ∧ μ24 (x3_22 + 1) s0_44 < μ24 x3_22 s0_22)))))))) ∧ ((¬ (x3_22 < ((s0_22.2 0) 6))) → (rg (((s0_22.2 0) 8) + 1) ∧ (P (sA s0_22 0 (uZ (uZ (s0_22.2 0) 5 1) 8 (((s0_22.2 0) 8) + 1))))))))))
set_option maxHeartbeats 1000000 in
theorem sp_X7_begins (s : SS)  (r_s : RG s)  (p0 : Vb (s.2 0)) (p1 : 2 ≤ (s.2 0) 0 ∧ (s.2 0) 0 ≤ 20) (p2 : rg ((s.2 0) 8 + 1)) : wp_X7_begins s (fun o0 => o0 = (sA s 0 (begZ (s.2 0)))) := by
  unfold wp_X7_begins
  have hz := p0
  obtain ⟨v1, v2, v3, v4, v5⟩ := p0
  have hm := manyZ_nn (z := s.2 0) (k := 0) v3
  have eI : (if manyZ (s.2 0) 0 < waysZ (s.2 0 0) then manyZ (s.2 0) 0 else waysZ (s.2 0 0)) = begN (s.2 0) := by
    unfold begN
    split <;> omega
  have hw : 1 ≤ waysZ (s.2 0 0) ∧ waysZ (s.2 0 0) ≤ 8 := by unfold waysZ; omega
  have hN : 0 ≤ begN (s.2 0) ∧ begN (s.2 0) ≤ manyZ (s.2 0) 0 ∧ begN (s.2 0) ≤ 8 := by unfold begN; omega
  rw [eI]
  refine ⟨hz, by omega, ⟨fun _ => trivial, fun _ => trivial⟩, ?_⟩
  have hz6 : Vb (uZ (s.2 0) 6 (begN (s.2 0))) := Vb_lo hz (by omega) (by omega) (by omega)
  have hm6 : manyZ (uZ (s.2 0) 6 (begN (s.2 0))) 0 = manyZ (s.2 0) 0 := manyZ_lo (by omega) (by omega) (by omega)
  refine ⟨fun k t => 0 ≤ k ∧ k ≤ begN (s.2 0) ∧ t = sA s 0 (bgI (uZ (s.2 0) 6 (begN (s.2 0))) k.toNat), fun k _ => (begN (s.2 0) - k).toNat, ⟨by omega, by omega, rfl⟩, ?_⟩
  intro k t rk rt ⟨h0, h1, h2⟩
  subst h2
  obtain ⟨b1, b2, b3⟩ := bg_inv hz6 k.toNat (by omega)
  generalize hzk : bgI (uZ (s.2 0) 6 (begN (s.2 0))) k.toNat = zk at b1 b2 b3
  dsimp only
  rw [sA_at]
  have e6 : zk 6 = begN (s.2 0) := by rw [b2 6 (by omega), uZ_at]
  have e8 : zk 8 = s.2 0 8 := by rw [b2 8 (by omega), uZ_ne (by omega)]
  have b1' := b1
  obtain ⟨w1, w2, w3, w4, w5⟩ := b1'
  refine ⟨fun c => ⟨b1, by omega, ?_⟩, fun c => ⟨by rw [e8]; exact p2, ?_⟩⟩
  · obtain ⟨s1, s2, s3, _⟩ := sml_spec (z := zk) w3 (by omega)
    have hp : smlZ zk = 10 + 2 * smK zk (zk 4).toNat := rfl
    generalize hP : smlZ zk = P at s3 hp
    refine ⟨fun r t => 0 ≤ r ∧ r ≤ zk 3 ∧ t = sA s 0 (mvF zk P r), fun r _ => (zk 3 - r).toNat, ⟨by omega, by omega, by rw [mvF_0]⟩, ?_⟩
    intro r t rr rt ⟨g0, g1, g2⟩
    subst g2
    dsimp only
    rw [sA_at]
    have e3 : mvF zk P r 3 = zk 3 := mvF_lo (by omega)
    have er : mvF zk P r (250 + r) = zk (250 + r) := mvF_hi (by omega)
    rw [e3, er, sA_sA, sA_sA]
    refine ⟨fun c2 => ⟨by unfold rg at *; omega, by omega, fun c3 => ?_, fun c3 => ?_⟩, fun c2 => ?_⟩
    · refine ⟨by unfold rg; omega, by omega, by unfold rg at *; omega, ⟨by omega, by omega, ?_⟩, by omega⟩
      rw [mvF_S g0 (by rw [if_pos c3])]
    · refine ⟨by omega, by unfold rg at *; omega, ⟨by omega, by omega, ?_⟩, by omega⟩
      rw [mvF_S g0 (by rw [if_neg c3])]
    · refine ⟨by unfold rg at *; omega, ⟨by omega, by omega, ?_⟩, by omega⟩
      rw [show (k + 1).toNat = k.toNat + 1 by omega, bgI, hzk, show r = zk 3 by omega, hP]
      rfl
  · rw [sA_sA, e8]
    unfold begZ
    rw [← hzk, show k = begN (s.2 0) by omega]
def wp_X7_finishes (s : SS)  (P : SS → Prop) : Prop :=
  (Vb (s.2 0)) ∧ ((rg ((s.2 0) 7 + rowsAt (s.2 0) 1)) ∧ (P (sA s 0 (uZ (wriZ (s.2 0)) 2 0))))
set_option maxHeartbeats 1000000 in
theorem sp_X7_finishes (s : SS)  (r_s : RG s)  (p0 : Vb (s.2 0)) (p1 : rg ((s.2 0) 7 + rowsAt (s.2 0) 1)) : wp_X7_finishes s (fun o0 => o0 = (sA s 0 (uZ (wriZ (s.2 0)) 2 0))) := by
  unfold wp_X7_finishes
  exact ⟨p0, p1, rfl⟩
def wp_X7_inputsLeft (s : SS)  (P : Int → Prop) : Prop :=
  (Vb (s.2 0)) ∧ (((1 : Int) = 0 ∨ (1 : Int) = 1) ∧ (P (manyZ (s.2 0) (1 : Int))))
set_option maxHeartbeats 1000000 in
theorem sp_X7_inputsLeft (s : SS)  (r_s : RG s)  (p0 : Vb (s.2 0)) : wp_X7_inputsLeft s (fun z => z = (manyZ (s.2 0) 1)) := by
  unfold wp_X7_inputsLeft
  exact ⟨p0, Or.inr rfl, rfl⟩
def wp_X7_cut (s : SS)  (P : Int → SS → Prop) : Prop :=
  (Vb (s.2 0)) ∧ ((((0 < (rowsAt (s.2 0) (2 : Int))) → (True)) ∧ ((¬ (0 < (rowsAt (s.2 0) (2 : Int)))) → (True))) ∧ ((Vb (if 0 < (rowsAt (s.2 0) (2 : Int)) then becm (s.2 0) (2 : Int) else (s.2 0))) ∧ (∃ (I27 : Int → SS → Prop) (μ28 : Int → SS → Nat), I27 (nxP (if 0 < (rowsAt (s.2 0) (2 : Int)) then becm (s.2 0) (2 : Int) else (s.2 0)) (0 : Int) (1 : Int) ((if 0 < (rowsAt (s.2 0) (2 : Int)) then becm (s.2 0) (2 : Int) else (s.2 0)) 3).toNat) (sA s 0 (if 0 < (rowsAt (s.2 0) (2 : Int)) then becm (s.2 0) (2 : Int) else (s.2 0))) ∧ ∀ (x2_26 : Int) (s0_26 : SS), rg x2_26 → RG s0_26 → I27 x2_26 s0_26 → (((x2_26 = (-6)) → (rg (((s0_26.2 0) 9) + 1) ∧ (rg (((s0_26.2 0) 4) - ((s.2 0) 4)) ∧ (P (((s0_26.2 0) 4) - ((s.2 0) 4)) (sA s0_26 0 (uZ (uZ (s0_26.2 0) 5 0) 9 (((s0_26.2 0) 9) + 1))))))) ∧ ((¬ (x2_26 = (-6))) → ((Vb (s0_26.2 0)) ∧ ((Vb (becm (s0_26.2 0) x2_26)) ∧ (I27 (nxP (becm (s0_26.2 0) x2_26) x2_26 (1 : Int) ((becm (s0_26.2 0) x2_26) 3).toNat) (sA s0_26 0 (becm (s0_26.2 0) x2_26)) ∧ μ28 (nxP (becm (s0_26.2 0) x2_26) x2_26 (1 : Int) ((becm (s0_26.2 0) x2_26) 3).toNat) (sA s0_26 0 (becm (s0_26.2 0) x2_26)) < μ28 x2_26 s0_26))))))))
set_option maxHeartbeats 1000000 in
theorem sp_X7_cut (s : SS)  (r_s : RG s)  (p0 : Vb (s.2 0)) (p1 : (s.2 0) 4 + 1 + manyZ (s.2 0) 1 ≤ 900000000) (p2 : rg ((s.2 0) 9 + 1)) : wp_X7_cut s (fun z o0 => z = (pz (0 < rowsAt (s.2 0) 2) + manyZ (s.2 0) 1) ∧ o0 = (sA s 0 (cutZ (s.2 0)))) := by
  unfold wp_X7_cut
  have hz := p0
  have ⟨v1, v2, v3, v4, v5⟩ := p0
  have hm := manyZ_nn (z := s.2 0) (k := 1) v3
  have ho := pz_01 (0 < rowsAt (s.2 0) 2)
  rw [← ctF_0]
  have V : ∀ K, 0 ≤ K → K ≤ s.2 0 4 → Vb (ctF (s.2 0) K) ∧ s.2 0 4 + pz (0 < rowsAt (s.2 0) 2) + sumI (fun k => pz (0 < rowsAt (s.2 0) (10 + 2 * k + 1))) K.toNat ≤ s.2 0 4 + 1 + manyZ (s.2 0) 1 := by
    intro K h0 h1
    have h2 : sumI (fun k => pz (0 < rowsAt (s.2 0) (10 + 2 * k + 1))) K.toNat ≤ manyZ (s.2 0) 1 := sumI_mono (fun k => pz_nn _) (by omega)
    exact ⟨ctF_Vb hz h0 (by omega), by omega⟩
  have e3 : ∀ K, ctF (s.2 0) K 3 = s.2 0 3 := fun K => ctF_lo (by omega) (by omega)
  have hz0 : Vb (ctF (s.2 0) 0) := (V 0 (by omega) v3).1
  refine ⟨hz, ?_, hz0, ?_⟩
  · first | exact ⟨fun _ => trivial, fun _ => trivial⟩ | exact ⟨fun _ => ⟨hz, trivial⟩, fun _ => trivial⟩
  rw [e3]
  refine ⟨fun p t => (p = -6 ∧ t = sA s 0 (ctF (s.2 0) (s.2 0 4))) ∨ ∃ K : Int, 0 ≤ K ∧ K < s.2 0 4 ∧ p = 11 + 2 * K ∧ 0 < rowsAt (s.2 0) (10 + 2 * K + 1) ∧ t = sA s 0 (ctF (s.2 0) K), fun p _ => if p = -6 then 0 else (2 * s.2 0 4 + 20 - p).toNat, ?_, ?_⟩
  · rw [ctF_nx (K := 0) (b := 0) (Or.inr rfl)]
    rcases many_step (Or.inr rfl) hz 0 0 (by omega) v3 (Or.inr ⟨rfl, rfl⟩) with ⟨g1, _, g2⟩ | ⟨K', g1, g2, g3, g4, g5, _⟩
    · exact Or.inl ⟨g1, by rw [ctF_skip (K := 0) (K' := s.2 0 4) (by omega) v3 g2]⟩
    · exact Or.inr ⟨K', g1, g2, by omega, g4, by rw [ctF_skip (K := 0) (K' := K') (by omega) g1 g5]⟩
  intro p t rp rt hI
  dsimp only
  refine ⟨fun c => ?_, fun c => ?_⟩
  · rcases hI with ⟨_, h⟩ | ⟨K, h1, h2, h3, _⟩
    · subst h
      have := V (s.2 0 4) v3 (by omega)
      have e4 := ctF_4 (z := s.2 0) (K := s.2 0 4)
      rw [sA_at, sA_sA, ctF_lo (i := 9) (by omega) (by omega), ctF_end hz, e4]
      refine ⟨p2, ?_, ?_, rfl⟩
      · unfold rg
        change _ ≤ _ ∧ s.2 0 4 + pz (0 < rowsAt (s.2 0) 2) + manyZ (s.2 0) 1 - s.2 0 4 ≤ _
        have h5 : sumI (fun k => pz (0 < rowsAt (s.2 0) (10 + 2 * k + 1))) (s.2 0 4).toNat = manyZ (s.2 0) 1 := rfl
        rw [h5]
        omega
      · have h5 : sumI (fun k => pz (0 < rowsAt (s.2 0) (10 + 2 * k + 1))) (s.2 0 4).toNat = manyZ (s.2 0) 1 := rfl
        rw [h5]
        omega
    · omega
  rcases hI with ⟨h, _⟩ | ⟨K, h1, h2, h3, h4, h5⟩
  · exact absurd h c
  subst h5
  rw [sA_at, sA_sA, h3, ctF_step h1 h4, e3]
  rw [h3] at c
  refine ⟨(V K h1 (by omega)).1, ?_⟩
  have hv := (V (K + 1) (by omega) (by omega)).1
  have hnx := ctF_nx (z := s.2 0) (K := K + 1) (b := 11 + 2 * K) (Or.inl (by omega))
  rw [if_neg c, hnx]
  first
  | refine ⟨hv, ?_, ?_⟩
    · rcases many_step (Or.inr rfl) hz (11 + 2 * K) (K + 1) (by omega) (by omega) (Or.inl (by omega)) with ⟨g1, _, g2⟩ | ⟨K', g1, g2, g3, g4, g5, _⟩
      · exact Or.inl ⟨g1, by rw [ctF_skip (K := K + 1) (K' := s.2 0 4) (by omega) (by omega) g2]⟩
      · exact Or.inr ⟨K', by omega, g2, by omega, g4, by rw [ctF_skip (K := K + 1) (K' := K') (by omega) g1 g5]⟩
    · rcases many_step (Or.inr rfl) hz (11 + 2 * K) (K + 1) (by omega) (by omega) (Or.inl (by omega)) with ⟨g1, _, g2⟩ | ⟨K', g1, g2, g3, g4, g5, _⟩
      · rw [if_pos g1]; omega
      · rw [if_neg (by omega), g3]; omega
def wp_X7_grants (s : SS) (size : Int) (P : Int → SS → Prop) : Prop :=
  ((((s.2 0) 2) = 1) → ((Vb (uZ (s.2 0) 0 size)) ∧ (((size < (rowsAt (uZ (s.2 0) 0 size) (1 : Int))) → ((rg ((uZ (s.2 0) 0 size) 7 + rowsAt (uZ (s.2 0) 0 size) 1)) ∧ (P 1 (sA s 0 (wriZ (uZ (s.2 0) 0 size)))))) ∧ ((¬ (size < (rowsAt (uZ (s.2 0) 0 size) (1 : Int)))) → (((((s.2 0) 5) = 1) → ((0 ≤ size ∧ size ≤ 1000) ∧ ((((waysZ size) < (manyZ (uZ (s.2 0) 0 size) 1)) → (((uZ (s.2 0) 0 size) 4 + 1 + manyZ (uZ (s.2 0) 0 size) 1 ≤ 900000000) ∧ ((rg ((uZ (s.2 0) 0 size) 9 + 1)) ∧ (P (pz (0 < rowsAt (uZ (s.2 0) 0 size) 2) + manyZ (uZ (s.2 0) 0 size) 1) (sA s 0 (cutZ (uZ (s.2 0) 0 size))))))) ∧ ((¬ ((waysZ size) < (manyZ (uZ (s.2 0) 0 size) 1))) → (P 0 (sA s 0 (uZ (s.2 0) 0 size))))))) ∧ ((¬ (((s.2 0) 5) = 1)) → (P 0 (sA s 0 (uZ (s.2 0) 0 size))))))))) ∧ ((¬ (((s.2 0) 2) = 1)) → (((((s.2 0) 5) = 1) → ((Vb (uZ (s.2 0) 0 size)) ∧ ((0 ≤ size ∧ size ≤ 1000) ∧ ((((waysZ size) < (manyZ (uZ (s.2 0) 0 size) 1)) → (((uZ (s.2 0) 0 size) 4 + 1 + manyZ (uZ (s.2 0) 0 size) 1 ≤ 900000000) ∧ ((rg ((uZ (s.2 0) 0 size) 9 + 1)) ∧ (P (pz (0 < rowsAt (uZ (s.2 0) 0 size) 2) + manyZ (uZ (s.2 0) 0 size) 1) (sA s 0 (cutZ (uZ (s.2 0) 0 size))))))) ∧ ((¬ ((waysZ size) < (manyZ (uZ (s.2 0) 0 size) 1))) → (P 0 (sA s 0 (uZ (s.2 0) 0 size)))))))) ∧ ((¬ (((s.2 0) 5) = 1)) → (P 0 (sA s 0 (uZ (s.2 0) 0 size))))))
set_option maxHeartbeats 1000000 in
theorem sp_X7_grants (s : SS) (size : Int) (r_s : RG s) (r_size : rg size) (p0 : Vb (s.2 0)) (p1 : 2 ≤ size ∧ size ≤ 20) (p2 : rg ((s.2 0) 7 + rowsAt (s.2 0) 1)) (p3 : (s.2 0) 4 + 1 + manyZ (s.2 0) 1 ≤ 900000000) (p4 : rg ((s.2 0) 9 + 1)) : wp_X7_grants s size (fun z o0 => z = (graA (s.2 0) size) ∧ o0 = (sA s 0 (graZ (s.2 0) size))) := by
  unfold wp_X7_grants
  have hz := p0
  have ⟨v1, v2, v3, v4, v5⟩ := p0
  have hz2 : Vb (uZ (s.2 0) 0 size) := Vb_lo hz (by omega) (by omega) (by omega)
  have er : rowsAt (uZ (s.2 0) 0 size) 1 = rowsAt (s.2 0) 1 := rowsAt_lo (by omega) (by omega)
  have er2 : rowsAt (uZ (s.2 0) 0 size) 2 = rowsAt (s.2 0) 2 := rowsAt_lo (by omega) (by omega)
  have em : manyZ (uZ (s.2 0) 0 size) 1 = manyZ (s.2 0) 1 := manyZ_lo (by omega) (by omega) (by omega)
  have e7 : uZ (s.2 0) 0 size 7 = s.2 0 7 := uZ_ne (by omega)
  have e4 : uZ (s.2 0) 0 size 4 = s.2 0 4 := uZ_ne (by omega)
  have e9 : uZ (s.2 0) 0 size 9 = s.2 0 9 := uZ_ne (by omega)
  rw [er, em, er2]
  unfold graA graZ
  have p2' : rg (uZ (s.2 0) 0 size 7 + rowsAt (s.2 0) 1) := by rw [e7]; exact p2
  have p3' : uZ (s.2 0) 0 size 4 + 1 + manyZ (s.2 0) 1 ≤ 900000000 := by rw [e4]; exact p3
  have p4' : rg (uZ (s.2 0) 0 size 9 + 1) := by rw [e9]; exact p4
  (repeat' first | exact hz2 | exact p2' | exact p4' | (refine And.intro ?_ ?_) | intro _)
  all_goals first
    | assumption
    | omega
    | (rw [if_pos ⟨by assumption, by assumption⟩]; done)
    | (rw [if_neg (by omega), if_pos ⟨by assumption, by assumption⟩]; done)
    | (rw [if_neg (by omega), if_neg (by omega)]; done)
def wp_X7_steps (s : SS)  (P : SS → Prop) : Prop :=
  (Vb (s.2 0)) ∧ (rg (((s.2 0) 7) + 1) ∧ (((((s.2 0) 1) = 1) → ((((loV (s.2 0)) = (-6)) → (rg (250 + (frV (s.2 0))) ∧ ((0 ≤ (250 + (frV (s.2 0))) ∧ (250 + (frV (s.2 0))) < 370) ∧ (rg (((uZ (uZ (s.2 0) 7 (((s.2 0) 7) + 1)) (250 + (frV (s.2 0))) 2) 7) + 1) ∧ ((Vb (uZ (uZ (uZ (s.2 0) 7 (((s.2 0) 7) + 1)) (250 + (frV (s.2 0))) 2) 7 (((uZ (uZ (s.2 0) 7 (((s.2 0) 7) + 1)) (250 + (frV (s.2 0))) 2) 7) + 1))) ∧ ((((riZ (uZ (uZ (uZ (s.2 0) 7 (((s.2 0) 7) + 1)) (250 + (frV (s.2 0))) 2) 7 (((uZ (uZ (s.2 0) 7 (((s.2 0) 7) + 1)) (250 + (frV (s.2 0))) 2) 7) + 1))) = 0) → (P (sA s 0 (uZ (becm (uZ (uZ (uZ (s.2 0) 7 (((s.2 0) 7) + 1)) (250 + (frV (s.2 0))) 2) 7 (((uZ (uZ (s.2 0) 7 (((s.2 0) 7) + 1)) (250 + (frV (s.2 0))) 2) 7) + 1)) (2 : Int)) 5 0)))) ∧ ((¬ ((riZ (uZ (uZ (uZ (s.2 0) 7 (((s.2 0) 7) + 1)) (250 + (frV (s.2 0))) 2) 7 (((uZ (uZ (s.2 0) 7 (((s.2 0) 7) + 1)) (250 + (frV (s.2 0))) 2) 7) + 1))) = 0)) → (P (sA s 0 (uZ (uZ (uZ (s.2 0) 7 (((s.2 0) 7) + 1)) (250 + (frV (s.2 0))) 2) 7 (((uZ (uZ (s.2 0) 7 (((s.2 0) 7) + 1)) (250 + (frV (s.2 0))) 2) 7) + 1))))))))))) ∧ ((¬ ((loV (s.2 0)) = (-6))) → (rg (10 + (loV (s.2 0))) ∧ ((0 ≤ (10 + (loV (s.2 0))) ∧ (10 + (loV (s.2 0))) < 370) ∧ (rg (10 + (frV (s.2 0))) ∧ ((0 ≤ (10 + (frV (s.2 0))) ∧ (10 + (frV (s.2 0))) < 370) ∧ (((((uZ (s.2 0) 7 (((s.2 0) 7) + 1)) (10 + (loV (s.2 0)))) = ((uZ (s.2 0) 7 (((s.2 0) 7) + 1)) (10 + (frV (s.2 0))))) → (rg (130 + (loV (s.2 0))) ∧ ((0 ≤ (130 + (loV (s.2 0))) ∧ (130 + (loV (s.2 0))) < 370) ∧ (rg (130 + (frV (s.2 0))) ∧ ((0 ≤ (130 + (frV (s.2 0))) ∧ (130 + (frV (s.2 0))) < 370) ∧ (rg (((uZ (s.2 0) 7 (((s.2 0) 7) + 1)) (130 + (loV (s.2 0)))) + ((uZ (s.2 0) 7 (((s.2 0) 7) + 1)) (130 + (frV (s.2 0))))) ∧ (rg (250 + (frV (s.2 0))) ∧ ((0 ≤ (250 + (frV (s.2 0))) ∧ (250 + (frV (s.2 0))) < 370) ∧ ((Vb (uZ (uZ (uZ (uZ (s.2 0) 7 (((s.2 0) 7) + 1)) (130 + (loV (s.2 0))) (((uZ (s.2 0) 7 (((s.2 0) 7) + 1)) (130 + (loV (s.2 0)))) + ((uZ (s.2 0) 7 (((s.2 0) 7) + 1)) (130 + (frV (s.2 0)))))) (130 + (frV (s.2 0))) 0) (250 + (frV (s.2 0))) 0)) ∧ ((((riZ (uZ (uZ (uZ (uZ (s.2 0) 7 (((s.2 0) 7) + 1)) (130 + (loV (s.2 0))) (((uZ (s.2 0) 7 (((s.2 0) 7) + 1)) (130 + (loV (s.2 0)))) + ((uZ (s.2 0) 7 (((s.2 0) 7) + 1)) (130 + (frV (s.2 0)))))) (130 + (frV (s.2 0))) 0) (250 + (frV (s.2 0))) 0)) = 0) → (P (sA s 0 (uZ (becm (uZ (uZ (uZ (uZ (s.2 0) 7 (((s.2 0) 7) + 1)) (130 + (loV (s.2 0))) (((uZ (s.2 0) 7 (((s.2 0) 7) + 1)) (130 + (loV (s.2 0)))) + ((uZ (s.2 0) 7 (((s.2 0) 7) + 1)) (130 + (frV (s.2 0)))))) (130 + (frV (s.2 0))) 0) (250 + (frV (s.2 0))) 0) (2 : Int)) 5 0)))) ∧ ((¬ ((riZ (uZ (uZ (uZ (uZ (s.2 0) 7 (((s.2 0) 7) + 1)) (130 + (loV (s.2 0))) (((uZ (s.2 0) 7 (((s.2 0) 7) + 1)) (130 + (loV (s.2 0)))) + ((uZ (s.2 0) 7 (((s.2 0) 7) + 1)) (130 + (frV (s.2 0)))))) (130 + (frV (s.2 0))) 0) (250 + (frV (s.2 0))) 0)) = 0)) → (P (sA s 0 (uZ (uZ (uZ (uZ (s.2 0) 7 (((s.2 0) 7) + 1)) (130 + (loV (s.2 0))) (((uZ (s.2 0) 7 (((s.2 0) 7) + 1)) (130 + (loV (s.2 0)))) + ((uZ (s.2 0) 7 (((s.2 0) 7) + 1)) (130 + (frV (s.2 0)))))) (130 + (frV (s.2 0))) 0) (250 + (frV (s.2 0))) 0)))))))))))))) ∧ ((¬ (((uZ (s.2 0) 7 (((s.2 0) 7) + 1)) (10 + (loV (s.2 0)))) = ((uZ (s.2 0) 7 (((s.2 0) 7) + 1)) (10 + (frV (s.2 0)))))) → (rg (250 + (frV (s.2 0))) ∧ ((0 ≤ (250 + (frV (s.2 0))) ∧ (250 + (frV (s.2 0))) < 370) ∧ (rg (((uZ (uZ (s.2 0) 7 (((s.2 0) 7) + 1)) (250 + (frV (s.2 0))) 2) 7) + 1) ∧ ((Vb (uZ (uZ (uZ (s.2 0) 7 (((s.2 0) 7) + 1)) (250 + (frV (s.2 0))) 2) 7 (((uZ (uZ (s.2 0) 7 (((s.2 0) 7) + 1)) (250 + (frV (s.2 0))) 2) 7) + 1))) ∧ ((((riZ (uZ (uZ (uZ (s.2 0) 7 (((s.2 0) 7) + 1)) (250 + (frV (s.2 0))) 2) 7 (((uZ (uZ (s.2 0) 7 (((s.2 0) 7) + 1)) (250 + (frV (s.2 0))) 2) 7) + 1))) = 0) → (P (sA s 0 (uZ (becm (uZ (uZ (uZ (s.2 0) 7 (((s.2 0) 7) + 1)) (250 + (frV (s.2 0))) 2) 7 (((uZ (uZ (s.2 0) 7 (((s.2 0) 7) + 1)) (250 + (frV (s.2 0))) 2) 7) + 1)) (2 : Int)) 5 0)))) ∧ ((¬ ((riZ (uZ (uZ (uZ (s.2 0) 7 (((s.2 0) 7) + 1)) (250 + (frV (s.2 0))) 2) 7 (((uZ (uZ (s.2 0) 7 (((s.2 0) 7) + 1)) (250 + (frV (s.2 0))) 2) 7) + 1))) = 0)) → (P (sA s 0 (uZ (uZ (uZ (s.2 0) 7 (((s.2 0) 7) + 1)) (250 + (frV (s.2 0))) 2) 7 (((uZ (uZ (s.2 0) 7 (((s.2 0) 7) + 1)) (250 + (frV (s.2 0))) 2) 7) + 1))))))))))))))))))) ∧ ((¬ (((s.2 0) 1) = 1)) → (rg (250 + (frV (s.2 0))) ∧ ((0 ≤ (250 + (frV (s.2 0))) ∧ (250 + (frV (s.2 0))) < 370) ∧ (rg (((uZ (uZ (s.2 0) 7 (((s.2 0) 7) + 1)) (250 + (frV (s.2 0))) 2) 7) + 1) ∧ ((Vb (uZ (uZ (uZ (s.2 0) 7 (((s.2 0) 7) + 1)) (250 + (frV (s.2 0))) 2) 7 (((uZ (uZ (s.2 0) 7 (((s.2 0) 7) + 1)) (250 + (frV (s.2 0))) 2) 7) + 1))) ∧ ((((riZ (uZ (uZ (uZ (s.2 0) 7 (((s.2 0) 7) + 1)) (250 + (frV (s.2 0))) 2) 7 (((uZ (uZ (s.2 0) 7 (((s.2 0) 7) + 1)) (250 + (frV (s.2 0))) 2) 7) + 1))) = 0) → (P (sA s 0 (uZ (becm (uZ (uZ (uZ (s.2 0) 7 (((s.2 0) 7) + 1)) (250 + (frV (s.2 0))) 2) 7 (((uZ (uZ (s.2 0) 7 (((s.2 0) 7) + 1)) (250 + (frV (s.2 0))) 2) 7) + 1)) (2 : Int)) 5 0)))) ∧ ((¬ ((riZ (uZ (uZ (uZ (s.2 0) 7 (((s.2 0) 7) + 1)) (250 + (frV (s.2 0))) 2) 7 (((uZ (uZ (s.2 0) 7 (((s.2 0) 7) + 1)) (250 + (frV (s.2 0))) 2) 7) + 1))) = 0)) → (P (sA s 0 (uZ (uZ (uZ (s.2 0) 7 (((s.2 0) 7) + 1)) (250 + (frV (s.2 0))) 2) 7 (((uZ (uZ (s.2 0) 7 (((s.2 0) 7) + 1)) (250 + (frV (s.2 0))) 2) 7) + 1)))))))))))))
set_option maxHeartbeats 1000000 in
theorem sp_X7_steps (s : SS)  (r_s : RG s)  (p0 : Vb (s.2 0)) (p1 : 0 < riZ (s.2 0)) (p2 : rg ((s.2 0) 7 + 2) ∧ 0 ≤ (s.2 0) 7) (p3 : ∀ r, 0 ≤ r → r < (s.2 0) 3 → 0 ≤ (s.2 0) (130 + r) ∧ (s.2 0) (130 + r) ≤ 120) : wp_X7_steps s (fun o0 => o0 = (sA s 0 (stpZ (s.2 0)))) := by
  unfold wp_X7_steps
  have hz := p0
  have ⟨v1, v2, v3, v4, v5⟩ := p0
  obtain ⟨f1, f2, f3, _⟩ := frV_spec p1
  have hl := loV_spec (z := s.2 0) v1
  have cf := p3 (frV (s.2 0)) f1 f2
  have fin : Vb (stp0 (s.2 0)) ∧ ((riZ (stp0 (s.2 0)) = 0 → sA s 0 (uZ (becm (stp0 (s.2 0)) 2) 5 0) = sA s 0 (stpZ (s.2 0))) ∧ (¬ riZ (stp0 (s.2 0)) = 0 → sA s 0 (stp0 (s.2 0)) = sA s 0 (stpZ (s.2 0)))) := ⟨stp0_Vb hz p1, fun c => by unfold stpZ; rw [if_pos c], fun c => by unfold stpZ; rw [if_neg c]⟩
  have mv : ¬ (s.2 0 1 = 1 ∧ loV (s.2 0) ≠ -6 ∧ s.2 0 (10 + loV (s.2 0)) = s.2 0 (10 + frV (s.2 0))) → uZ (uZ (uZ (s.2 0) 7 (s.2 0 7 + 1)) (250 + frV (s.2 0)) 2) 7 (uZ (uZ (s.2 0) 7 (s.2 0 7 + 1)) (250 + frV (s.2 0)) 2 7 + 1) = stp0 (s.2 0) := fun h => by unfold stp0; rw [if_neg h, stp_eq f1]
  have e7 : uZ (uZ (s.2 0) 7 (s.2 0 7 + 1)) (250 + frV (s.2 0)) 2 7 = s.2 0 7 + 1 := by rw [uZ_ne (by omega), uZ_at]
  have r7 : rg (uZ (uZ (s.2 0) 7 (s.2 0 7 + 1)) (250 + frV (s.2 0)) 2 7 + 1) := by rw [e7]; unfold rg at *; omega
  refine ⟨hz, by unfold rg at *; omega, fun c => ⟨fun c2 => ?_, fun c2 => ?_⟩, fun c => ?_⟩
  · rw [mv (fun h => h.2.1 c2)]
    exact ⟨by unfold rg; omega, by omega, r7, fin⟩
  · rcases hl with ⟨q, _⟩ | ⟨l1, l2, l3, _⟩
    · exact absurd q c2
    have cl := p3 (loV (s.2 0)) l1 l2
    rw [show uZ (s.2 0) 7 (s.2 0 7 + 1) (10 + loV (s.2 0)) = s.2 0 (10 + loV (s.2 0)) from uZ_ne (by omega), show uZ (s.2 0) 7 (s.2 0 7 + 1) (10 + frV (s.2 0)) = s.2 0 (10 + frV (s.2 0)) from uZ_ne (by omega), show uZ (s.2 0) 7 (s.2 0 7 + 1) (130 + loV (s.2 0)) = s.2 0 (130 + loV (s.2 0)) from uZ_ne (by omega), show uZ (s.2 0) 7 (s.2 0 7 + 1) (130 + frV (s.2 0)) = s.2 0 (130 + frV (s.2 0)) from uZ_ne (by omega)]
    refine ⟨by unfold rg; omega, by omega, by unfold rg; omega, by omega, fun c3 => ?_, fun c3 => ?_⟩
    · have ab : uZ (uZ (uZ (uZ (s.2 0) 7 (s.2 0 7 + 1)) (130 + loV (s.2 0)) (s.2 0 (130 + loV (s.2 0)) + s.2 0 (130 + frV (s.2 0)))) (130 + frV (s.2 0)) 0) (250 + frV (s.2 0)) 0 = stp0 (s.2 0) := by unfold stp0; rw [if_pos ⟨c, c2, c3⟩]
      rw [ab]
      exact ⟨by unfold rg; omega, by omega, by unfold rg; omega, by omega, by unfold rg; omega, by unfold rg; omega, by omega, fin⟩
    · rw [mv (fun h => c3 h.2.2)]
      exact ⟨by unfold rg; omega, by omega, r7, fin⟩
  · rw [mv (fun h => c h.1)]
    exact ⟨by unfold rg; omega, by omega, r7, fin⟩
def wp_X7_runsToCome (s : SS)  (P : Int → Prop) : Prop :=
  (Vb (s.2 0)) ∧ (((((s.2 0) 2) = 1) → (((0 < (rowsAt (s.2 0) (1 : Int))) → (rg ((manyZ (s.2 0) 0) + 1) ∧ (P ((manyZ (s.2 0) 0) + 1)))) ∧ ((¬ (0 < (rowsAt (s.2 0) (1 : Int)))) → (((((s.2 0) 5) = 1) → (rg ((manyZ (s.2 0) 0) + 1) ∧ (P ((manyZ (s.2 0) 0) + 1)))) ∧ ((¬ (((s.2 0) 5) = 1)) → (rg ((manyZ (s.2 0) 0) + 0) ∧ (P ((manyZ (s.2 0) 0) + 0)))))))) ∧ ((¬ (((s.2 0) 2) = 1)) → (((((s.2 0) 5) = 1) → (rg ((manyZ (s.2 0) 0) + 1) ∧ (P ((manyZ (s.2 0) 0) + 1)))) ∧ ((¬ (((s.2 0) 5) = 1)) → (rg ((manyZ (s.2 0) 0) + 0) ∧ (P ((manyZ (s.2 0) 0) + 0)))))))
set_option maxHeartbeats 1000000 in
theorem sp_X7_runsToCome (s : SS)  (r_s : RG s)  (p0 : Vb (s.2 0)) : wp_X7_runsToCome s (fun z => z = (manyZ (s.2 0) 0 + pz ((s.2 0) 2 = 1 ∧ 0 < rowsAt (s.2 0) 1 ∨ (s.2 0) 5 = 1))) := by
  unfold wp_X7_runsToCome
  have ⟨v1, v2, v3, v4, v5⟩ := p0
  have hm := manyZ_nn (z := s.2 0) (k := 0) v3
  (repeat' first | exact p0 | (refine And.intro ?_ ?_) | intro _)
  all_goals first
    | exact p0
    | omega
    | (unfold rg; omega)
    | (rw [pz_t (by omega)]; done)
    | (rw [pz_f (by omega)]; done)
def wp_X7_canRun (s : SS)  (P : Int → Prop) : Prop :=
  (Vb (s.2 0)) ∧ ((((manyZ (s.2 0) 0 + pz ((s.2 0) 2 = 1 ∧ 0 < rowsAt (s.2 0) 1 ∨ (s.2 0) 5 = 1)) < 2) → (P 1)) ∧ ((¬ ((manyZ (s.2 0) 0 + pz ((s.2 0) 2 = 1 ∧ 0 < rowsAt (s.2 0) 1 ∨ (s.2 0) 5 = 1)) < 2)) → ((0 ≤ ((s.2 0) 0) ∧ ((s.2 0) 0) ≤ 1000) ∧ (((1 < (waysZ ((s.2 0) 0))) → (P 1)) ∧ ((¬ (1 < (waysZ ((s.2 0) 0)))) → (P 0))))))
set_option maxHeartbeats 1000000 in
theorem sp_X7_canRun (s : SS)  (r_s : RG s)  (p0 : Vb (s.2 0)) (p1 : 2 ≤ (s.2 0) 0 ∧ (s.2 0) 0 ≤ 20) : wp_X7_canRun s (fun z => z = (pz (manyZ (s.2 0) 0 + pz ((s.2 0) 2 = 1 ∧ 0 < rowsAt (s.2 0) 1 ∨ (s.2 0) 5 = 1) < 2 ∨ 1 < waysZ ((s.2 0) 0)))) := by
  unfold wp_X7_canRun
  (repeat' first | exact p0 | (refine And.intro ?_ ?_) | intro _)
  all_goals first
    | exact p0
    | omega
    | (exact (pz_t (by omega)).symm)
    | (exact (pz_f (by omega)).symm)
def wp_X7_below (s : SS) (key : Int) (P : Int → Prop) : Prop :=
  ∃ (I2 : Int → Int → Prop) (μ3 : Int → Int → Nat), I2 0 0 ∧ ∀ (x2_1 : Int) (x3_1 : Int), rg x2_1 → rg x3_1 → I2 x2_1 x3_1 → (((x3_1 < ((s.2 0) 3)) → (rg (10 + x3_1) ∧ ((0 ≤ (10 + x3_1) ∧ (10 + x3_1) < 370) ∧ (((((s.2 0) (10 + x3_1)) < key) → (rg (130 + x3_1) ∧ ((0 ≤ (130 + x3_1) ∧ (130 + x3_1) < 370) ∧ (rg (x2_1 + ((s.2 0) (130 + x3_1))) ∧ (rg (x3_1 + 1) ∧ (I2 (x2_1 + ((s.2 0) (130 + x3_1))) (x3_1 + 1) ∧ μ3 (x2_1 + ((s.2 0) (130 + x3_1))) (x3_1 + 1) < μ3 x2_1 x3_1)))))) ∧ ((¬ (((s.2 0) (10 + x3_1)) < key)) → (rg (x2_1 + 0) ∧ (rg (x3_1 + 1) ∧ (I2 (x2_1 + 0) (x3_1 + 1) ∧ μ3 (x2_1 + 0) (x3_1 + 1) < μ3 x2_1 x3_1)))))))) ∧ ((¬ (x3_1 < ((s.2 0) 3))) → (P x2_1)))
set_option maxHeartbeats 1000000 in
theorem sp_X7_below (s : SS) (key : Int) (r_s : RG s) (r_key : rg key) (p0 : Vb (s.2 0)) (p1 : ∀ r, 0 ≤ r → r < (s.2 0) 3 → 0 ≤ (s.2 0) (130 + r) ∧ (s.2 0) (130 + r) ≤ 120) : wp_X7_below s key (fun z => z = (sumI (fun r => if (s.2 0) (10 + r) < key then (s.2 0) (130 + r) else 0) ((s.2 0) 3).toNat)) := by
  unfold wp_X7_below
  have ⟨v1, v2, v3, v4, v5⟩ := p0
  refine ⟨fun n r => 0 ≤ r ∧ r ≤ s.2 0 3 ∧ n = sumI (fun r => if s.2 0 (10 + r) < key then s.2 0 (130 + r) else 0) r.toNat ∧ 0 ≤ n ∧ n ≤ 120 * r, fun _ r => (s.2 0 3 - r).toNat, ⟨by omega, by omega, rfl, by omega, by omega⟩, ?_⟩
  intro n r rn rr ⟨h0, h1, h2, h3, h4⟩
  dsimp only
  have e : sumI (fun r => if s.2 0 (10 + r) < key then s.2 0 (130 + r) else 0) (r + 1).toNat = sumI (fun r => if s.2 0 (10 + r) < key then s.2 0 (130 + r) else 0) r.toNat + (if s.2 0 (10 + r) < key then s.2 0 (130 + r) else 0) := sumI_S h0
  refine ⟨fun c => ?_, fun c => by rw [h2, show r = s.2 0 3 by omega]⟩
  have hc := p1 r h0 c
  refine ⟨by unfold rg at *; omega, by omega, fun c2 => ?_, fun c2 => ?_⟩
  · exact ⟨by unfold rg at *; omega, by omega, by unfold rg at *; omega, by unfold rg at *; omega, ⟨by omega, by omega, by rw [e, if_pos c2, h2], by omega, by omega⟩, by omega⟩
  · exact ⟨by unfold rg at *; omega, by unfold rg at *; omega, ⟨by omega, by omega, by rw [e, if_neg c2, h2], by omega, by omega⟩, by omega⟩
def wp_X7_rowsThere (s : SS)  (P : Int → Prop) : Prop :=
  ∃ (I2 : Int → Int → Prop) (μ3 : Int → Int → Nat), I2 0 0 ∧ ∀ (x1_1 : Int) (x2_1 : Int), rg x1_1 → rg x2_1 → I2 x1_1 x2_1 → (((x2_1 < ((s.2 0) 3)) → ((0 ≤ x2_1 ∧ x2_1 < 120) ∧ (((0 < ((s.2 0) (250 + x2_1))) → (rg (x1_1 + 1) ∧ (rg (x2_1 + 1) ∧ (I2 (x1_1 + 1) (x2_1 + 1) ∧ μ3 (x1_1 + 1) (x2_1 + 1) < μ3 x1_1 x2_1)))) ∧ ((¬ (0 < ((s.2 0) (250 + x2_1)))) → (rg (x1_1 + 0) ∧ (rg (x2_1 + 1) ∧ (I2 (x1_1 + 0) (x2_1 + 1) ∧ μ3 (x1_1 + 0) (x2_1 + 1) < μ3 x1_1 x2_1))))))) ∧ ((¬ (x2_1 < ((s.2 0) 3))) → (P x1_1)))
set_option maxHeartbeats 1000000 in
theorem sp_X7_rowsThere (s : SS)  (r_s : RG s)  (p0 : Vb (s.2 0)) : wp_X7_rowsThere s (fun z => z = (sumI (fun r => pz (0 < (s.2 0) (250 + r))) ((s.2 0) 3).toNat)) := by
  unfold wp_X7_rowsThere
  have ⟨v1, v2, v3, v4, v5⟩ := p0
  refine ⟨fun n r => 0 ≤ r ∧ r ≤ s.2 0 3 ∧ n = sumI (fun r => pz (0 < s.2 0 (250 + r))) r.toNat ∧ 0 ≤ n ∧ n ≤ r, fun _ r => (s.2 0 3 - r).toNat, ⟨by omega, by omega, rfl, by omega, by omega⟩, ?_⟩
  intro n r rn rr ⟨h0, h1, h2, h3, h4⟩
  dsimp only
  have e : sumI (fun r => pz (0 < s.2 0 (250 + r))) (r + 1).toNat = sumI (fun r => pz (0 < s.2 0 (250 + r))) r.toNat + pz (0 < s.2 0 (250 + r)) := sumI_S h0
  refine ⟨fun c => ⟨by omega, fun c2 => ?_, fun c2 => ?_⟩, fun c => by rw [h2, show r = s.2 0 3 by omega]⟩
  · exact ⟨by unfold rg at *; omega, by unfold rg at *; omega, ⟨by omega, by omega, by rw [e, pz_t c2, h2], by omega, by omega⟩, by omega⟩
  · exact ⟨by unfold rg at *; omega, by unfold rg at *; omega, ⟨by omega, by omega, by rw [e, pz_f c2, h2], by omega, by omega⟩, by omega⟩
def wp_X7_before (s : SS) (row : Int) (P : Int → Prop) : Prop :=
  ∃ (I2 : Int → Int → Prop) (μ3 : Int → Int → Nat), I2 0 0 ∧ ∀ (x2_1 : Int) (x3_1 : Int), rg x2_1 → rg x3_1 → I2 x2_1 x3_1 → (((x3_1 < ((s.2 0) 3)) → (rg (10 + x3_1) ∧ ((0 ≤ (10 + x3_1) ∧ (10 + x3_1) < 370) ∧ (rg (10 + row) ∧ ((0 ≤ (10 + row) ∧ (10 + row) < 370) ∧ (((((s.2 0) (10 + x3_1)) < ((s.2 0) (10 + row))) → ((0 ≤ x3_1 ∧ x3_1 < 120) ∧ ((0 ≤ row ∧ row < 120) ∧ (((((s.2 0) (250 + x3_1)) = ((s.2 0) (250 + row))) → (rg (x2_1 + 1) ∧ (rg (x3_1 + 1) ∧ (I2 (x2_1 + 1) (x3_1 + 1) ∧ μ3 (x2_1 + 1) (x3_1 + 1) < μ3 x2_1 x3_1)))) ∧ ((¬ (((s.2 0) (250 + x3_1)) = ((s.2 0) (250 + row)))) → (rg (x2_1 + 0) ∧ (rg (x3_1 + 1) ∧ (I2 (x2_1 + 0) (x3_1 + 1) ∧ μ3 (x2_1 + 0) (x3_1 + 1) < μ3 x2_1 x3_1)))))))) ∧ ((¬ (((s.2 0) (10 + x3_1)) < ((s.2 0) (10 + row)))) → (((((s.2 0) (10 + x3_1)) = ((s.2 0) (10 + row))) → (((x3_1 < row) → ((0 ≤ x3_1 ∧ x3_1 < 120) ∧ ((0 ≤ row ∧ row < 120) ∧ (((((s.2 0) (250 + x3_1)) = ((s.2 0) (250 + row))) → (rg (x2_1 + 1) ∧ (rg (x3_1 + 1) ∧ (I2 (x2_1 + 1) (x3_1 + 1) ∧ μ3 (x2_1 + 1) (x3_1 + 1) < μ3 x2_1 x3_1)))) ∧ ((¬ (((s.2 0) (250 + x3_1)) = ((s.2 0) (250 + row)))) → (rg (x2_1 + 0) ∧ (rg (x3_1 + 1) ∧ (I2 (x2_1 + 0) (x3_1 + 1) ∧ μ3 (x2_1 + 0) (x3_1 + 1) < μ3 x2_1 x3_1)))))))) ∧ ((¬ (x3_1 < row)) → ((0 ≤ x3_1 ∧ x3_1 < 120) ∧ ((0 ≤ row ∧ row < 120) ∧ (((((s.2 0) (250 + x3_1)) = ((s.2 0) (250 + row))) → (rg (x2_1 + 0) ∧ (rg (x3_1 + 1) ∧ (I2 (x2_1 + 0) (x3_1 + 1) ∧ μ3 (x2_1 + 0) (x3_1 + 1) < μ3 x2_1 x3_1)))) ∧ ((¬ (((s.2 0) (250 + x3_1)) = ((s.2 0) (250 + row)))) → (rg (x2_1 + 0) ∧ (rg (x3_1 + 1) ∧ (I2 (x2_1 + 0) (x3_1 + 1) ∧ μ3 (x2_1 + 0) (x3_1 + 1) < μ3 x2_1 x3_1)))))))))) ∧ ((¬ (((s.2 0) (10 + x3_1)) = ((s.2 0) (10 + row)))) → ((0 ≤ x3_1 ∧ x3_1 < 120) ∧ ((0 ≤ row ∧ row < 120) ∧ (((((s.2 0) (250 + x3_1)) = ((s.2 0) (250 + row))) → (rg (x2_1 + 0) ∧ (rg (x3_1 + 1) ∧ (I2 (x2_1 + 0) (x3_1 + 1) ∧ μ3 (x2_1 + 0) (x3_1 + 1) < μ3 x2_1 x3_1)))) ∧ ((¬ (((s.2 0) (250 + x3_1)) = ((s.2 0) (250 + row)))) → (rg (x2_1 + 0) ∧ (rg (x3_1 + 1) ∧ (I2 (x2_1 + 0) (x3_1 + 1) ∧ μ3 (x2_1 + 0) (x3_1 + 1) < μ3 x2_1 x3_1)))))))))))))))) ∧ ((¬ (x3_1 < ((s.2 0) 3))) → (P x2_1)))
set_option maxHeartbeats 1000000 in
theorem sp_X7_before (s : SS) (row : Int) (r_s : RG s) (r_row : rg row) (p0 : Vb (s.2 0)) (p1 : 0 ≤ row ∧ row < 120) : wp_X7_before s row (fun z => z = (sumI (fun r => pz ((s.2 0) (250 + r) = (s.2 0) (250 + row) ∧ ((s.2 0) (10 + r) < (s.2 0) (10 + row) ∨ (s.2 0) (10 + r) = (s.2 0) (10 + row) ∧ r < row))) ((s.2 0) 3).toNat)) := by
  unfold wp_X7_before
  have ⟨v1, v2, v3, v4, v5⟩ := p0
  refine ⟨fun n r => 0 ≤ r ∧ r ≤ s.2 0 3 ∧ n = sumI (fun r => pz (s.2 0 (250 + r) = s.2 0 (250 + row) ∧ (s.2 0 (10 + r) < s.2 0 (10 + row) ∨ s.2 0 (10 + r) = s.2 0 (10 + row) ∧ r < row))) r.toNat ∧ 0 ≤ n ∧ n ≤ r, fun _ r => (s.2 0 3 - r).toNat, ⟨by omega, by omega, rfl, by omega, by omega⟩, ?_⟩
  intro n r rn rr ⟨h0, h1, h2, h3, h4⟩
  dsimp only
  have e : sumI (fun r => pz (s.2 0 (250 + r) = s.2 0 (250 + row) ∧ (s.2 0 (10 + r) < s.2 0 (10 + row) ∨ s.2 0 (10 + r) = s.2 0 (10 + row) ∧ r < row))) (r + 1).toNat = sumI (fun r => pz (s.2 0 (250 + r) = s.2 0 (250 + row) ∧ (s.2 0 (10 + r) < s.2 0 (10 + row) ∨ s.2 0 (10 + r) = s.2 0 (10 + row) ∧ r < row))) r.toNat + pz (s.2 0 (250 + r) = s.2 0 (250 + row) ∧ (s.2 0 (10 + r) < s.2 0 (10 + row) ∨ s.2 0 (10 + r) = s.2 0 (10 + row) ∧ r < row)) := sumI_S h0
  have kp : (s.2 0 (250 + r) = s.2 0 (250 + row) ∧ (s.2 0 (10 + r) < s.2 0 (10 + row) ∨ s.2 0 (10 + r) = s.2 0 (10 + row) ∧ r < row)) → n + 1 = sumI (fun r => pz (s.2 0 (250 + r) = s.2 0 (250 + row) ∧ (s.2 0 (10 + r) < s.2 0 (10 + row) ∨ s.2 0 (10 + r) = s.2 0 (10 + row) ∧ r < row))) (r + 1).toNat := fun q => by rw [e, pz_t q, h2]
  have kn : ¬ (s.2 0 (250 + r) = s.2 0 (250 + row) ∧ (s.2 0 (10 + r) < s.2 0 (10 + row) ∨ s.2 0 (10 + r) = s.2 0 (10 + row) ∧ r < row)) → n + 0 = sumI (fun r => pz (s.2 0 (250 + r) = s.2 0 (250 + row) ∧ (s.2 0 (10 + r) < s.2 0 (10 + row) ∨ s.2 0 (10 + r) = s.2 0 (10 + row) ∧ r < row))) (r + 1).toNat := fun q => by rw [e, pz_f q, h2]
  refine ⟨fun c => ?_, fun c => by rw [h2, show r = s.2 0 3 by omega]⟩
  clear h2 e
  (repeat' first | (refine And.intro ?_ ?_) | intro _)
  all_goals (try dsimp only)
  all_goals first | (unfold rg at *; omega) | omega | exact kp (by omega) | exact kn (by omega)
