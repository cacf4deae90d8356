def wp_X7_in  (v : Int) (low : Int) (high : Int) (P : Int → Prop) : Prop :=
  ((v < low) → (P 0)) ∧ ((¬ (v < low)) → (((high < v) → (P 0)) ∧ ((¬ (high < v)) → (P 1))))
set_option maxHeartbeats 1000000 in
theorem sp_X7_in  (v : Int) (low : Int) (high : Int)  (r_v : rg v) (r_low : rg low) (r_high : rg high)  : wp_X7_in v low high (fun z => z = (pz (low ≤ v ∧ v ≤ high))) := by
  unfold wp_X7_in
  (repeat' first | (refine And.intro ?_ ?_) | intro _)
  all_goals first | rfl | assumption | omega | (unfold rg at *; omega) | (exact (pz_t (by omega)).symm) | (exact (pz_f (by omega)).symm)
def wp_X7_waysOf  (size : Int) (P : Int → Prop) : Prop :=
  rg (size - 1) ∧ ((((size - 1) < 8) → (P (size - 1))) ∧ ((¬ ((size - 1) < 8)) → (P 8)))
set_option maxHeartbeats 1000000 in
theorem sp_X7_waysOf  (size : Int)  (r_size : rg size) (p0 : 0 ≤ size ∧ size ≤ 1000) : wp_X7_waysOf size (fun z => z = (waysZ size)) := by
  unfold wp_X7_waysOf
  refine ⟨by unfold rg at *; omega, fun c => ?_, fun c => ?_⟩ <;> unfold waysZ <;> omega
def wp_X7_isSize  (size : Int) (P : Int → Prop) : Prop :=
  P (pz ((2 : Int) ≤ size ∧ size ≤ (20 : Int)))
set_option maxHeartbeats 1000000 in
theorem sp_X7_isSize  (size : Int)  (r_size : rg size)  : wp_X7_isSize size (fun z => z = (pz (2 ≤ size ∧ size ≤ 20))) := by
  unfold wp_X7_isSize
  (repeat' first | (refine And.intro ?_ ?_) | intro _)
  all_goals first | rfl | assumption | omega | (unfold rg at *; omega) | (exact (pz_t (by omega)).symm) | (exact (pz_f (by omega)).symm)
def wp_X7_place (s : SS) (row : Int) (P : Int → Prop) : Prop :=
  rg (250 + row) ∧ ((0 ≤ (250 + row) ∧ (250 + row) < 370) ∧ (P ((s.2 0) (250 + row))))
set_option maxHeartbeats 1000000 in
theorem sp_X7_place (s : SS) (row : Int) (r_s : RG s) (r_row : rg row) (p0 : 0 ≤ row ∧ row < 120) : wp_X7_place s row (fun z => z = ((s.2 0) (250 + row))) := by
  unfold wp_X7_place
  (repeat' first | (refine And.intro ?_ ?_) | intro _)
  all_goals first | rfl | assumption | omega | (unfold rg at *; omega) | (exact (pz_t (by omega)).symm) | (exact (pz_f (by omega)).symm)
def wp_X7_rowsAt (s : SS) (place : Int) (P : Int → Prop) : Prop :=
  ∃ (I2 : Int → Int → Prop) (μ3 : Int → Int → Nat), I2 0 0 ∧ ∀ (x2_1 : Int) (x3_1 : Int), rg x2_1 → rg x3_1 → I2 x2_1 x3_1 → (((x3_1 < ((s.2 0) 3)) → ((0 ≤ x3_1 ∧ x3_1 < 120) ∧ (((((s.2 0) (250 + x3_1)) = place) → (rg (x2_1 + 1) ∧ (rg (x3_1 + 1) ∧ (I2 (x2_1 + 1) (x3_1 + 1) ∧ μ3 (x2_1 + 1) (x3_1 + 1) < μ3 x2_1 x3_1)))) ∧ ((¬ (((s.2 0) (250 + x3_1)) = place)) → (rg (x2_1 + 0) ∧ (rg (x3_1 + 1) ∧ (I2 (x2_1 + 0) (x3_1 + 1) ∧ μ3 (x2_1 + 0) (x3_1 + 1) < μ3 x2_1 x3_1))))))) ∧ ((¬ (x3_1 < ((s.2 0) 3))) → (P x2_1)))
set_option maxHeartbeats 1000000 in
theorem sp_X7_rowsAt (s : SS) (place : Int) (r_s : RG s) (r_place : rg place) (p0 : Vb (s.2 0)) : wp_X7_rowsAt s place (fun z => z = (rowsAt (s.2 0) place)) := by
  unfold wp_X7_rowsAt
  obtain ⟨v1, v2, -⟩ := p0
  refine ⟨fun n r => 0 ≤ r ∧ r ≤ s.2 0 3 ∧ n = sumI (fun r => pz (s.2 0 (250 + r) = place)) r.toNat ∧ 0 ≤ n ∧ n ≤ r, fun _ r => (s.2 0 3 - r).toNat, ⟨by omega, by omega, rfl, by omega, by omega⟩, ?_⟩
  intro n r rn rr ⟨h0, h1, h2, h3, h4⟩
  dsimp only
  have e : sumI (fun r => pz (s.2 0 (250 + r) = place)) (r + 1).toNat = sumI (fun r => pz (s.2 0 (250 + r) = place)) r.toNat + pz (s.2 0 (250 + r) = place) := sumI_S h0
  refine ⟨fun c => ⟨by omega, fun c2 => ?_, fun c2 => ?_⟩, fun c => ?_⟩
  · exact ⟨by unfold rg at *; omega, by unfold rg at *; omega, ⟨by omega, by omega, by rw [e, pz_t c2, h2], by omega, by omega⟩, by omega⟩
  · exact ⟨by unfold rg at *; omega, by unfold rg at *; omega, ⟨by omega, by omega, by rw [e, pz_f c2, h2], by omega, by omega⟩, by omega⟩
  · rw [h2, show r = s.2 0 3 by omega]; rfl
def wp_X7_isRun (s : SS) (run : Int) (P : Int → Prop) : Prop :=
  rg (((s.2 0) 4) - 1) ∧ ((((0 : Int) ≤ run ∧ run ≤ (((s.2 0) 4) - 1)) → (rg (2 * run) ∧ (rg (10 + (2 * run)) ∧ ((Vb (s.2 0)) ∧ (((0 < (rowsAt (s.2 0) (10 + (2 * run)))) → (P 1)) ∧ ((¬ (0 < (rowsAt (s.2 0) (10 + (2 * run))))) → (P 0))))))) ∧ ((¬ ((0 : Int) ≤ run ∧ run ≤ (((s.2 0) 4) - 1))) → (P 0)))
set_option maxHeartbeats 1000000 in
theorem sp_X7_isRun (s : SS) (run : Int) (r_s : RG s) (r_run : rg run) (p0 : Vb (s.2 0)) : wp_X7_isRun s run (fun z => z = (pz (0 ≤ run ∧ run ≤ (s.2 0) 4 - 1 ∧ 0 < rowsAt (s.2 0) (10 + 2 * run)))) := by
  unfold wp_X7_isRun
  have ⟨v1, v2, v3, v4, _⟩ := p0
  (repeat' first | exact p0 | (refine And.intro ?_ ?_) | intro _)
  all_goals first | (unfold rg at *; omega) | omega | (exact (pz_t (by omega)).symm) | (exact (pz_f (by omega)).symm)
def wp_X7_nextPlace (s : SS) (behind : Int) (kind : Int) (P : Int → Prop) : Prop :=
  ∃ (I2 : Int → Int → Prop) (μ3 : Int → Int → Nat), I2 (-6) 0 ∧ ∀ (x3_1 : Int) (x4_1 : Int), rg x3_1 → rg x4_1 → I2 x3_1 x4_1 → (((x4_1 < ((s.2 0) 3)) → ((0 ≤ x4_1 ∧ x4_1 < 120) ∧ (((((s.2 0) (250 + x4_1)) < 10) → (rg (x4_1 + 1) ∧ (I2 x3_1 (x4_1 + 1) ∧ μ3 x3_1 (x4_1 + 1) < μ3 x3_1 x4_1))) ∧ ((¬ (((s.2 0) (250 + x4_1)) < 10)) → (((behind < ((s.2 0) (250 + x4_1))) → (0 ≤ ((s.2 0) (250 + x4_1)) ∧ ((((((s.2 0) (250 + x4_1)) % 2) = kind) → (((x3_1 = (-6)) → (rg (x4_1 + 1) ∧ (I2 ((s.2 0) (250 + x4_1)) (x4_1 + 1) ∧ μ3 ((s.2 0) (250 + x4_1)) (x4_1 + 1) < μ3 x3_1 x4_1))) ∧ ((¬ (x3_1 = (-6))) → (((((s.2 0) (250 + x4_1)) < x3_1) → (rg (x4_1 + 1) ∧ (I2 ((s.2 0) (250 + x4_1)) (x4_1 + 1) ∧ μ3 ((s.2 0) (250 + x4_1)) (x4_1 + 1) < μ3 x3_1 x4_1))) ∧ ((¬ (((s.2 0) (250 + x4_1)) < x3_1)) → (rg (x4_1 + 1) ∧ (I2 x3_1 (x4_1 + 1) ∧ μ3 x3_1 (x4_1 + 1) < μ3 x3_1 x4_1))))))) ∧ ((¬ ((((s.2 0) (250 + x4_1)) % 2) = kind)) → (rg (x4_1 + 1) ∧ (I2 x3_1 (x4_1 + 1) ∧ μ3 x3_1 (x4_1 + 1) < μ3 x3_1 x4_1)))))) ∧ ((¬ (behind < ((s.2 0) (250 + x4_1)))) → (rg (x4_1 + 1) ∧ (I2 x3_1 (x4_1 + 1) ∧ μ3 x3_1 (x4_1 + 1) < μ3 x3_1 x4_1)))))))) ∧ ((¬ (x4_1 < ((s.2 0) 3))) → (P x3_1)))
set_option maxHeartbeats 1000000 in
theorem sp_X7_nextPlace (s : SS) (behind : Int) (kind : Int) (r_s : RG s) (r_behind : rg behind) (r_kind : rg kind) (p0 : Vb (s.2 0)) : wp_X7_nextPlace s behind kind (fun z => z = (nxP (s.2 0) behind kind ((s.2 0) 3).toNat)) := by
  unfold wp_X7_nextPlace
  obtain ⟨v1, v2, -⟩ := p0
  refine ⟨fun b r => 0 ≤ r ∧ r ≤ s.2 0 3 ∧ b = nxP (s.2 0) behind kind r.toNat, fun _ r => (s.2 0 3 - r).toNat, ⟨by omega, by omega, rfl⟩, ?_⟩
  intro b r rb rr ⟨h0, h1, h2⟩
  dsimp only
  have e := nxP_S (z := s.2 0) (b := behind) (k := kind) h0
  rw [← h2] at e
  have kp : (10 ≤ s.2 0 (250 + r) ∧ behind < s.2 0 (250 + r) ∧ s.2 0 (250 + r) % 2 = kind ∧ (b = -6 ∨ s.2 0 (250 + r) < b)) → s.2 0 (250 + r) = nxP (s.2 0) behind kind (r + 1).toNat := fun q => by rw [e, if_pos q]
  have kn : ¬ (10 ≤ s.2 0 (250 + r) ∧ behind < s.2 0 (250 + r) ∧ s.2 0 (250 + r) % 2 = kind ∧ (b = -6 ∨ s.2 0 (250 + r) < b)) → b = nxP (s.2 0) behind kind (r + 1).toNat := fun q => by rw [e, if_neg q]
  refine ⟨fun c => ?_, fun c => by rw [h2, show r = s.2 0 3 by omega]⟩
  clear h2 e
  (repeat' first | (refine And.intro ?_ ?_) | intro _)
  all_goals (try dsimp only)
  all_goals first | (unfold rg at *; omega) | omega | exact kp (by omega) | exact kn (by omega)
def wp_X7_many (s : SS) (kind : Int) (P : Int → Prop) : Prop :=
  (Vb (s.2 0)) ∧ (∃ (I7 : Int → Int → Prop) (μ8 : Int → Int → Nat), I7 0 (nxP (s.2 0) (0 : Int) kind ((s.2 0) 3).toNat) ∧ ∀ (x2_6 : Int) (x3_6 : Int), rg x2_6 → rg x3_6 → I7 x2_6 x3_6 → (((x3_6 = (-6)) → (P x2_6)) ∧ ((¬ (x3_6 = (-6))) → (rg (x2_6 + 1) ∧ (I7 (x2_6 + 1) (nxP (s.2 0) x3_6 kind ((s.2 0) 3).toNat) ∧ μ8 (x2_6 + 1) (nxP (s.2 0) x3_6 kind ((s.2 0) 3).toNat) < μ8 x2_6 x3_6)))))
set_option maxHeartbeats 1000000 in
theorem sp_X7_many (s : SS) (kind : Int) (r_s : RG s) (r_kind : rg kind) (p0 : Vb (s.2 0)) (p1 : kind = 0 ∨ kind = 1) : wp_X7_many s kind (fun z => z = (manyZ (s.2 0) kind)) := by
  unfold wp_X7_many
  refine ⟨p0, ?_⟩
  have hz := p0
  obtain ⟨v1, v2, v3, v4, v5⟩ := p0
  refine ⟨fun n p => (p = -6 ∧ n = manyZ (s.2 0) kind) ∨ ∃ K : Int, 0 ≤ K ∧ K < s.2 0 4 ∧ p = 10 + 2 * K + kind ∧ n = sumI (fun k => pz (0 < rowsAt (s.2 0) (10 + 2 * k + kind))) K.toNat ∧ sumI (fun k => pz (0 < rowsAt (s.2 0) (10 + 2 * k + kind))) (K + 1).toNat = n + 1, fun _ p => if p = -6 then 0 else (2 * s.2 0 4 + 20 - p).toNat, ?_, ?_⟩
  · rcases many_step p1 hz 0 0 (by omega) v3 (Or.inr ⟨rfl, rfl⟩) with ⟨g1, g2⟩ | ⟨K', g1, g2, g3, g4, g5, g6, g7⟩
    · exact Or.inl ⟨g1, g2.1⟩
    · exact Or.inr ⟨K', g1, g2, g3, g6, g7⟩
  intro n p rn rp hI
  dsimp only
  refine ⟨fun c => ?_, fun c => ?_⟩
  · rcases hI with ⟨_, h⟩ | ⟨K, h1, h2, h3, _⟩
    · exact h
    · omega
  · rcases hI with ⟨h, _⟩ | ⟨K, h1, h2, h3, h4, h5⟩
    · exact absurd h c
    have hn := sum_rng (z := s.2 0) (kind := kind) h1
    refine ⟨by unfold rg at *; omega, ?_, ?_⟩
    · rcases many_step p1 hz p (K + 1) (by omega) (by omega) (Or.inl (by omega)) with ⟨g1, g2⟩ | ⟨K', g1, g2, g3, g4, g5, g6, g7⟩
      · exact Or.inl ⟨g1, by rw [← h5, g2.1]⟩
      · exact Or.inr ⟨K', by omega, g2, g3, by rw [← h5, g6], by rw [g7, h5]⟩
    · rw [if_neg c]
      rcases many_step p1 hz p (K + 1) (by omega) (by omega) (Or.inl (by omega)) with ⟨g1, g2⟩ | ⟨K', g1, g2, g3, g4, g5, g6, g7⟩
      · rw [if_pos g1]; omega
      · rw [if_neg (by omega), g3]; omega
def wp_X7_runMany (s : SS)  (P : Int → Prop) : Prop :=
  (Vb (s.2 0)) ∧ (((0 : Int) = 0 ∨ (0 : Int) = 1) ∧ (P (manyZ (s.2 0) (0 : Int))))
set_option maxHeartbeats 1000000 in
theorem sp_X7_runMany (s : SS)  (r_s : RG s)  (p0 : Vb (s.2 0)) : wp_X7_runMany s (fun z => z = (manyZ (s.2 0) 0)) := by
  unfold wp_X7_runMany
  exact ⟨p0, Or.inl rfl, rfl⟩
def wp_X7_becomesRun (s : SS) (place : Int) (P : Int → SS → Prop) : Prop :=
  ∃ (I2 : Int → SS → Prop) (μ3 : Int → SS → Nat), I2 0 s ∧ ∀ (x2_1 : Int) (s0_1 : SS), rg x2_1 → RG s0_1 → I2 x2_1 s0_1 → (((x2_1 < ((s0_1.2 0) 3)) → (rg (250 + x2_1) ∧ ((0 ≤ x2_1 ∧ x2_1 < 120) ∧ (((((s0_1.2 0) (250 + x2_1)) = place) → (rg (2 * ((s0_1.2 0) 4)) ∧ (rg (10 + (2 * ((s0_1.2 0) 4))) ∧ ((0 ≤ (250 + x2_1) ∧ (250 + x2_1) < 370) ∧ (rg (x2_1 + 1) ∧ (I2 (x2_1 + 1) (sA s0_1 0 (uZ (s0_1.2 0) (250 + x2_1) (10 + (2 * ((s0_1.2 0) 4))))) ∧ μ3 (x2_1 + 1) (sA s0_1 0 (uZ (s0_1.2 0) (250 + x2_1) (10 + (2 * ((s0_1.2 0) 4))))) < μ3 x2_1 s0_1)))))) ∧ ((¬ (((s0_1.2 0) (250 + x2_1)) = place)) → ((0 ≤ (250 + x2_1) ∧ (250 + x2_1) < 370) ∧ (rg (x2_1 + 1) ∧ (I2 (x2_1 + 1) (sA s0_1 0 (uZ (s0_1.2 0) (250 + x2_1) ((s0_1.2 0) (250 + x2_1)))) ∧ μ3 (x2_1 + 1) (sA s0_1 0 (uZ (s0_1.2 0) (250 + x2_1) ((s0_1.2 0) (250 + x2_1)))) < μ3 x2_1 s0_1)))))))) ∧ ((¬ (x2_1 < ((s0_1.2 0) 3))) → (rg (((s0_1.2 0) 4) + 1) ∧ (rg ((((s0_1.2 0) 4) + 1) - 1) ∧ (P ((((s0_1.2 0) 4) + 1) - 1) (sA s0_1 0 (uZ (s0_1.2 0) 4 (((s0_1.2 0) 4) + 1))))))))
set_option maxHeartbeats 1000000 in
theorem sp_X7_becomesRun (s : SS) (place : Int) (r_s : RG s) (r_place : rg place) (p0 : Vb (s.2 0)) : wp_X7_becomesRun s place (fun z o0 => z = ((s.2 0) 4) ∧ o0 = (sA s 0 (becm (s.2 0) place))) := by
  unfold wp_X7_becomesRun
  obtain ⟨v1, v2, v3, v4, v5⟩ := p0
  refine ⟨fun r t => 0 ≤ r ∧ r ≤ s.2 0 3 ∧ t = sA s 0 (bcF (s.2 0) place r), fun r _ => (s.2 0 3 - r).toNat, ⟨by omega, by omega, ?_⟩, ?_⟩
  · rw [bcF_0]
    show s = (s.1, fun j => if j = 0 then s.2 0 else s.2 j)
    refine Prod.ext rfl (funext fun j => ?_)
    show s.2 j = if j = 0 then s.2 0 else s.2 j
    by_cases q : j = 0
    · rw [if_pos q, q]
    · rw [if_neg q]
  intro r t rr rt ⟨h0, h1, h2⟩
  dsimp only
  subst h2
  have e3 : bcF (s.2 0) place r 3 = s.2 0 3 := bcF_lo (by omega)
  have e4 : bcF (s.2 0) place r 4 = s.2 0 4 := bcF_lo (by omega)
  have er : bcF (s.2 0) place r (250 + r) = s.2 0 (250 + r) := bcF_hi (by omega)
  rw [sA_at, sA_sA, sA_sA, e3, e4, er]
  refine ⟨fun c => ⟨by unfold rg at *; omega, by omega, fun c2 => ?_, fun c2 => ?_⟩, fun c => ?_⟩
  · refine ⟨by unfold rg at *; omega, by unfold rg at *; omega, by omega, by unfold rg at *; omega, ⟨by omega, by omega, ?_⟩, by omega⟩
    rw [bcF_S h0 (by rw [if_pos c2])]
  · refine ⟨by omega, by unfold rg at *; omega, ⟨by omega, by omega, ?_⟩, by omega⟩
    rw [bcF_S h0 (by rw [if_neg c2])]
  · refine ⟨by unfold rg at *; omega, by unfold rg at *; omega, by omega, ?_⟩
    rw [sA_sA, ← becm_eq, show r = s.2 0 3 by omega]
def wp_X7_writes (s : SS)  (P : Int → SS → Prop) : Prop :=
  (Vb (s.2 0)) ∧ ((((rowsAt (s.2 0) (1 : Int)) = 0) → (P (-6) s)) ∧ ((¬ ((rowsAt (s.2 0) (1 : Int)) = 0)) → (rg (((s.2 0) 7) + (rowsAt (s.2 0) (1 : Int))) ∧ ((Vb (uZ (s.2 0) 7 (((s.2 0) 7) + (rowsAt (s.2 0) (1 : Int))))) ∧ (P ((uZ (s.2 0) 7 (((s.2 0) 7) + (rowsAt (s.2 0) (1 : Int)))) 4) (sA s 0 (becm (uZ (s.2 0) 7 (((s.2 0) 7) + (rowsAt (s.2 0) (1 : Int)))) (1 : Int))))))))
set_option maxHeartbeats 1000000 in
theorem sp_X7_writes (s : SS)  (r_s : RG s)  (p0 : Vb (s.2 0)) (p1 : rg ((s.2 0) 7 + rowsAt (s.2 0) 1)) : wp_X7_writes s (fun z o0 => z = (if rowsAt (s.2 0) 1 = 0 then -6 else (s.2 0) 4) ∧ o0 = (sA s 0 (wriZ (s.2 0)))) := by
  unfold wp_X7_writes
  refine ⟨p0, fun c => ?_, fun c => ⟨p1, Vb_lo p0 (by omega) (by omega) (by omega), ?_⟩⟩
  · rw [if_pos c]
    unfold wriZ
    rw [if_pos c, sA_self]
    exact ⟨rfl, rfl⟩
  · rw [if_neg c]
    unfold wriZ
    rw [if_neg c, uZ_ne (by omega)]
    exact ⟨rfl, rfl⟩
def wp_X7_sameInMemory (s : SS) (key : Int) (P : Int → Prop) : Prop :=
  ∃ (I2 : Int → Int → Prop) (μ3 : Int → Int → Nat), I2 (-6) 0 ∧ ∀ (x2_1 : Int) (x3_1 : Int), rg x2_1 → rg x3_1 → I2 x2_1 x3_1 → (((x3_1 < ((s.2 0) 3)) → ((0 ≤ x3_1 ∧ x3_1 < 120) ∧ (((((s.2 0) (250 + x3_1)) = 1) → (rg (10 + x3_1) ∧ ((0 ≤ (10 + x3_1) ∧ (10 + x3_1) < 370) ∧ (((((s.2 0) (10 + x3_1)) = key) → (rg (x3_1 + 1) ∧ (I2 x3_1 (x3_1 + 1) ∧ μ3 x3_1 (x3_1 + 1) < μ3 x2_1 x3_1))) ∧ ((¬ (((s.2 0) (10 + x3_1)) = key)) → (rg (x3_1 + 1) ∧ (I2 x2_1 (x3_1 + 1) ∧ μ3 x2_1 (x3_1 + 1) < μ3 x2_1 x3_1))))))) ∧ ((¬ (((s.2 0) (250 + x3_1)) = 1)) → (rg (x3_1 + 1) ∧ (I2 x2_1 (x3_1 + 1) ∧ μ3 x2_1 (x3_1 + 1) < μ3 x2_1 x3_1)))))) ∧ ((¬ (x3_1 < ((s.2 0) 3))) → (P x2_1)))
set_option maxHeartbeats 1000000 in
theorem sp_X7_sameInMemory (s : SS) (key : Int) (r_s : RG s) (r_key : rg key) (p0 : Vb (s.2 0)) : wp_X7_sameInMemory s key (fun z => z = (samZ (s.2 0) key ((s.2 0) 3).toNat)) := by
  unfold wp_X7_sameInMemory
  obtain ⟨v1, v2, -⟩ := p0
  refine ⟨fun b r => 0 ≤ r ∧ r ≤ s.2 0 3 ∧ b = samZ (s.2 0) key r.toNat, fun _ r => (s.2 0 3 - r).toNat, ⟨by omega, by omega, rfl⟩, ?_⟩
  intro b r rb rr ⟨h0, h1, h2⟩
  dsimp only
  have e := samZ_S (z := s.2 0) (k := key) h0
  rw [← h2] at e
  have kp : (s.2 0 (250 + r) = 1 ∧ s.2 0 (10 + r) = key) → r = samZ (s.2 0) key (r + 1).toNat := fun q => by rw [e, if_pos q]
  have kn : ¬ (s.2 0 (250 + r) = 1 ∧ s.2 0 (10 + r) = key) → b = samZ (s.2 0) key (r + 1).toNat := fun q => by rw [e, if_neg q]
  refine ⟨fun c => ?_, fun c => by rw [h2, show r = s.2 0 3 by omega]⟩
  clear h2 e
  (repeat' first | (refine And.intro ?_ ?_) | intro _)
  all_goals (try dsimp only)
  all_goals first | (unfold rg at *; omega) | omega | exact kp (by omega) | exact kn (by omega)
def wp_X7_adds (s : SS) (key : Int) (P : Int → SS → Prop) : Prop :=
  ((((s.2 0) 1) = 1) → ((Vb (s.2 0)) ∧ ((((samZ (s.2 0) key ((s.2 0) 3).toNat) = (-6)) → ((((rowsAt (s.2 0) (1 : Int)) = ((s.2 0) 0)) → ((rg ((s.2 0) 7 + rowsAt (s.2 0) 1)) ∧ (rg (((wriZ (s.2 0)) 3) + 1) ∧ (rg (10 + ((s.2 0) 3)) ∧ ((0 ≤ (10 + ((s.2 0) 3)) ∧ (10 + ((s.2 0) 3)) < 370) ∧ (rg (130 + ((s.2 0) 3)) ∧ ((0 ≤ (130 + ((s.2 0) 3)) ∧ (130 + ((s.2 0) 3)) < 370) ∧ (rg (250 + ((s.2 0) 3)) ∧ ((0 ≤ (250 + ((s.2 0) 3)) ∧ (250 + ((s.2 0) 3)) < 370) ∧ (P ((s.2 0) 3) (sA s 0 (uZ (uZ (uZ (uZ (wriZ (s.2 0)) 3 (((wriZ (s.2 0)) 3) + 1)) (10 + ((s.2 0) 3)) key) (130 + ((s.2 0) 3)) 1) (250 + ((s.2 0) 3)) 1)))))))))))) ∧ ((¬ ((rowsAt (s.2 0) (1 : Int)) = ((s.2 0) 0))) → (rg (((s.2 0) 3) + 1) ∧ (rg (10 + ((s.2 0) 3)) ∧ ((0 ≤ (10 + ((s.2 0) 3)) ∧ (10 + ((s.2 0) 3)) < 370) ∧ (rg (130 + ((s.2 0) 3)) ∧ ((0 ≤ (130 + ((s.2 0) 3)) ∧ (130 + ((s.2 0) 3)) < 370) ∧ (rg (250 + ((s.2 0) 3)) ∧ ((0 ≤ (250 + ((s.2 0) 3)) ∧ (250 + ((s.2 0) 3)) < 370) ∧ (P ((s.2 0) 3) (sA s 0 (uZ (uZ (uZ (uZ (s.2 0) 3 (((s.2 0) 3) + 1)) (10 + ((s.2 0) 3)) key) (130 + ((s.2 0) 3)) 1) (250 + ((s.2 0) 3)) 1))))))))))))) ∧ ((¬ ((samZ (s.2 0) key ((s.2 0) 3).toNat) = (-6))) → (rg (((s.2 0) 3) + 1) ∧ (rg (10 + ((s.2 0) 3)) ∧ ((0 ≤ (10 + ((s.2 0) 3)) ∧ (10 + ((s.2 0) 3)) < 370) ∧ (rg (130 + ((s.2 0) 3)) ∧ ((0 ≤ (130 + ((s.2 0) 3)) ∧ (130 + ((s.2 0) 3)) < 370) ∧ (rg (250 + ((s.2 0) 3)) ∧ ((0 ≤ (250 + ((s.2 0) 3)) ∧ (250 + ((s.2 0) 3)) < 370) ∧ (rg (130 + (samZ (s.2 0) key ((s.2 0) 3).toNat)) ∧ ((0 ≤ (130 + (samZ (s.2 0) key ((s.2 0) 3).toNat)) ∧ (130 + (samZ (s.2 0) key ((s.2 0) 3).toNat)) < 370) ∧ (rg (((uZ (uZ (uZ (uZ (s.2 0) 3 (((s.2 0) 3) + 1)) (10 + ((s.2 0) 3)) key) (130 + ((s.2 0) 3)) 0) (250 + ((s.2 0) 3)) 0) (130 + (samZ (s.2 0) key ((s.2 0) 3).toNat))) + 1) ∧ (P ((s.2 0) 3) (sA s 0 (uZ (uZ (uZ (uZ (uZ (s.2 0) 3 (((s.2 0) 3) + 1)) (10 + ((s.2 0) 3)) key) (130 + ((s.2 0) 3)) 0) (250 + ((s.2 0) 3)) 0) (130 + (samZ (s.2 0) key ((s.2 0) 3).toNat)) (((uZ (uZ (uZ (uZ (s.2 0) 3 (((s.2 0) 3) + 1)) (10 + ((s.2 0) 3)) key) (130 + ((s.2 0) 3)) 0) (250 + ((s.2 0) 3)) 0) (130 + (samZ (s.2 0) key ((s.2 0) 3).toNat))) + 1)))))))))))))))))) ∧ ((¬ (((s.2 0) 1) = 1)) → ((Vb (s.2 0)) ∧ ((((rowsAt (s.2 0) (1 : Int)) = ((s.2 0) 0)) → ((rg ((s.2 0) 7 + rowsAt (s.2 0) 1)) ∧ (rg (((wriZ (s.2 0)) 3) + 1) ∧ (rg (10 + ((s.2 0) 3)) ∧ ((0 ≤ (10 + ((s.2 0) 3)) ∧ (10 + ((s.2 0) 3)) < 370) ∧ (rg (130 + ((s.2 0) 3)) ∧ ((0 ≤ (130 + ((s.2 0) 3)) ∧ (130 + ((s.2 0) 3)) < 370) ∧ (rg (250 + ((s.2 0) 3)) ∧ ((0 ≤ (250 + ((s.2 0) 3)) ∧ (250 + ((s.2 0) 3)) < 370) ∧ (P ((s.2 0) 3) (sA s 0 (uZ (uZ (uZ (uZ (wriZ (s.2 0)) 3 (((wriZ (s.2 0)) 3) + 1)) (10 + ((s.2 0) 3)) key) (130 + ((s.2 0) 3)) 1) (250 + ((s.2 0) 3)) 1)))))))))))) ∧ ((¬ ((rowsAt (s.2 0) (1 : Int)) = ((s.2 0) 0))) → (rg (((s.2 0) 3) + 1) ∧ (rg (10 + ((s.2 0) 3)) ∧ ((0 ≤ (10 + ((s.2 0) 3)) ∧ (10 + ((s.2 0) 3)) < 370) ∧ (rg (130 + ((s.2 0) 3)) ∧ ((0 ≤ (130 + ((s.2 0) 3)) ∧ (130 + ((s.2 0) 3)) < 370) ∧ (rg (250 + ((s.2 0) 3)) ∧ ((0 ≤ (250 + ((s.2 0) 3)) ∧ (250 + ((s.2 0) 3)) < 370) ∧ (P ((s.2 0) 3) (sA s 0 (uZ (uZ (uZ (uZ (s.2 0) 3 (((s.2 0) 3) + 1)) (10 + ((s.2 0) 3)) key) (130 + ((s.2 0) 3)) 1) (250 + ((s.2 0) 3)) 1))))))))))))))
set_option maxHeartbeats 1000000 in
theorem sp_X7_adds (s : SS) (key : Int) (r_s : RG s) (r_key : rg key) (p0 : Vb (s.2 0)) (p1 : rg ((s.2 0) 7 + rowsAt (s.2 0) 1)) (p2 : (s.2 0) 3 < 120) (p3 : ∀ r, 0 ≤ r → r < (s.2 0) 3 → 0 ≤ (s.2 0) (130 + r) ∧ (s.2 0) (130 + r) ≤ 120) : wp_X7_adds s key (fun z o0 => z = ((s.2 0) 3) ∧ o0 = (sA s 0 (addZ (s.2 0) key))) := by
  unfold wp_X7_adds
  obtain ⟨v1, v2, v3, v4, v5⟩ := id p0
  have hw : wriZ (s.2 0) 3 = s.2 0 3 := wriZ_lo (by omega) (by omega) (by omega)
  rw [hw]
  have R : ∀ k : Int, 0 ≤ k → k ≤ 250 → rg (k + s.2 0 3) := fun k h1 h2 => by unfold rg; omega
  have fin1 : samV (s.2 0) key = -6 → ((rowsAt (s.2 0) 1 = s.2 0 0 → _) ∧ (¬ rowsAt (s.2 0) 1 = s.2 0 0 → _)) := fun h => ⟨fun c => (⟨p1, by unfold rg; omega, R 10 (by omega) (by omega), by omega, R 130 (by omega) (by omega), by omega, R 250 (by omega) (by omega), by omega, rfl, by rw [addZ_1 h c]⟩ : rg (s.2 0 7 + rowsAt (s.2 0) 1) ∧ rg (s.2 0 3 + 1) ∧ rg (10 + s.2 0 3) ∧ (0 ≤ 10 + s.2 0 3 ∧ 10 + s.2 0 3 < 370) ∧ rg (130 + s.2 0 3) ∧ (0 ≤ 130 + s.2 0 3 ∧ 130 + s.2 0 3 < 370) ∧ rg (250 + s.2 0 3) ∧ (0 ≤ 250 + s.2 0 3 ∧ 250 + s.2 0 3 < 370) ∧ s.2 0 3 = s.2 0 3 ∧ sA s 0 (uZ (uZ (uZ (uZ (wriZ (s.2 0)) 3 (s.2 0 3 + 1)) (10 + s.2 0 3) key) (130 + s.2 0 3) 1) (250 + s.2 0 3) 1) = sA s 0 (addZ (s.2 0) key)), fun c => (⟨by unfold rg; omega, R 10 (by omega) (by omega), by omega, R 130 (by omega) (by omega), by omega, R 250 (by omega) (by omega), by omega, rfl, by rw [addZ_2 h c]⟩ : rg (s.2 0 3 + 1) ∧ rg (10 + s.2 0 3) ∧ (0 ≤ 10 + s.2 0 3 ∧ 10 + s.2 0 3 < 370) ∧ rg (130 + s.2 0 3) ∧ (0 ≤ 130 + s.2 0 3 ∧ 130 + s.2 0 3 < 370) ∧ rg (250 + s.2 0 3) ∧ (0 ≤ 250 + s.2 0 3 ∧ 250 + s.2 0 3 < 370) ∧ s.2 0 3 = s.2 0 3 ∧ sA s 0 (uZ (uZ (uZ (uZ (s.2 0) 3 (s.2 0 3 + 1)) (10 + s.2 0 3) key) (130 + s.2 0 3) 1) (250 + s.2 0 3) 1) = sA s 0 (addZ (s.2 0) key))⟩
  refine ⟨fun c => ⟨p0, fun c2 => fin1 (by unfold samV; rw [if_pos c]; exact c2), fun c2 => ?_⟩, fun c => ⟨p0, fin1 (by unfold samV; rw [if_neg c])⟩⟩
  have sv : samV (s.2 0) key = samZ (s.2 0) key (s.2 0 3).toNat := by unfold samV; rw [if_pos c]
  rw [← sv] at c2 ⊢
  rcases samV_spec (z := s.2 0) (k := key) v1 with q | ⟨q1, q2, q3, q4, q5⟩
  · exact absurd q c2
  have hc := p3 _ q2 q3
  have e : uZ (uZ (uZ (uZ (s.2 0) 3 (s.2 0 3 + 1)) (10 + s.2 0 3) key) (130 + s.2 0 3) 0) (250 + s.2 0 3) 0 (130 + samV (s.2 0) key) = s.2 0 (130 + samV (s.2 0) key) := by
    rw [uZ_ne (by omega), uZ_ne (by omega), uZ_ne (by omega), uZ_ne (by omega)]
  rw [e]
  refine ⟨by unfold rg; omega, R 10 (by omega) (by omega), by omega, R 130 (by omega) (by omega), by omega, R 250 (by omega) (by omega), by omega, by unfold rg; omega, by omega, by unfold rg; omega, rfl, ?_⟩
  rw [addZ_3 c2]
