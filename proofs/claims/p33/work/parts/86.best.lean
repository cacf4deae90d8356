/-! ===== predictions, texts, undone and saved states of the whole object ===== -/
theorem gra_cr {z : Int → Int} {v : Int} (hz : Vz z) (hv : 3 ≤ v ∧ v ≤ 20) (h : z 4 + 1 + manyZ z 1 ≤ 900000000) : crZ (graZ z v) := by
  have g := graZ_Vz hz (by omega : 2 ≤ v ∧ v ≤ 20) h
  refine Or.inr ?_
  rw [g.2.2.2.2.2.2.2.2.2.1]
  unfold waysZ
  omega
/-- the sizes above the ninth cost what the ninth costs -/
theorem grow_top {z : Int → Int} {r v : Int} (hz : Vz z) (h : z 4 + 1 + manyZ z 1 ≤ 900000000) (hv : 9 ≤ v ∧ v ≤ 20) (hg : growZ z 9 7 r) : growZ z v 7 r := by
  rcases hg with ⟨_, y, hA, e⟩ | ⟨hn, _⟩
  · refine Or.inl ⟨gra_cr hz (by omega) h, uZ y 0 v, ?_, by rw [uZ_ne (by omega)]; exact e⟩
    have g := graZ_Vz hz (by omega : 2 ≤ (9 : Int) ∧ (9 : Int) ≤ 20) h
    have e0 : finZ (graZ z 9) 0 = 9 := by
      unfold finZ
      rw [uZ_ne (by omega), wriZ_lo (by omega) (by omega) (by omega)]
      exact g.2.2.2.2.2.2.2.2.2.1
    have ew : waysZ v = waysZ 9 := by unfold waysZ; omega
    rw [gra_same hz ew]
    exact AllZ_u0 hA (by rw [e0]; exact ew)
  · exact absurd (gra_cr hz (by omega) h) hn
theorem best_top {z c : Int → Int} (hz : Vz z) (hB : Bd z 60000) (hc : ∀ j, 2 ≤ j → j < 10 → growZ z j 7 (c j)) : ∃ d : Int → Int, (∀ k, 2 ≤ k → k ≤ 20 → growZ z k 7 (d k)) ∧ bsF c 8 = bsF d 19 := by
  obtain ⟨b4, b7, b8, b9⟩ := hB
  obtain ⟨q1, q2, q3, q4, q5, q6⟩ := pubF hz (⟨by omega, by omega, by omega, by omega⟩ : Bd z 50000)
  have h9 := hc 9 (by omega) (by omega)
  have hd : ∀ k, 2 ≤ k → k ≤ 20 → growZ z k 7 ((fun j => if 10 ≤ j then c 9 else c j) k) := fun k k2 k20 => by
    show growZ z k 7 (if 10 ≤ k then c 9 else c k)
    by_cases w : 10 ≤ k
    · rw [if_pos w]; exact grow_top hz q3 (by omega) h9
    · rw [if_neg w]; exact hc k k2 (by omega)
  refine ⟨_, hd, ?_⟩
  have pos : 0 ≤ c 9 := by
    rcases h9 with ⟨h1, y, hA, e⟩ | ⟨hn, _⟩
    · have g := graZ_Vz hz (by omega : 2 ≤ (9 : Int) ∧ (9 : Int) ≤ 20) q3
      obtain ⟨g1, g2, g3, g4, g5, g6, g7, g8, _⟩ := g
      have a := All_upd g1 (by omega) h1 hA
      omega
    · exact absurd (gra_cr hz (by omega) q3) hn
  rw [bsF_top (c := fun j => if 10 ≤ j then c 9 else c j) (by show 0 ≤ (if (10 : Int) ≤ 9 then c 9 else c 9); rw [if_neg (by omega)]; exact pos) (fun j j1 j2 => by
    show (if 10 ≤ j then c 9 else c j) = (if (10 : Int) ≤ 9 then c 9 else c 9)
    by_cases w : 10 ≤ j
    · rw [if_pos w, if_neg (by omega)]
    · rw [if_neg w, if_neg (by omega), show j = 9 by omega])]
  exact (bsF_cong (fun j j1 j2 => if_neg (by omega))).symm
theorem bsF_S {c : Int → Int} {k r b : Int} (hk : 2 ≤ k) (hb : b = bsF c (k - 2).toNat) : bsF (uZ c k r) (k + 1 - 2).toNat = if 0 ≤ r ∧ (b = -6 ∨ r < c b) then k else b := by
  have bg := bsF_rng c (k - 2).toNat
  rw [show (k + 1 - 2).toNat = (k - 2).toNat + 1 by omega, bsF, bsF_u hk, ← hb, show (2 + (((k - 2).toNat : Nat) : Int)) = k by omega, uZ_at]
  by_cases w : b = -6
  · rw [w]; simp
  · rw [uZ_ne (i := k) (j := b) (by omega)]
