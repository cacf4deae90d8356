/-! ===== the steps of one merge, as a part of a run to the end ===== -/
theorem ms_ri {z : Int → Int} (hz : Vz z) (h : 0 < riZ z) (h4 : z 4 + 1 ≤ 900000000) : riZ (stpZ z) ≤ riZ z - 1 := by
  have h1 := stpZ_all hz h h4
  have h2 := stp0_all hz h
  obtain ⟨_, _, _, _, _, _, _, vr, _⟩ := h1.1
  have h3 := (riZ_le h1.1.1.1).1
  by_cases c : riZ (stp0 z) = 0
  · have e : stpZ z 5 = 0 := by unfold stpZ; rw [if_pos c, uZ_at]
    have : ¬ 0 < riZ (stpZ z) := fun q => by have := vr.mpr q; omega
    have := h2.2.1
    omega
  · have e : stpZ z = stp0 z := by unfold stpZ; rw [if_neg c]
    rw [e, h2.2.1]
    omega
theorem ms_inv {z : Int → Int} {n : Int} {w : Nat → Int → Int} (hz : Vz z) (h2 : z 2 = 0) (hB : Bd z 120) (hn : n ≤ 120) (w0 : w 0 = z) (hw : ∀ i : Nat, (i : Int) < n → (w i) 5 = 1 ∧ w (i + 1) = stpZ (w i)) : ∀ i : Nat, (i : Int) ≤ n → Vz (w i) ∧ (w i) 2 = 0 ∧ (w i) 0 = z 0 ∧ manyZ (w i) 0 + (w i) 5 = manyZ z 0 + z 5 ∧ (w i) 4 ≤ z 4 + i ∧ (w i) 7 ≤ z 7 + 2 * i ∧ (w i) 8 = z 8 ∧ (w i) 9 = z 9 ∧ riZ (w i) + i ≤ 120
  | 0, _ => by
    rw [w0]
    have h1 := (riZ_le hz.1.1).2
    have h3 := hz.1.2.1
    exact ⟨hz, h2, rfl, rfl, by omega, by omega, rfl, rfl, by omega⟩
  | i + 1, hi => by
    obtain ⟨g1, g2, g3, g4, g5, g6, g7, g8, g9⟩ := ms_inv hz h2 hB hn w0 hw i (by omega)
    obtain ⟨e5, e⟩ := hw i (by omega)
    have hr : 0 < riZ (w i) := by obtain ⟨_, _, _, _, _, _, _, vr, _⟩ := g1; exact vr.mp e5
    have hb4 := hB.1
    obtain ⟨s1, s2, s3, s4, s5, s6, s7, s8, s9⟩ := stpZ_all g1 hr (by omega)
    have := ms_ri g1 hr (by omega)
    have := stpZ_sum g1 hr (by omega)
    rw [e]
    exact ⟨s1, s9, by omega, by omega, by omega, by omega, by omega, by omega, by omega⟩
theorem ms_dn {n : Nat} {w : Nat → Int → Int} (hw : ∀ i : Nat, i < n → (w i) 5 = 1 ∧ w (i + 1) = stpZ (w i)) {y' : Int → Int} (h : AllZ (w n) y') : ∀ d : Nat, d ≤ n → AllZ (w (n - d)) y'
  | 0, _ => h
  | d + 1, hd => by
    have q := ms_dn hw h d (by omega)
    obtain ⟨e5, e⟩ := hw (n - (d + 1)) (by omega)
    refine AllZ_step (Or.inl e5) ?_
    unfold oneZ
    rw [if_neg (by omega), ← e, show n - (d + 1) + 1 = n - d by omega]
    exact q
theorem ms_all {z : Int → Int} {n : Int} {w : Nat → Int → Int} (hz : Vz z) (h2 : z 2 = 0) (hB : Bd z 120) (h0 : 0 ≤ n) (hn : n ≤ 120) (w0 : w 0 = z) (hw : ∀ i : Nat, (i : Int) < n → (w i) 5 = 1 ∧ w (i + 1) = stpZ (w i)) (he : n < 120 → (w n.toNat) 5 = 0) : (Vz (w n.toNat) ∧ (w n.toNat) 2 = 0 ∧ (w n.toNat) 0 = z 0 ∧ manyZ (w n.toNat) 0 = manyZ z 0 + z 5 ∧ (w n.toNat) 4 ≤ z 4 + 120 ∧ (w n.toNat) 7 ≤ z 7 + 240 ∧ (w n.toNat) 8 = z 8 ∧ (w n.toNat) 9 = z 9 ∧ (w n.toNat) 5 = 0) ∧ (∀ y', AllZ (w n.toNat) y' → AllZ z y') ∧ (z 5 = 1 → ∀ y', AllZ (w n.toNat) y' → AllZ (stpZ z) y') := by
  obtain ⟨g1, g2, g3, g4, g5, g6, g7, g8, g9⟩ := ms_inv hz h2 hB hn w0 hw n.toNat (by omega)
  have e5 : (w n.toNat) 5 = 0 := by
    by_cases c : n < 120
    · exact he c
    · obtain ⟨_, ⟨_, _, _, v5, _⟩, _, _, _, _, _, vr, _⟩ := g1
      rcases v5 with q | q
      · exact q
      · have := vr.mp q
        omega
  have dn : ∀ y', AllZ (w n.toNat) y' → ∀ d : Nat, d ≤ n.toNat → AllZ (w (n.toNat - d)) y' := fun y' h => ms_dn (fun i hi => hw i (by omega)) h
  refine ⟨⟨g1, g2, g3, by omega, by omega, by omega, g7, g8, e5⟩, fun y' h => ?_, fun h5 y' h => ?_⟩
  · have q := dn y' h n.toNat (Nat.le_refl _)
    rw [Nat.sub_self, w0] at q
    exact q
  · have n0 : 0 < n := by
      by_cases c : 0 < n
      · exact c
      · have := he (by omega)
        rw [show n.toNat = 0 by omega, w0] at this
        omega
    have q := dn y' h (n.toNat - 1) (by omega)
    rw [show n.toNat - (n.toNat - 1) = 0 + 1 by omega, (hw 0 (by omega)).2, w0] at q
    exact q

/-- the same in all that the class has -/
def Eq5 (s o : SS) : Prop := (s.1 2 = o.1 2 ∧ s.1 3 = o.1 3 ∧ s.1 4 = o.1 4 ∧ s.1 6 = o.1 6 ∧ s.1 8 = o.1 8 ∧ s.1 9 = o.1 9 ∧ s.1 10 = o.1 10 ∧ s.1 11 = o.1 11 ∧ s.1 12 = o.1 12 ∧ s.1 13 = o.1 13 ∧ s.1 14 = o.1 14 ∧ s.1 15 = o.1 15 ∧ s.1 16 = o.1 16 ∧ s.1 17 = o.1 17 ∧ s.1 18 = o.1 18) ∧ s.2 0 = o.2 0 ∧ s.2 1 = o.2 1 ∧ s.2 2 = o.2 2 ∧ s.2 3 = o.2 3 ∧ s.2 4 = o.2 4 ∧ s.2 5 = o.2 5 ∧ s.2 6 = o.2 6 ∧ s.2 7 = o.2 7 ∧ s.2 8 = o.2 8 ∧ s.2 9 = o.2 9
theorem W5_eq {G : ZG} {a : Nat → Nat} {s o : SS} (h : Eq5 s o) : W5 G a s = W5 G a o := by
  obtain ⟨⟨e0, e1, e2, e3, e4, e5, e6, e7, e8, e9, e10, e11, e12, e13, e14⟩, f0, f1, f2, f3, f4, f5, f6, f7, f8, f9⟩ := h
  unfold W5
  rw [e0, e1, e2, e3, e4, e5, e6, e7, e8, e9, e10, e11, e12, e13, e14, f0, f1, f2, f3, f4, f5, f6, f7, f8, f9]
