/-! ===== changes of the whole object ===== -/
theorem HInv_upd {n : Int} {z z' : Int → Int} (h : HInv n z) (hv : Vz z') (h4 : z' 4 ≤ z 4 + 60000) (h7 : z' 7 ≤ z 7 + 120000) (h8 : z' 8 ≤ z 8 + 60000) (h9 : z' 9 ≤ z 9 + 60000) : HInv (n + 1) z' := by
  obtain ⟨_, a, b, c, d⟩ := h
  exact ⟨hv, by omega, by omega, by omega, by omega⟩
theorem wri_upd {z : Int → Int} (hz : Vz z) : wriZ z 4 ≤ z 4 + 1 ∧ wriZ z 7 ≤ z 7 + 120 ∧ wriZ z 8 = z 8 ∧ wriZ z 9 = z 9 := by
  have h := hz.1.1
  have h2 := hz.1.2.1
  have hr := rowsAt_le (z := z) (p := 1) h
  have hp := pz_01 (0 < rowsAt z 1)
  rw [wriZ_4 h, wriZ_7, wriZ_lo (i := 8) (by omega) (by omega) (by omega), wriZ_lo (i := 9) (by omega) (by omega) (by omega)]
  omega
theorem fin_upd {z : Int → Int} (hz : Vz z) : finZ z 4 ≤ z 4 + 1 ∧ finZ z 7 ≤ z 7 + 120 ∧ finZ z 8 = z 8 ∧ finZ z 9 = z 9 ∧ z 7 ≤ finZ z 7 := by
  have h := wri_upd hz
  have hr := rowsAt_le (z := z) (p := 1) hz.1.1
  unfold finZ
  rw [uZ_ne (by omega), uZ_ne (by omega), uZ_ne (by omega), uZ_ne (by omega)]
  refine ⟨h.1, h.2.1, h.2.2.1, h.2.2.2, ?_⟩
  rw [wriZ_7]; omega
/-- a run to the end is possible: as the class tells, and as the reference -/
theorem cr_is {c : SS} {z : Int → Int} (hV : Vz z) (h : Rep c z) : (c.1 17 + pz (0 < c.1 6) + pz (0 < c.1 18) ≤ 1 ∨ 2 ≤ waysZ (c.1 4)) ↔ crZ z := by
  have ⟨⟨f2, f3, f4, f8, f12, f13, f14, f15, f16⟩, ⟨n6, n11, n17, n18, n5⟩, b16, b17, b18, b6⟩ := Rep_facts hV h
  have ⟨_, ⟨v0, v1, v2, v5, _⟩, _, _, hc, hm, _⟩ := hV
  have e : pz (0 < c.1 6) + pz (0 < c.1 18) = pz (z 2 = 1 ∧ 0 < rowsAt z 1 ∨ z 5 = 1) := by
    by_cases a : 0 < c.1 18
    · have y := n5.mp a
      have z2 : z 2 = 0 := by
        rcases v2 with w | w
        · exact w
        · have := (hc w).1; omega
      have := hm z2
      rw [pz_t a, pz_f (by omega), pz_t (Or.inr y)]; rfl
    · have y : ¬ z 5 = 1 := fun q => a (n5.mpr q)
      rw [pz_f a, Int.add_zero]
      refine pz_cong ?_
      rcases v2 with w | w
      · have := hm w
        omega
      · omega
  unfold crZ
  rw [n17, f4]
  omega
theorem All_upd {z y : Int → Int} (hz : Vz z) (hB : z 4 + 50000 ≤ 900000000) (hc : crZ z) (h : AllZ (finZ z) y) : Vz y ∧ y 4 ≤ z 4 + 60000 ∧ y 7 ≤ z 7 + 120000 ∧ y 8 ≤ z 8 + 60000 ∧ y 9 = z 9 ∧ z 7 ≤ y 7 ∧ z 8 ≤ y 8 := by
  have hf := finZ_Vz hz (by omega)
  have hp := phi_le hf
  have hu := fin_upd hz
  obtain ⟨a1, a2, a3, a4, a5, a6, a7, a8, a9, a10, a11⟩ := All_inv hf (finZ_goC hz hc) (by omega) h
  have hn := phi_nn a1
  exact ⟨a1, by omega, by omega, by omega, by omega, by omega, by omega⟩
theorem seq_is {z : Int → Int} {w : Nat → Int → Int} {r : Int} (w0 : w 0 = z) (h : ∀ i : Nat, (i : Int) < r → (w i) 5 = 1 ∧ w (i + 1) = stpZ (w i)) : ∀ i : Nat, (i : Int) ≤ r → w i = wSq z i
  | 0, _ => w0
  | i + 1, hi => by rw [(h i (by omega)).2, seq_is w0 h i (by omega)]; rfl
