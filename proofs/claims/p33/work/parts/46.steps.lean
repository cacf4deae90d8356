/-! ===== the steps of a merge ===== -/
def wSq (z : Int → Int) : Nat → Int → Int
  | 0 => z
  | n + 1 => stpZ (wSq z n)
theorem Rep_ri {s : SS} {z : Int → Int} (hb : Vb z) (h : Rep s z) : 0 < s.1 18 ↔ 0 < riZ z := by
  have ⟨b1, b2, b3, b4, b5⟩ := hb
  have hin := h.2.2.2.2.1
  refine ⟨fun c => ?_, fun c => ?_⟩
  · obtain ⟨a1, a2, a3, a4⟩ := hin.2.1 0 (by omega) c
    obtain ⟨x1, x2, x3⟩ := a4.1 0 (by omega)
    exact riZ_pos2 b1 x1 x2 (by omega)
  · obtain ⟨r, r1, r2, r3⟩ := riZ_pos.mp c
    obtain ⟨i, i1, i2, _⟩ := hin.2.2.2 r r1 r2 (by omega) r3.2
    omega
theorem Rep_5 {s : SS} {z : Int → Int} {v : Int} (h : Rep s z) : Rep s (uZ z 5 v) := by
  have ⟨_, ⟨c1, c2, c3, c4, c5, c6, c7, c8⟩, _⟩ := h
  exact Rep_sc h rfl rfl rfl rfl rfl rfl rfl rfl ⟨c1, c2, c3, c4, c5, c6, c7, c8⟩ (fun i g => uZ_ne (by omega)) rfl (Int.le_refl _)
def StI (z : Int → Int) (most k : Int) (t : SS) : Prop := (0 ≤ k ∧ k ≤ most) ∧ (∀ i : Nat, (i : Int) < k → (wSq z i) 5 = 1) ∧ Vz (wSq z k.toNat) ∧ (wSq z k.toNat) 4 ≤ z 4 + k ∧ (wSq z k.toNat) 7 ≤ z 7 + 2 * k ∧ ((0 < t.1 18 ∧ Rep t (wSq z k.toNat) ∧ (wSq z k.toNat) 5 = 1) ∨ (¬ 0 < t.1 18 ∧ (wSq z k.toNat) 5 = 0 ∧ ∃ y, Rep t y ∧ Vb y ∧ y 4 + 1 ≤ 900000000 ∧ 0 < rowsAt y 2 ∧ wSq z k.toNat = uZ (becm y 2) 5 0))
theorem StI_step {z : Int → Int} {most k : Int} {t u : SS} (hB : Bd z most) (h : StI z most k t) (hk : k < most) (ht : 0 < t.1 18) (hu : Rep u (stp0 (wSq z k.toNat))) : StI z most (k + 1) u := by
  obtain ⟨h0, h1, h2, h3, h4, h5⟩ := h
  obtain ⟨_, g1, g2⟩ := h5.resolve_right (fun w => w.1 ht)
  have hv := h2.1
  have hri : 0 < riZ (wSq z k.toNat) := (Rep_ri hv g1).mp ht
  have hb4 := hB.1
  have hS := stpZ_all h2 hri (by omega)
  have hs0 := stp0_all h2 hri
  have e : wSq z (k + 1).toNat = stpZ (wSq z k.toNat) := by rw [show (k + 1).toNat = k.toNat + 1 by omega]; rfl
  obtain ⟨y1, y2, y3, y4, y5, y6, y7⟩ := hs0
  have hvb := stp0_Vb hv hri
  unfold StI
  rw [e]
  refine ⟨by omega, fun i hi => ?_, hS.1, by have := hS.2.2.2.1; omega, by have := hS.2.2.2.2.1; omega, ?_⟩
  · by_cases w : (i : Int) < k
    · exact h1 i w
    · rw [show i = k.toNat by omega]; exact g2
  · have hrr := Rep_ri hvb hu
    by_cases c : 0 < u.1 18
    · have n0 : ¬ riZ (stp0 (wSq z k.toNat)) = 0 := by have := hrr.mp c; omega
      have e2 : stpZ (wSq z k.toNat) = stp0 (wSq z k.toNat) := by unfold stpZ; rw [if_neg n0]
      refine Or.inl ⟨c, by rw [e2]; exact hu, ?_⟩
      obtain ⟨_, _, _, _, _, _, _, vr, _⟩ := hS.1
      exact vr.mpr (by rw [e2]; exact hrr.mp c)
    · have n0 : riZ (stp0 (wSq z k.toNat)) = 0 := by
        have := (riZ_le hvb.1).1
        by_cases w : 0 < riZ (stp0 (wSq z k.toNat))
        · exact absurd (hrr.mpr w) c
        · omega
      have e2 : stpZ (wSq z k.toNat) = uZ (becm (stp0 (wSq z k.toNat)) 2) 5 0 := by unfold stpZ; rw [if_pos n0]
      exact Or.inr ⟨c, by rw [e2, uZ_at], _, hu, hvb, by omega, y3, e2⟩
