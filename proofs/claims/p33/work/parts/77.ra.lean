/-! ===== the class's reader stands for a state of the automaton ===== -/
def RA (kd fk hd va le mo : Int) (a : AT) : Prop := (kd = a.1 ∧ (kd = 0 ∨ kd = 1 ∨ kd = 2) ∧ (kd ≠ 0 → fk = a.2.1) ∧ hd = a.2.2.1 ∧ va = a.2.2.2 ∧ (hd = 0 ∨ hd = 1)) ∧ le = mnQ kd fk ∧ mo = mxQ kd
theorem RA_0 {fk : Int} : RA 0 fk 0 0 0 999 (0, 0, 0, 0) := ⟨⟨rfl, Or.inl rfl, fun q => absurd rfl q, rfl, rfl, Or.inl rfl⟩, mnQ_0.symm, mxQ_0.symm⟩
/-- values stay small -/
theorem va_g {cs : Int → Int} {n : Int} {a : AT} (h : StA cs n a) : ∀ j : Nat, (j : Int) ≤ n → 0 ≤ (gA cs j).2.2.2 ∧ (gA cs j).2.2.2 ≤ 999
  | 0, _ => ⟨Int.le_refl _, by show (0 : Int) ≤ 999; omega⟩
  | j + 1, hj => by
    have i1 := va_g h j (by omega)
    have w := h.2.1 j (by omega)
    rw [gA]
    generalize gA cs j = x at i1 w ⊢
    obtain ⟨kd, fk, hd, va⟩ := x
    have i1' : 0 ≤ va ∧ va ≤ 999 := i1
    have hm := mxQ_le (k := kd)
    show 0 ≤ (nxQ kd fk va (cs j)).2.2.2 ∧ (nxQ kd fk va (cs j)).2.2.2 ≤ 999
    unfold nxQ
    by_cases d : 48 ≤ cs j ∧ cs j ≤ 57
    · rw [if_pos d]
      have q : canQ (mnQ kd fk) (mxQ kd) (va * 10 + (cs j - 48)) := ((acc_dig d).mp w).2
      unfold canQ at q
      show 0 ≤ va * 10 + (cs j - 48) ∧ va * 10 + (cs j - 48) ≤ 999
      omega
    · rw [if_neg d]
      split
      · exact ⟨Int.le_refl _, by show (0 : Int) ≤ 999; omega⟩
      · split
        · exact ⟨Int.le_refl _, by show (0 : Int) ≤ 999; omega⟩
        · exact ⟨Int.le_refl _, by show (0 : Int) ≤ 999; omega⟩
