/-! ===== the memory is sorted, then written ===== -/
def befK (ky : Int → Int) (a b : Int) : Prop := ky a < ky b ∨ ky a = ky b ∧ a < b
theorem befK_trans {ky : Int → Int} {a b c : Int} (h1 : befK ky a b) (h2 : befK ky b c) : befK ky a c := by unfold befK at *; omega
theorem befK_tot {ky : Int → Int} {a b : Int} (h : a ≠ b) (h2 : ¬ befK ky a b) : befK ky b a := by unfold befK at *; omega
theorem befK_irr {ky : Int → Int} {a : Int} : ¬ befK ky a a := by unfold befK; omega
def SrtI (ky mem : Int → Int) (m k : Int) (g : Int → Int) : Prop := (∀ i j, 0 ≤ i → i < j → j < k → j < m → befK ky (g i) (g j)) ∧ (∀ i, 0 ≤ i → i < m → ∃ j, 0 ≤ j ∧ j < m ∧ g i = mem j) ∧ (∀ i, 0 ≤ i → i < m → ∃ j, 0 ≤ j ∧ j < m ∧ mem i = g j) ∧ ∀ i j, 0 ≤ i → i < j → j < m → g i ≠ g j
theorem SrtI_ins {ky mem g f : Int → Int} {m k x : Int} (h : SrtI ky mem m k g) (hk : 1 ≤ k ∧ k < m) (hx : 0 ≤ x ∧ x ≤ k) (hf : ∀ i, f i = if i < x ∨ k < i then g i else if i = x then g k else g (i - 1)) (hb : ∀ j, x ≤ j → j < k → befK ky (g k) (g j)) (ha : x = 0 ∨ ¬ befK ky (g k) (g (x - 1))) : SrtI ky mem m (k + 1) f := by
  obtain ⟨s1, s2, s3, s4⟩ := h
  have f1 : ∀ i, (i < x ∨ k < i) → f i = g i := fun i c => by rw [hf, if_pos c]
  have f2 : f x = g k := by rw [hf, if_neg (by omega), if_pos rfl]
  have f3 : ∀ i, x < i → i ≤ k → f i = g (i - 1) := fun i c1 c2 => by rw [hf, if_neg (by omega), if_neg (by omega)]
  have inj : ∀ i j, 0 ≤ i → i < m → 0 ≤ j → j < m → i ≠ j → g i ≠ g j := fun i j a b c d e => by
    rcases Int.lt_or_gt_of_ne e with q | q
    · exact s4 i j a q d
    · exact fun w => s4 j i c q b w.symm
  have p : ∀ i, 0 ≤ i → i < m → ∃ j, 0 ≤ j ∧ j < m ∧ f i = g j ∧ (i < x ∨ k < i → j = i) ∧ (i = x → j = k) ∧ (x < i → i ≤ k → j = i - 1) := fun i a b => by
    by_cases c1 : i < x ∨ k < i
    · exact ⟨i, a, b, f1 i c1, fun _ => rfl, by omega, by omega⟩
    · by_cases c2 : i = x
      · exact ⟨k, by omega, by omega, by rw [c2]; exact f2, by omega, fun _ => rfl, by omega⟩
      · exact ⟨i - 1, by omega, by omega, f3 i (by omega) (by omega), by omega, by omega, fun _ _ => rfl⟩
  refine ⟨fun i j h0 h1 h2 h3 => ?_, fun i a b => ?_, fun i a b => ?_, fun i j a b c => ?_⟩
  · by_cases c1 : j < x
    · rw [f1 i (by omega), f1 j (by omega)]
      exact s1 i j h0 h1 (by omega) h3
    · by_cases c2 : j = x
      · rw [c2, f2, f1 i (by omega)]
        have t := befK_tot (inj k (x - 1) (by omega) (by omega) (by omega) (by omega) (by omega)) (ha.resolve_left (by omega))
        by_cases c3 : i = x - 1
        · rw [c3]; exact t
        · exact befK_trans (s1 i (x - 1) h0 (by omega) (by omega) (by omega)) t
      · rw [f3 j (by omega) (by omega)]
        by_cases c3 : i < x
        · rw [f1 i (by omega)]
          exact s1 i (j - 1) h0 (by omega) (by omega) (by omega)
        · by_cases c4 : i = x
          · rw [c4, f2]
            exact hb (j - 1) (by omega) (by omega)
          · rw [f3 i (by omega) (by omega)]
            exact s1 (i - 1) (j - 1) (by omega) (by omega) (by omega) (by omega)
  · obtain ⟨j, q1, q2, q3, _⟩ := p i a b
    rw [q3]
    exact s2 j q1 q2
  · obtain ⟨j, q1, q2, q3⟩ := s3 i a b
    by_cases c1 : j < x ∨ k < j
    · exact ⟨j, q1, q2, by rw [f1 j c1]; exact q3⟩
    · by_cases c2 : j = k
      · exact ⟨x, by omega, by omega, by rw [f2, ← c2]; exact q3⟩
      · exact ⟨j + 1, by omega, by omega, by rw [f3 (j + 1) (by omega) (by omega), show j + 1 - 1 = j by omega]; exact q3⟩
  · obtain ⟨i', q1, q2, q3, q4, q5, q6⟩ := p i a (by omega)
    obtain ⟨j', r1, r2, r3, r4, r5, r6⟩ := p j (by omega) c
    rw [q3, r3]
    exact inj i' j' q1 q2 r1 r2 (by omega)
