/-! ===== the first row of an input is taken ===== -/
theorem chn_shift {ne : Int → Int} {f : Int} : ∀ n : Nat, chn ne f (n + 1) = chn ne (ne f) n
  | 0 => rfl
  | n + 1 => by rw [chn, chn_shift n]; rfl
theorem ChL_drop {ne ne' z z' : Int → Int} {p f len : Int} (h : ChL ne z p f len) (h1 : 1 ≤ len) (hne : ∀ r, 0 ≤ r → r < z 3 → z (250 + r) = p → ne' r = ne r) (hpl : ∀ r, 0 ≤ r → ((r < z' 3 ∧ z' (250 + r) = p) ↔ (r < z 3 ∧ z (250 + r) = p ∧ r ≠ f))) (hk : ∀ r, 0 ≤ r → r < z 3 → z' (10 + r) = z (10 + r)) : ChL ne' z' p (ne f) (len - 1) := by
  obtain ⟨a, b, c⟩ := h
  have f0 : chn ne f 0 = f := rfl
  have e : ∀ j : Nat, (j : Int) < len - 1 → chn ne' (ne f) j = chn ne f (j + 1) := fun j hj => by
    rw [chn_shift]
    refine chn_keep (fun i hi => ?_)
    rw [← chn_shift]
    obtain ⟨q1, q2, q3⟩ := a (i + 1) (by omega)
    exact hne _ q1 q2 q3
  have nf : ∀ j : Nat, (j : Int) < len - 1 → chn ne f (j + 1) ≠ f := fun j hj w => by
    have q := b 0 (j + 1) (by omega) (by omega)
    rw [w, f0] at q
    exact bef_irr q
  refine ⟨fun j hj => ?_, fun j k hjk hk2 => ?_, fun r g1 g2 g3 => ?_⟩
  · rw [e j hj]
    obtain ⟨q1, q2, q3⟩ := a (j + 1) (by omega)
    exact ⟨q1, (hpl _ q1).mpr ⟨q2, q3, nf j hj⟩⟩
  · rw [e j (by omega), e k hk2]
    obtain ⟨q1, q2, q3⟩ := a (j + 1) (by omega)
    obtain ⟨r1, r2, r3⟩ := a (k + 1) (by omega)
    exact (bef_ext (hk _ q1 q2) (hk _ r1 r2)).mpr (b (j + 1) (k + 1) (by omega) (by omega))
  · obtain ⟨q1, q2, q3⟩ := (hpl r g1).mp ⟨g2, g3⟩
    obtain ⟨j, r1, r2⟩ := c r g1 q1 q2
    cases j with
    | zero => exact absurd (by rw [← r2, f0]) q3
    | succ j => exact ⟨j, by omega, by rw [e j (by omega)]; exact r2⟩
/-- a row is added at the end of the output -/
theorem ROu_add {ne z z' : Int → Int} {a b c x : Int} (h : ROu ne z a b c) (hc : 0 < c) (hx : 0 ≤ x ∧ x < z 3 ∧ z (250 + x) ≠ 2) (hb : ∀ r, 0 ≤ r → r < z 3 → z (250 + r) = 2 → bef z r x) (hpl : ∀ r, 0 ≤ r → ((r < z' 3 ∧ z' (250 + r) = 2) ↔ (r < z 3 ∧ (z (250 + r) = 2 ∨ r = x)))) (hk : ∀ r, 0 ≤ r → r < z 3 → z' (10 + r) = z (10 + r)) : ROu (uZ ne b x) z' a x (c + 1) := by
  obtain ⟨h0, ⟨p, q, r⟩, hl⟩ := h
  have hb2 := hl hc
  have e : ∀ j : Nat, (j : Int) < c → chn (uZ ne b x) a j = chn ne a j := fun j hj => chn_keep (fun i hi => by
    refine uZ_ne (fun w => ?_)
    have := q i (c - 1).toNat (by omega) (by omega)
    rw [w, hb2] at this
    exact bef_irr this)
  have el : ∀ j : Nat, (j : Int) = c → chn (uZ ne b x) a j = x := fun j hj => by
    cases j with
    | zero => omega
    | succ j => rw [chn, e j (by omega), show j = (c - 1).toNat by omega, ← hb2, uZ_at]
  refine ⟨by omega, ⟨fun j hj => ?_, fun j k hjk hk2 => ?_, fun r' g1 g2 g3 => ?_⟩, fun _ => (el _ (by omega)).symm⟩
  · by_cases w : (j : Int) < c
    · rw [e j w]
      obtain ⟨q1, q2, q3⟩ := p j w
      exact ⟨q1, (hpl _ q1).mpr ⟨q2, Or.inl q3⟩⟩
    · rw [el j (by omega)]
      exact ⟨hx.1, (hpl _ hx.1).mpr ⟨hx.2.1, Or.inr rfl⟩⟩
  · obtain ⟨q1, q2, q3⟩ := p j (by omega)
    rw [e j (by omega)]
    by_cases w : (k : Int) < c
    · rw [e k w]
      obtain ⟨r1, r2, r3⟩ := p k w
      exact (bef_ext (hk _ q1 q2) (hk _ r1 r2)).mpr (q j k hjk w)
    · rw [el k (by omega)]
      exact (bef_ext (hk _ q1 q2) (hk _ hx.1 hx.2.1)).mpr (hb _ q1 q2 q3)
  · obtain ⟨q1, q2⟩ := (hpl r' g1).mp ⟨g2, g3⟩
    rcases q2 with q2 | q2
    · obtain ⟨j, r1, r2⟩ := r r' g1 q1 q2
      exact ⟨j, by omega, by rw [e j r1]; exact r2⟩
    · exact ⟨c.toNat, by omega, by rw [el _ (by omega)]; exact q2.symm⟩
theorem ROu_one {ne z z' : Int → Int} {a b x : Int} (h : ROu ne z a b 0) (hx : 0 ≤ x ∧ x < z 3) (hpl : ∀ r, 0 ≤ r → ((r < z' 3 ∧ z' (250 + r) = 2) ↔ (r < z 3 ∧ (z (250 + r) = 2 ∨ r = x)))) : ROu ne z' x x 1 := by
  obtain ⟨h0, ⟨p, q, r⟩, hl⟩ := h
  have f0 : chn ne x 0 = x := rfl
  refine ⟨by omega, ⟨fun j hj => ?_, fun j k hjk hk2 => by omega, fun r' g1 g2 g3 => ?_⟩, fun _ => rfl⟩
  · rw [show j = 0 by omega, f0]
    exact ⟨hx.1, (hpl _ hx.1).mpr ⟨hx.2, Or.inr rfl⟩⟩
  · obtain ⟨q1, q2⟩ := (hpl r' g1).mp ⟨g2, g3⟩
    rcases q2 with q2 | q2
    · obtain ⟨j, r1, r2⟩ := r r' g1 q1 q2
      omega
    · exact ⟨0, by omega, by rw [f0]; exact q2.symm⟩
