/-! ===== the first row of an input is taken ===== -/
theorem chn_shift {ne : Int → Int} {f : Int} : ∀ n : Nat, chn ne f (n + 1) = chn ne (ne f) n
  | 0 => rfl
  | n + 1 => by rw [chn, chn_shift n]; rfl
theorem ChL_drop {ne ne' z z' : Int → Int} {p f len : Int} (h : ChL ne z p f len) (h1 : 1 ≤ len) (hne : ∀ r, 0 ≤ r → r < z 3 → z (250 + r) = p → ne' r = ne r) (hpl : ∀ r, 0 ≤ r → ((r < z' 3 ∧ z' (250 + r) = p) ↔ (r < z 3 ∧ z (250 + r) = p ∧ r ≠ f))) (hk : ∀ r, 0 ≤ r → r < z 3 → z' (10 + r) = z (10 + r)) : ChL ne' z' p (ne f) (len - 1) := by
  obtain ⟨a, b, c⟩ := h
  have f0 : chn ne f 0 = f := rfl
  have e : ∀ j : Nat, (j : Int) < len - 1 → chn ne' (ne f) j = chn ne f (j + 1) := fun j hj => by
    rw [chn_shift]
    refine chn_keep (fun i hi => ?_)
    rw [← chn_shift]
    obtain ⟨q1, q2, q3⟩ := a (i + 1) (by omega)
    exact hne _ q1 q2 q3
  have nf : ∀ j : Nat, (j : Int) < len - 1 → chn ne f (j + 1) ≠ f := fun j hj w => by
    have q := b 0 (j + 1) (by omega) (by omega)
    rw [w, f0] at q
    exact bef_irr q
  refine ⟨fun j hj => ?_, fun j k hjk hk2 => ?_, fun r g1 g2 g3 => ?_⟩
  · rw [e j hj]
    obtain ⟨q1, q2, q3⟩ := a (j + 1) (by omega)
    exact ⟨q1, (hpl _ q1).mpr ⟨q2, q3, nf j hj⟩⟩
  · rw [e j (by omega), e k hk2]
    obtain ⟨q1, q2, q3⟩ := a (j + 1) (by omega)
    obtain ⟨r1, r2, r3⟩ := a (k + 1) (by omega)
    exact (bef_ext (hk _ q1 q2) (hk _ r1 r2)).mpr (b (j + 1) (k + 1) (by omega) (by omega))
  · obtain ⟨q1, q2, q3⟩ := (hpl r g1).mp ⟨g2, g3⟩
    obtain ⟨j, r1, r2⟩ := c r g1 q1 q2
    cases j with
    | zero => exact absurd (by rw [← r2, f0]) q3
    | succ j => exact ⟨j, by omega, by rw [e j (by omega)]; exact r2⟩
/-- a row is added at the end of the output -/
theorem ROu_add {ne z z' : Int → Int} {a b c x : Int} (h : ROu ne z a b c) (hc : 0 < c) (hx : 0 ≤ x ∧ x < z 3 ∧ z (250 + x) ≠ 2) (hb : ∀ r, 0 ≤ r → r < z 3 → z (250 + r) = 2 → bef z r x) (hpl : ∀ r, 0 ≤ r → ((r < z' 3 ∧ z' (250 + r) = 2) ↔ (r < z 3 ∧ (z (250 + r) = 2 ∨ r = x)))) (hk : ∀ r, 0 ≤ r → r < z 3 → z' (10 + r) = z (10 + r)) : ROu (uZ ne b x) z' a x (c + 1) := by
  obtain ⟨h0, ⟨p, q, r⟩, hl⟩ := h
  have hb2 := hl hc
  have e : ∀ j : Nat, (j : Int) < c → chn (uZ ne b x) a j = chn ne a j := fun j hj => chn_keep (fun i hi => by
    refine uZ_ne (fun w => ?_)
    have := q i (c - 1).toNat (by omega) (by omega)
    rw [w, hb2] at this
    exact bef_irr this)
  have el : ∀ j : Nat, (j : Int) = c → chn (uZ ne b x) a j = x := fun j hj => by
    cases j with
    | zero => omega
    | succ j => rw [chn, e j (by omega), show j = (c - 1).toNat by omega, ← hb2, uZ_at]
  refine ⟨by omega, ⟨fun j hj => ?_, fun j k hjk hk2 => ?_, fun r' g1 g2 g3 => ?_⟩, fun _ => (el _ (by omega)).symm⟩
  · by_cases w : (j : Int) < c
    · rw [e j w]
      obtain ⟨q1, q2, q3⟩ := p j w
      exact ⟨q1, (hpl _ q1).mpr ⟨q2, Or.inl q3⟩⟩
    · rw [el j (by omega)]
      exact ⟨hx.1, (hpl _ hx.1).mpr ⟨hx.2.1, Or.inr rfl⟩⟩
  · obtain ⟨q1, q2, q3⟩ := p j (by omega)
    rw [e j (by omega)]
    by_cases w : (k : Int) < c
    · rw [e k w]
      obtain ⟨r1, r2, r3⟩ := p k w
      exact (bef_ext (hk _ q1 q2) (hk _ r1 r2)).mpr (q j k hjk w)
    · rw [el k (by omega)]
      exact (bef_ext (hk _ q1 q2) (hk _ hx.1 hx.2.1)).mpr (hb _ q1 q2 q3)
  · obtain ⟨q1, q2⟩ := (hpl r' g1).mp ⟨g2, g3⟩
    rcases q2 with q2 | q2
    · obtain ⟨j, r1, r2⟩ := r r' g1 q1 q2
      exact ⟨j, by omega, by rw [e j r1]; exact r2⟩
    · exact ⟨c.toNat, by omega, by rw [el _ (by omega)]; exact q2.symm⟩
theorem ROu_one {ne z z' : Int → Int} {a b x : Int} (h : ROu ne z a b 0) (hx : 0 ≤ x ∧ x < z 3) (hpl : ∀ r, 0 ≤ r → ((r < z' 3 ∧ z' (250 + r) = 2) ↔ (r < z 3 ∧ (z (250 + r) = 2 ∨ r = x)))) : ROu ne z' x x 1 := by
  obtain ⟨h0, ⟨p, q, r⟩, hl⟩ := h
  have f0 : chn ne x 0 = x := rfl
  refine ⟨by omega, ⟨fun j hj => ?_, fun j k hjk hk2 => by omega, fun r' g1 g2 g3 => ?_⟩, fun _ => rfl⟩
  · rw [show j = 0 by omega, f0]
    exact ⟨hx.1, (hpl _ hx.1).mpr ⟨hx.2, Or.inr rfl⟩⟩
  · obtain ⟨q1, q2⟩ := (hpl r' g1).mp ⟨g2, g3⟩
    rcases q2 with q2 | q2
    · obtain ⟨j, r1, r2⟩ := r r' g1 q1 q2
      omega
    · exact ⟨0, by omega, by rw [f0]; exact q2.symm⟩
theorem RLs_pass {ne ne' nu fi le z z' : Int → Int} {to i : Int} (h : RLs ne nu fi le to z 1) (hi : 0 ≤ i ∧ i < to) (hle : 1 < le i) (hne : ∀ r, 0 ≤ r → r < z 3 → 10 ≤ z (250 + r) → z (250 + r) % 2 = 1 → ne' r = ne r) (h3 : z' 3 = z 3) (h4 : z' 4 = z 4) (hx : z' (250 + fi i) < 10) (hp : ∀ r, 0 ≤ r → r ≠ fi i → z' (250 + r) = z (250 + r)) (hk : ∀ r, 0 ≤ r → r < z 3 → z' (10 + r) = z (10 + r)) : RLs ne' nu (uZ fi i (ne (fi i))) (uZ le i (le i - 1)) to z' 1 := by
  obtain ⟨h0, a, b, c⟩ := h
  obtain ⟨i1, i2, i3, i4⟩ := a i hi.1 hi.2
  have f0 : chn ne (fi i) 0 = fi i := rfl
  obtain ⟨x1, x2, x3⟩ := i4.1 0 (by omega)
  rw [f0] at x1 x2 x3
  refine ⟨h0, fun k g1 g2 => ?_, b, fun r g1 g2 g3 g4 => ?_⟩
  · obtain ⟨a1, a2, a3, a4⟩ := a k g1 g2
    by_cases w : k = i
    · subst w
      rw [uZ_at, uZ_at]
      refine ⟨a1, by omega, by omega, ChL_drop i4 (by omega) (fun r q1 q2 q3 => hne r q1 q2 (by omega) (by omega)) (fun r q => ?_) hk⟩
      rw [h3]
      by_cases y : r = fi k
      · rw [y]; omega
      · rw [hp r q y]; omega
    · have nn : nu k ≠ nu i := by
        rcases Int.lt_or_gt_of_ne w with q | q
        · have := b k i g1 q hi.2; omega
        · have := b i k hi.1 q g2; omega
      rw [uZ_ne w, uZ_ne w]
      refine ⟨a1, by omega, a3, ChL_ext a4 (fun j hj => ?_) (fun r q => ?_) (fun r q1 q2 _ => hk r q1 q2)⟩
      · obtain ⟨q1, q2, q3⟩ := a4.1 j (by omega)
        exact hne _ q1 q2 (by omega) (by omega)
      · rw [h3]
        by_cases y : r = fi i
        · rw [y]; omega
        · rw [hp r q y]
  · rw [h3] at g2
    by_cases y : r = fi i
    · rw [y] at g3; omega
    · rw [hp r g1 y] at g3 g4 ⊢
      exact c r g1 g2 g3 g4
theorem RLs_out {ne ne' nu fi le z z' : Int → Int} {to i : Int} (h : RLs ne nu fi le to z 1) (hi : 0 ≤ i ∧ i < to) (hle : le i ≤ 1) (hne : ∀ r, 0 ≤ r → r < z 3 → 10 ≤ z (250 + r) → z (250 + r) % 2 = 1 → ne' r = ne r) (h3 : z' 3 = z 3) (h4 : z' 4 = z 4) (hx : z' (250 + fi i) < 10) (hp : ∀ r, 0 ≤ r → r ≠ fi i → z' (250 + r) = z (250 + r)) (hk : ∀ r, 0 ≤ r → r < z 3 → z' (10 + r) = z (10 + r)) : RLs ne' (cI nu nu (i + 1) i (to - i - 1)) (cI fi fi (i + 1) i (to - i - 1)) (cI le le (i + 1) i (to - i - 1)) (to - 1) z' 1 := by
  obtain ⟨h0, a, b, c⟩ := h
  obtain ⟨i1, i2, i3, i4⟩ := a i hi.1 hi.2
  have f0 : chn ne (fi i) 0 = fi i := rfl
  obtain ⟨x1, x2, x3⟩ := i4.1 0 (by omega)
  rw [f0] at x1 x2 x3
  have lo : ∀ (f : Int → Int) (k : Int), k < i → cI f f (i + 1) i (to - i - 1) k = f k := fun f k q => by unfold cI; rw [if_neg (by omega)]
  have hi2 : ∀ (f : Int → Int) (k : Int), i ≤ k → k < to - 1 → cI f f (i + 1) i (to - i - 1) k = f (k + 1) := fun f k q1 q2 => by unfold cI; rw [if_pos (by omega), show i + 1 + (k - i) = k + 1 by omega]
  have p : ∀ k, 0 ≤ k → k < to - 1 → ∃ j, 0 ≤ j ∧ j < to ∧ j ≠ i ∧ (∀ f : Int → Int, cI f f (i + 1) i (to - i - 1) k = f j) ∧ (k < i → j = k) ∧ (i ≤ k → j = k + 1) := fun k g1 g2 => by
    by_cases w : k < i
    · exact ⟨k, g1, by omega, by omega, fun f => lo f k w, fun _ => rfl, fun q => by omega⟩
    · exact ⟨k + 1, by omega, by omega, by omega, fun f => hi2 f k (by omega) g2, fun q => by omega, fun _ => rfl⟩
  refine ⟨by omega, fun k g1 g2 => ?_, fun k k' g1 g2 g3 => ?_, fun r g1 g2 g3 g4 => ?_⟩
  · obtain ⟨j, j1, j2, j3, j4, _⟩ := p k g1 g2
    obtain ⟨a1, a2, a3, a4⟩ := a j j1 j2
    have nn : nu j ≠ nu i := by
      rcases Int.lt_or_gt_of_ne j3 with q | q
      · have := b j i j1 q hi.2; omega
      · have := b i j hi.1 q j2; omega
    rw [j4 nu, j4 fi, j4 le]
    refine ⟨a1, by omega, a3, ChL_ext a4 (fun n hn => ?_) (fun r q => ?_) (fun r q1 q2 _ => hk r q1 q2)⟩
    · obtain ⟨q1, q2, q3⟩ := a4.1 n (by omega)
      exact hne _ q1 q2 (by omega) (by omega)
    · rw [h3]
      by_cases y : r = fi i
      · rw [y]; omega
      · rw [hp r q y]
  · obtain ⟨j, j1, j2, j3, j4, j5, j6⟩ := p k g1 (by omega)
    obtain ⟨l, l1, l2, l3, l4, l5, l6⟩ := p k' (by omega) g3
    rw [j4 nu, l4 nu]
    exact b j l j1 (by omega) l2
  · rw [h3] at g2
    by_cases y : r = fi i
    · rw [y] at g3; omega
    · rw [hp r g1 y] at g3 g4 ⊢
      obtain ⟨j, q1, q2, q3⟩ := c r g1 g2 g3 g4
      by_cases w : j = i
      · rw [w] at q3
        obtain ⟨n, n1, n2⟩ := i4.2.2 r g1 g2 q3
        rw [show n = 0 by omega, f0] at n2
        exact absurd n2.symm y
      · by_cases w2 : j < i
        · exact ⟨j, q1, by omega, by rw [lo nu j w2]; exact q3⟩
        · exact ⟨j - 1, by omega, by omega, by rw [hi2 nu (j - 1) (by omega) (by omega), show j - 1 + 1 = j by omega]; exact q3⟩
