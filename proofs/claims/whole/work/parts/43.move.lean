/-! ===== which row moves, and behind which ===== -/
theorem frV_is {s : SS} {z : Int → Int} (hb : Vb z) (h : Rep s z) {i : Int} (hi : 0 ≤ i ∧ i < s.1 18) (hm : ∀ j, 0 ≤ j → j < s.1 18 → j ≠ i → ¬ befK (s.2 0) (s.2 7 j) (s.2 7 i)) : frV z = s.2 7 i ∧ (0 ≤ s.2 7 i ∧ s.2 7 i < z 3) ∧ z (250 + s.2 7 i) = 11 + 2 * s.2 6 i := by
  obtain ⟨⟨t1, t2⟩, _, hmm, hr, hin, ho⟩ := h
  have ⟨b1, b2, b3, b4, b5⟩ := hb
  obtain ⟨_, a, b, c⟩ := hin
  have f0 : ∀ f : Int, chn (s.2 2) f 0 = f := fun _ => rfl
  obtain ⟨i1, i2, i3, i4⟩ := a i hi.1 hi.2
  obtain ⟨x1, x2, x3⟩ := i4.1 0 (by omega)
  rw [f0] at x1 x2 x3
  refine ⟨?_, ⟨x1, x2⟩, by omega⟩
  unfold frV
  rcases frZ_spec (z := z) (z 3).toNat with ⟨_, g⟩ | ⟨g1, g2, g3, g4⟩
  · exfalso
    refine g (s.2 7 i).toNat (by omega) ?_
    rw [show (((s.2 7 i).toNat : Nat) : Int) = s.2 7 i by omega]
    omega
  · generalize hx : frZ z (z 3).toNat = x at g1 g2 g3 g4 ⊢
    have hle : x = s.2 7 i ∨ bef z x (s.2 7 i) := by
      have q := g4 (s.2 7 i).toNat (by omega) (by rw [show (((s.2 7 i).toNat : Nat) : Int) = s.2 7 i by omega]; omega)
      rw [show (((s.2 7 i).toNat : Nat) : Int) = s.2 7 i by omega] at q
      unfold bef
      omega
    obtain ⟨j, j1, j2, j3⟩ := c x g1 (by omega) (by omega) g3.2
    obtain ⟨a1, a2, a3, a4⟩ := a j j1 j2
    obtain ⟨y1, y2, y3⟩ := a4.1 0 (by omega)
    rw [f0] at y1 y2 y3
    obtain ⟨n, n1, n2⟩ := a4.2.2 x g1 (by omega) j3
    have hfx : s.2 7 j = x ∨ bef z (s.2 7 j) x := by
      cases n with
      | zero => rw [f0] at n2; exact Or.inl n2
      | succ n =>
        have q := a4.2.1 0 (n + 1) (by omega) n1
        rw [f0, n2] at q
        exact Or.inr q
    by_cases w : j = i
    · rw [w] at hfx
      rcases hle with q | q
      · exact q
      · rcases hfx with q2 | q2
        · exact q2.symm
        · exact absurd q2 (bef_asym q)
    · exfalso
      have hk := hm j j1 j2 w
      have nn : s.2 7 j ≠ s.2 7 i := fun e => by
        rw [e] at y3
        rcases Int.lt_or_gt_of_ne w with q | q
        · have := b j i j1 q hi.2; omega
        · have := b i j hi.1 q j2; omega
      have hbj : bef z (s.2 7 j) (s.2 7 i) := by
        rcases hfx with q2 | q2
        · rw [← q2] at hle
          exact hle.resolve_left nn
        · rcases hle with q | q
          · rw [← q]; exact q2
          · exact bef_trans q2 q
      apply hk
      unfold befK
      rw [(t2 _ y1 y2).1, (t2 _ x1 x2).1]
      exact hbj
theorem loV_is {s : SS} {z : Int → Int} (hb : Vb z) (h : Rep s z) : (s.1 11 = 0 → loV z = -6) ∧ (0 < s.1 11 → loV z = s.1 10 ∧ (0 ≤ s.1 10 ∧ s.1 10 < z 3) ∧ z (250 + s.1 10) = 2) := by
  obtain ⟨⟨t1, t2⟩, _, hmm, hr, hin, o0, ⟨o1, o2, o3⟩, o4⟩ := h
  have ⟨b1, b2, b3, b4, b5⟩ := hb
  unfold loV
  refine ⟨fun c => ?_, fun c => ?_⟩
  · rcases loZ_spec (z := z) (z 3).toNat with ⟨g, _⟩ | ⟨g1, g2, g3, g4⟩
    · exact g
    · obtain ⟨n, n1, n2⟩ := o3 _ g1 (by omega) g3
      omega
  · have hl := o4 c
    obtain ⟨x1, x2, x3⟩ := o1 (s.1 11 - 1).toNat (by omega)
    rw [← hl] at x1 x2 x3
    refine ⟨?_, ⟨x1, x2⟩, x3⟩
    rcases loZ_spec (z := z) (z 3).toNat with ⟨_, g⟩ | ⟨g1, g2, g3, g4⟩
    · exfalso
      refine g (s.1 10).toNat (by omega) ?_
      rw [show (((s.1 10).toNat : Nat) : Int) = s.1 10 by omega]
      exact x3
    · generalize hx : loZ z (z 3).toNat = x at g1 g2 g3 g4 ⊢
      obtain ⟨n, n1, n2⟩ := o3 x g1 (by omega) g3
      by_cases w : n = (s.1 11 - 1).toNat
      · rw [w, ← hl] at n2; exact n2.symm
      · have q := o2 n (s.1 11 - 1).toNat (by omega) (by omega)
        rw [n2, ← hl] at q
        have q2 := g4 (s.1 10).toNat (by omega) (by rw [show (((s.1 10).toNat : Nat) : Int) = s.1 10 by omega]; exact x3)
        rw [show (((s.1 10).toNat : Nat) : Int) = s.1 10 by omega] at q2
        unfold bef at q
        omega
