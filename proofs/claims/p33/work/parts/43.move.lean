/-! ===== which row moves, and behind which ===== -/
theorem frV_is {s : SS} {z : Int → Int} (hb : Vb z) (h : Rep s z) {i : Int} (hi : 0 ≤ i ∧ i < s.1 18) (hm : ∀ j, 0 ≤ j → j < s.1 18 → j ≠ i → ¬ befK (s.2 0) (s.2 7 j) (s.2 7 i)) : frV z = s.2 7 i ∧ (0 ≤ s.2 7 i ∧ s.2 7 i < z 3) ∧ z (250 + s.2 7 i) = 11 + 2 * s.2 6 i := by
  obtain ⟨⟨t1, t2⟩, _, hmm, hr, hin, ho⟩ := h
  have ⟨b1, b2, b3, b4, b5⟩ := hb
  obtain ⟨_, a, b, c⟩ := hin
  have f0 : ∀ f : Int, chn (s.2 2) f 0 = f := fun _ => rfl
  obtain ⟨i1, i2, i3, i4⟩ := a i hi.1 hi.2
  obtain ⟨x1, x2, x3⟩ := i4.1 0 (by omega)
  rw [f0] at x1 x2 x3
  refine ⟨?_, ⟨x1, x2⟩, by omega⟩
  unfold frV
  rcases frZ_spec (z := z) (z 3).toNat with ⟨_, g⟩ | ⟨g1, g2, g3, g4⟩
  · exfalso
    refine g (s.2 7 i).toNat (by omega) ?_
    rw [show (((s.2 7 i).toNat : Nat) : Int) = s.2 7 i by omega]
    omega
  · generalize hx : frZ z (z 3).toNat = x at g1 g2 g3 g4 ⊢
    have hle : x = s.2 7 i ∨ bef z x (s.2 7 i) := by
      have q := g4 (s.2 7 i).toNat (by omega) (by rw [show (((s.2 7 i).toNat : Nat) : Int) = s.2 7 i by omega]; omega)
      rw [show (((s.2 7 i).toNat : Nat) : Int) = s.2 7 i by omega] at q
      unfold bef
      omega
    obtain ⟨j, j1, j2, j3⟩ := c x g1 (by omega) (by omega) g3.2
    obtain ⟨a1, a2, a3, a4⟩ := a j j1 j2
    obtain ⟨y1, y2, y3⟩ := a4.1 0 (by omega)
    rw [f0] at y1 y2 y3
    obtain ⟨n, n1, n2⟩ := a4.2.2 x g1 (by omega) j3
    have hfx : s.2 7 j = x ∨ bef z (s.2 7 j) x := by
      cases n with
      | zero => rw [f0] at n2; exact Or.inl n2
      | succ n =>
        have q := a4.2.1 0 (n + 1) (by omega) n1
        rw [f0, n2] at q
        exact Or.inr q
    by_cases w : j = i
    · rw [w] at hfx
      rcases hle with q | q
      · exact q
      · rcases hfx with q2 | q2
        · exact q2.symm
        · exact absurd q2 (bef_asym q)
    · exfalso
      have hk := hm j j1 j2 w
      have nn : s.2 7 j ≠ s.2 7 i := fun e => by
        rw [e] at y3
        rcases Int.lt_or_gt_of_ne w with q | q
        · have := b j i j1 q hi.2; omega
        · have := b i j hi.1 q j2; omega
      have hbj : bef z (s.2 7 j) (s.2 7 i) := by
        rcases hfx with q2 | q2
        · rw [← q2] at hle
          exact hle.resolve_left nn
        · rcases hle with q | q
          · rw [← q]; exact q2
          · exact bef_trans q2 q
      apply hk
      unfold befK
      rw [(t2 _ y1 y2).1, (t2 _ x1 x2).1]
      exact hbj
theorem loV_is {s : SS} {z : Int → Int} (hb : Vb z) (h : Rep s z) : (s.1 11 = 0 → loV z = -6) ∧ (0 < s.1 11 → loV z = s.1 10 ∧ (0 ≤ s.1 10 ∧ s.1 10 < z 3) ∧ z (250 + s.1 10) = 2) := by
  obtain ⟨⟨t1, t2⟩, _, hmm, hr, hin, o0, ⟨o1, o2, o3⟩, o4⟩ := h
  have ⟨b1, b2, b3, b4, b5⟩ := hb
  unfold loV
  refine ⟨fun c => ?_, fun c => ?_⟩
  · rcases loZ_spec (z := z) (z 3).toNat with ⟨g, _⟩ | ⟨g1, g2, g3, g4⟩
    · exact g
    · obtain ⟨n, n1, n2⟩ := o3 _ g1 (by omega) g3
      omega
  · have hl := o4 c
    obtain ⟨x1, x2, x3⟩ := o1 (s.1 11 - 1).toNat (by omega)
    rw [← hl] at x1 x2 x3
    refine ⟨?_, ⟨x1, x2⟩, x3⟩
    rcases loZ_spec (z := z) (z 3).toNat with ⟨_, g⟩ | ⟨g1, g2, g3, g4⟩
    · exfalso
      refine g (s.1 10).toNat (by omega) ?_
      rw [show (((s.1 10).toNat : Nat) : Int) = s.1 10 by omega]
      exact x3
    · generalize hx : loZ z (z 3).toNat = x at g1 g2 g3 g4 ⊢
      obtain ⟨n, n1, n2⟩ := o3 x g1 (by omega) g3
      by_cases w : n = (s.1 11 - 1).toNat
      · rw [w, ← hl] at n2; exact n2.symm
      · have q := o2 n (s.1 11 - 1).toNat (by omega) (by omega)
        rw [n2, ← hl] at q
        have q2 := g4 (s.1 10).toNat (by omega) (by rw [show (((s.1 10).toNat : Nat) : Int) = s.1 10 by omega]; exact x3)
        rw [show (((s.1 10).toNat : Nat) : Int) = s.1 10 by omega] at q2
        unfold bef at q
        omega
/-- a row has left its input: what is left to show is the output -/
theorem Rep_mv {s t : SS} {z z' : Int → Int} {x i : Int} (hb : Vb z) (h : Rep s z) (hi : 0 ≤ i ∧ i < s.1 18) (hx : s.2 7 i = x) (hxr : 0 ≤ x ∧ x < z 3) (hxp : z (250 + x) = 11 + 2 * s.2 6 i) (hx' : z' (250 + x) < 10 ∧ z' (250 + x) ≠ 1) (lo : ∀ j, j < 130 → j ≠ 7 → z' j = z j) (hp : ∀ r, 0 ≤ r → r ≠ x → z' (250 + r) = z (250 + r)) (ha : t.2 0 = s.2 0 ∧ t.2 3 = s.2 3 ∧ t.2 4 = s.2 4 ∧ t.2 5 = s.2 5 ∧ t.2 9 = s.2 9) (hz : t.1 16 = s.1 16 ∧ t.1 2 = s.1 2 ∧ t.1 3 = s.1 3 ∧ t.1 4 = s.1 4 ∧ t.1 6 = s.1 6 ∧ t.1 8 = s.1 8 ∧ t.1 13 = s.1 13 ∧ t.1 14 = s.1 14 ∧ t.1 15 = s.1 15 ∧ t.1 17 = s.1 17) (hc : ∀ r, 0 ≤ r → r < z 3 → t.2 1 r = z' (130 + r)) (h12 : t.1 12 = z' 7) (hne : ∀ r, 0 ≤ r → r < z 3 → 10 ≤ z (250 + r) → t.2 2 r = s.2 2 r) (hl : t.2 6 = (if 1 < s.2 8 i then s.2 6 else cI (s.2 6) (s.2 6) (i + 1) i (s.1 18 - i - 1)) ∧ t.2 7 = (if 1 < s.2 8 i then uZ (s.2 7) i (s.2 2 x) else cI (s.2 7) (s.2 7) (i + 1) i (s.1 18 - i - 1)) ∧ t.2 8 = (if 1 < s.2 8 i then uZ (s.2 8) i (s.2 8 i - 1) else cI (s.2 8) (s.2 8) (i + 1) i (s.1 18 - i - 1)) ∧ t.1 18 = if 1 < s.2 8 i then s.1 18 else s.1 18 - 1) (hO : ROu (t.2 2) z' (t.1 9) (t.1 10) (t.1 11)) : Rep t z' := by
  obtain ⟨⟨t1, t2⟩, ⟨c1, c2, c3, c4, c5, c6, c7, c8⟩, hmm, hr, hin, ho⟩ := h
  have ⟨b1, b2, b3, b4, b5⟩ := hb
  obtain ⟨a0, a3, a4, a5, a9⟩ := ha
  obtain ⟨z16, z2, z3, z4, z6, z8, z13, z14, z15, z17⟩ := hz
  obtain ⟨l6, l7, l8, l18⟩ := hl
  have k3 : z' 3 = z 3 := lo 3 (by omega) (by omega)
  have k4 : z' 4 = z 4 := lo 4 (by omega) (by omega)
  have hk : ∀ r : Int, 0 ≤ r → r < z 3 → z' (10 + r) = z (10 + r) := fun r g1 g2 => lo _ (by omega) (by omega)
  refine ⟨⟨by rw [z16, k3]; exact t1, fun r g1 g2 => ?_⟩, ⟨?_, ?_, ?_, ?_, h12, ?_, ?_, ?_⟩, ?_, ?_, ?_, hO⟩
  · rw [k3] at g2
    rw [a0, hk r g1 g2]
    exact ⟨(t2 r g1 g2).1, hc r g1 g2⟩
  · rw [z2, lo 1 (by omega) (by omega)]; exact c1
  · rw [z3, lo 2 (by omega) (by omega)]; exact c2
  · rw [z4, lo 0 (by omega) (by omega)]; exact c3
  · rw [z8, lo 6 (by omega) (by omega)]; exact c4
  · rw [z13, lo 8 (by omega) (by omega)]; exact c6
  · rw [z14, lo 9 (by omega) (by omega)]; exact c7
  · rw [z15, k4]; exact c8
  · rw [a9, z6]
    obtain ⟨m0, ma, mb, mc⟩ := hmm
    refine ⟨m0, fun j h1 h2 => ?_, mb, fun r h1 h2 h4 => ?_⟩
    · obtain ⟨q1, q2, q3⟩ := ma j h1 h2
      exact ⟨q1, by omega, by rw [hp _ q1 (fun w => by rw [w] at q3; have := (hin.2.1 i hi.1 hi.2).1; omega)]; exact q3⟩
    · by_cases w : r = x
      · rw [w] at h4; exact absurd h4 hx'.2
      · rw [hp r h1 w] at h4
        exact mc r h1 (by omega) h4
  · rw [a3, a4, a5, z17]
    refine RLs_keep hr (fun _ _ _ => ⟨rfl, rfl, rfl⟩) (fun r g1 g2 g3 _ => hne r g1 g2 g3) (fun r g => ?_) (fun r g1 g2 g3 g4 => ⟨hp r g1 (fun w => by rw [w] at g4; omega), hk r g1 g2⟩) (by omega) (Or.inl rfl)
    rw [k3]
    by_cases w : r = x
    · rw [w]; omega
    · rw [hp r g w]
  · rw [l6, l7, l8, l18]
    by_cases c : 1 < s.2 8 i
    · rw [if_pos c, if_pos c, if_pos c, if_pos c, ← hx]
      exact RLs_pass hin hi c (fun r g1 g2 g3 _ => hne r g1 g2 g3) k3 k4 (by rw [hx]; exact hx'.1) (fun r g1 g2 => hp r g1 (by rw [← hx]; exact g2)) hk
    · rw [if_neg c, if_neg c, if_neg c, if_neg c]
      exact RLs_out hin hi (by omega) (fun r g1 g2 g3 _ => hne r g1 g2 g3) k3 k4 (by rw [hx]; exact hx'.1) (fun r g1 g2 => hp r g1 (by rw [← hx]; exact g2)) hk
