/-! ===== files: a row is taken, a row is put, rows without files go ===== -/
def hy (x : Int → Int) (to i : Int) : Int → Int := fun q => if q < to then x q else x (q - to + i)
theorem hy_step {x : Int → Int} {to i q : Int} (h : to ≤ i) : hy (uZ x to (x i)) (to + 1) (i + 1) q = hy x to i q := by
  unfold hy
  by_cases c : q < to
  · rw [if_pos (by omega), if_pos c, uZ_ne (by omega)]
  · by_cases w : q = to
    · rw [if_pos (by omega), if_neg c, w, uZ_at, show to - to + i = i by omega]
    · rw [if_neg (by omega), if_neg c, uZ_ne (by omega), show q - (to + 1) + (i + 1) = q - to + i by omega]
section LFT
variable {f f' n l l' d : Int → Int} {T : Int} {z z' : Int → Int}
theorem LF_take (h : LF f n l d T z) {a x : Int} (ha : 0 ≤ a ∧ a < T) (hl : 0 < l a) (hx : x = f (sumI l a.toNat)) (hf : ∀ q, q < sumI l T.toNat - 1 → (q < sumI l a.toNat → f' q = f q) ∧ (sumI l a.toNat ≤ q → f' q = f (q + 1))) (h3 : z' 3 = z 3) (h4 : z' 4 = z 4) (hx' : z' (250 + x) ≠ 2 ∧ z' (250 + x) < 10) (hp : ∀ r, 0 ≤ r → r < z 3 → r ≠ x → z' (250 + r) = z (250 + r)) (hk : ∀ r, 0 ≤ r → r < z 3 → z' (10 + r) = z (10 + r)) : LF f' n (uZ l a (l a - 1)) d T z' := by
  have hh := h
  obtain ⟨b0, b, c, e⟩ := h
  have sa := sumI_pre b0 ha.1 ha.2
  have s0 := (sumI_0n b0 ha.1 (Int.le_of_lt ha.2)).1
  obtain ⟨x1, x2, x3⟩ := LF_row hh ha (Int.le_refl _) (by omega)
  rw [← hx] at x1 x2 x3
  have hs : ∀ i, 0 ≤ i → sumI (uZ l a (l a - 1)) i.toNat = if a < i then sumI l i.toNat - 1 else sumI l i.toNat := fun i g => by
    rw [sumI_upd2 ha.1 g]
    by_cases w : a < i
    · rw [if_pos w, if_pos w]; omega
    · rw [if_neg w, if_neg w]
  have lp : ∀ i, 0 < uZ l a (l a - 1) i → 0 < l i := fun i g => by
    by_cases w : i = a
    · rw [w]; exact hl
    · rw [uZ_ne w] at g; exact g
  have iff3 : ∀ i, 0 ≤ i → i < T → 0 < l i → i ≠ a → ∀ r, 0 ≤ r → ((r < z' 3 ∧ z' (250 + r) = pF n d i) ↔ (r < z 3 ∧ z (250 + r) = pF n d i)) := fun i g1 g2 g3 g4 r r0 => by
    have pl := LF_pl hh ⟨g1, g2⟩ g3
    have ne : pF n d i ≠ pF n d a := fun q => g4 (LF_pne hh ⟨g1, g2⟩ ha g3 hl q)
    rw [h3]
    by_cases w : r = x
    · subst w
      refine ⟨fun ⟨_, q⟩ => by omega, fun ⟨_, q⟩ => by omega⟩
    · refine and_congr_right (fun q => ?_)
      rw [hp r r0 q w]
  refine ⟨fun i g1 g2 => ?_, fun i g1 g2 g3 => ?_, fun i j g1 g2 g3 g4 g5 => c i j g1 g2 g3 (lp i g4) (lp j g5), fun r g1 g2 g3 => ?_⟩
  · by_cases w : i = a
    · rw [w, uZ_at]; omega
    · rw [uZ_ne w]; exact b0 i g1 g2
  · have g3' := lp i g3
    obtain ⟨b1, b2, b3⟩ := b i g1 g2 g3'
    refine ⟨b1, fun q => by rw [h4]; exact b2 q, ?_⟩
    rw [hs i g1]
    have up := sumI_pre b0 g1 g2
    by_cases w : i = a
    · subst w
      rw [uZ_at] at g3 ⊢
      rw [if_neg (by omega)]
      have e1 : ∀ q, sumI l i.toNat ≤ q → q < sumI l i.toNat + (l i - 1) → f' q = f (q + 1) := fun q q1 q2 => (hf q (by omega)).2 q1
      have nx : ∀ q, sumI l i.toNat ≤ q → q < sumI l i.toNat + (l i - 1) → f (q + 1) ≠ x := fun q q1 q2 w => by
        have := FL_inj b3 (q := q + 1) (q' := sumI l i.toNat) ⟨by omega, by omega⟩ ⟨by omega, by omega⟩ (w.trans hx)
        omega
      refine ⟨fun q q1 q2 => ?_, fun q q' q1 q2 q3 => ?_, fun r r0 r1 r2 => ?_⟩
      · rw [e1 q q1 q2]
        obtain ⟨y1, y2, y3⟩ := b3.1 (q + 1) (by omega) (by omega)
        exact ⟨y1, by omega, by rw [hp _ y1 y2 (nx q q1 q2)]; exact y3⟩
      · rw [e1 q q1 (by omega), e1 q' (by omega) q3]
        obtain ⟨y1, y2, _⟩ := b3.1 (q + 1) (by omega) (by omega)
        obtain ⟨w1, w2, _⟩ := b3.1 (q' + 1) (by omega) (by omega)
        exact (bef_ext (hk _ y1 y2) (hk _ w1 w2)).mpr (b3.2.1 _ _ (by omega) (by omega) (by omega))
      · have rx : r ≠ x := fun q => by
          have pl := LF_pl hh ⟨g1, g2⟩ g3'
          rw [q] at r2; omega
        obtain ⟨q, q1, q2, q3⟩ := b3.2.2 r r0 (by omega) (by rw [← hp r r0 (by omega) rx]; exact r2)
        have : q ≠ sumI l i.toNat := fun w => rx (by rw [← q3, w, hx])
        exact ⟨q - 1, by omega, by omega, by rw [e1 (q - 1) (by omega) (by omega), show q - 1 + 1 = q by omega]; exact q3⟩
    · rw [uZ_ne w]
      refine FL_ext b3 (fun j j0 j1 => ?_) (iff3 i g1 g2 g3' w) (fun r r0 r1 _ => hk r r0 r1)
      by_cases v : a < i
      · have := sumI_pre (l := l) (i := a) (T := i) (fun r r0 r1 => b0 r r0 (by omega)) ha.1 v
        rw [if_pos v, (hf _ (by omega)).2 (by omega)]
        congr 1
        omega
      · have := sumI_pre (l := l) (i := i) (T := a) (fun r r0 r1 => b0 r r0 (by omega)) g1 (by omega)
        rw [if_neg v, (hf _ (by omega)).1 (by omega)]
  · have rx : r ≠ x := fun q => by rw [q] at g3; omega
    have er := hp r g1 (by omega) rx
    rw [er] at g3 ⊢
    obtain ⟨i, i1, i2, i3, i4⟩ := e r g1 (by omega) g3
    refine ⟨i, i1, i2, ?_, i4⟩
    by_cases w : i = a
    · subst w
      rw [uZ_at]
      obtain ⟨q, q1, q2, q3⟩ := (b i i1 i2 i3).2.2.2.2 r g1 (by omega) i4.symm
      have : q ≠ sumI l i.toNat := fun w => rx (by rw [← q3, w, hx])
      omega
    · rw [uZ_ne w]; exact i3
theorem LF_put (h : LF f n l d T z) {x : Int} (hT : 0 < T) (hd : d (T - 1) = 2) (hd2 : ∀ i, 0 ≤ i → i < T - 1 → d i ≠ 2) (hf : ∀ q, q < sumI l T.toNat → f' q = f q) (hfx : f' (sumI l T.toNat) = x) (hx : 0 ≤ x ∧ x < z 3) (hxp : z (250 + x) ≠ 2 ∧ z (250 + x) < 10) (ho : ∀ r, 0 ≤ r → r < z 3 → z (250 + r) = 2 → bef z r x) (h3 : z' 3 = z 3) (h4 : z' 4 = z 4) (hx' : z' (250 + x) = 2) (hp : ∀ r, 0 ≤ r → r < z 3 → r ≠ x → z' (250 + r) = z (250 + r)) (hk : ∀ r, 0 ≤ r → r < z 3 → z' (10 + r) = z (10 + r)) : LF f' n (uZ l (T - 1) (l (T - 1) + 1)) d T z' := by
  have hh := h
  obtain ⟨b0, b, c, e⟩ := h
  have hs : ∀ i, 0 ≤ i → i < T → sumI (uZ l (T - 1) (l (T - 1) + 1)) i.toNat = sumI l i.toNat := fun i g1 g2 => by rw [sumI_upd2 (by omega) g1, if_neg (by omega)]
  have eall : sumI l T.toNat = sumI l (T - 1).toNat + l (T - 1) := by
    have := sumI_S (f := l) (r := T - 1) (by omega)
    rw [show T - 1 + 1 = T by omega] at this
    exact this
  have l0 := b0 (T - 1) (by omega) (by omega)
  have old : FL f z 2 (sumI l (T - 1).toNat) (l (T - 1)) := by
    by_cases w : 0 < l (T - 1)
    · have := (b (T - 1) (by omega) (by omega) w).2.2
      rw [pF_2 hd] at this
      exact this
    · refine ⟨fun q q1 q2 => by omega, fun q q' q1 q2 q3 => by omega, fun r r0 r1 r2 => ?_⟩
      obtain ⟨i, i1, i2, i3, i4⟩ := e r r0 r1 (Or.inl r2)
      have ii : i ≠ T - 1 := fun q => by rw [q] at i3; exact w i3
      have nd := hd2 i i1 (by omega)
      have := (b i i1 i2 i3).2.1 nd
      obtain ⟨b1, _⟩ := b i i1 i2 i3
      rw [pF_n nd] at i4
      omega
  refine ⟨fun i g1 g2 => ?_, fun i g1 g2 g3 => ?_, fun i j g1 g2 g3 g4 g5 => ?_, fun r g1 g2 g3 => ?_⟩
  · by_cases w : i = T - 1
    · rw [w, uZ_at]; omega
    · rw [uZ_ne w]; exact b0 i g1 g2
  · rw [hs i g1 g2]
    by_cases w : i = T - 1
    · subst w
      rw [uZ_at, pF_2 hd]
      refine ⟨Or.inr (Or.inr hd), fun q => absurd hd q, fun q q1 q2 => ?_, fun q q' q1 q2 q3 => ?_, fun r r0 r1 r2 => ?_⟩
      · by_cases v : q = sumI l T.toNat
        · rw [v, hfx]; exact ⟨hx.1, by omega, hx'⟩
        · rw [hf q (by omega)]
          obtain ⟨y1, y2, y3⟩ := old.1 q q1 (by omega)
          exact ⟨y1, by omega, by rw [hp _ y1 y2 (fun q => by rw [q] at y3; omega)]; exact y3⟩
      · rw [hf q (by omega)]
        obtain ⟨y1, y2, y3⟩ := old.1 q q1 (by omega)
        by_cases v : q' = sumI l T.toNat
        · rw [v, hfx]
          exact (bef_ext (hk _ y1 y2) (hk _ hx.1 hx.2)).mpr (ho _ y1 y2 y3)
        · rw [hf q' (by omega)]
          obtain ⟨w1, w2, _⟩ := old.1 q' (by omega) (by omega)
          exact (bef_ext (hk _ y1 y2) (hk _ w1 w2)).mpr (old.2.1 _ _ q1 q2 (by omega))
      · by_cases v : r = x
        · exact ⟨sumI l T.toNat, by omega, by omega, by rw [hfx, v]⟩
        · obtain ⟨q, q1, q2, q3⟩ := old.2.2 r r0 (by omega) (by rw [← hp r r0 (by omega) v]; exact r2)
          exact ⟨q, q1, by omega, by rw [hf q (by omega)]; exact q3⟩
    · rw [uZ_ne w] at g3 ⊢
      obtain ⟨b1, b2, b3⟩ := b i g1 g2 g3
      have nd := hd2 i g1 (by omega)
      have pl := LF_pl hh ⟨g1, g2⟩ g3
      have p10 : 10 ≤ pF n d i := by
        have := b2 nd
        rw [pF_n nd]; omega
      have up := sumI_pre b0 g1 g2
      refine ⟨b1, fun q => by rw [h4]; exact b2 q, FL_ext b3 (fun j j0 j1 => hf _ (by omega)) (fun r r0 => ?_) (fun r r0 r1 _ => hk r r0 r1)⟩
      rw [h3]
      by_cases v : r = x
      · subst v
        exact ⟨fun ⟨_, q⟩ => by omega, fun ⟨_, q⟩ => by omega⟩
      · refine and_congr_right (fun q => ?_)
        rw [hp r r0 q v]
  · have wi : i ≠ T - 1 := by omega
    rw [uZ_ne wi] at g4
    have nd := hd2 i g1 (by omega)
    by_cases w : j = T - 1
    · rw [w]
      exact ⟨fun q => absurd q nd, fun _ q => absurd hd q⟩
    · rw [uZ_ne w] at g5
      exact c i j g1 g2 g3 g4 g5
  · by_cases v : r = x
    · rw [v, hx']
      exact ⟨T - 1, by omega, by omega, by rw [uZ_at]; omega, pF_2 hd⟩
    · have er := hp r g1 (by omega) v
      rw [er] at g3 ⊢
      obtain ⟨i, i1, i2, i3, i4⟩ := e r g1 (by omega) g3
      refine ⟨i, i1, i2, ?_, i4⟩
      by_cases w : i = T - 1
      · rw [w, uZ_at]; omega
      · rw [uZ_ne w]; exact i3
end LFT
theorem many_ri {z : Int → Int} (hb : Vb z) : manyZ z 1 = 0 ↔ riZ z = 0 := by
  have hv := hb.2.2.2.2
  have n1 := (manyZ_nn (z := z) (k := 1) hb.2.2.1).1
  have n2 := (riZ_le hb.1).1
  have key : 0 < manyZ z 1 ↔ 0 < riZ z := by
    unfold manyZ
    rw [cnt_pos (P := fun k => 0 < rowsAt z (10 + 2 * k + 1)), riZ_pos]
    refine ⟨fun ⟨k, k1, k2⟩ => ?_, fun ⟨r, r0, r1, r2⟩ => ?_⟩
    · obtain ⟨x, x1, x2, x3⟩ := rowsAt_pos.mp k2
      exact ⟨x, x1, x2, by omega⟩
    · have := hv r r0 r1
      refine ⟨((z (250 + r) - 11) / 2).toNat, by omega, rowsAt_pos.mpr ⟨r, r0, r1, by omega⟩⟩
  omega
/-- the first row of the inputs -/
theorem LF_first {f n l d : Int → Int} {T : Int} {z : Int → Int} (hb : Vb z) (h : LF f n l d T z) {a : Int} (ha : 0 ≤ a ∧ a < T) (hl : 0 < l a) (hd : d a = 1) (hm : ∀ j, 0 ≤ j → j < T → d j = 1 → 0 < l j → j ≠ a → ¬ bef z (f (sumI l j.toNat)) (f (sumI l a.toNat))) : frV z = f (sumI l a.toNat) ∧ 0 < riZ z := by
  obtain ⟨x1, x2, x3⟩ := LF_row h ha (Int.le_refl _) (by omega)
  have na := (h.2.1 a ha.1 ha.2 hl).2.1 (by omega)
  rw [pF_n (by omega), hd] at x3
  have pos : 0 < riZ z := riZ_pos.mpr ⟨_, x1, x2, by omega⟩
  refine ⟨?_, pos⟩
  obtain ⟨y1, y2, y3, y4⟩ := frV_spec pos
  have q1 := y4 _ x1 x2 (by omega)
  obtain ⟨i, i1, i2, i3, i4⟩ := h.2.2.2 _ y1 y2 (by omega)
  obtain ⟨b1, b2, b3⟩ := h.2.1 i i1 i2 i3
  have ni : d i ≠ 2 := fun q => by rw [pF_2 q] at i4; omega
  have di : d i = 1 := by have := b2 ni; rw [pF_n ni] at i4; omega
  obtain ⟨q, g1, g2, g3⟩ := b3.2.2 _ y1 y2 i4.symm
  -- the head of i does not come behind frV
  have hd1 : q = sumI l i.toNat := by
    rcases Int.lt_or_eq_of_le g1 with w | w
    · have w1 := b3.2.1 _ _ (Int.le_refl _) w g2
      obtain ⟨u1, u2, u3⟩ := b3.1 _ (Int.le_refl (sumI l i.toNat)) (by omega)
      rw [g3] at w1
      have := y4 _ u1 u2 (by omega)
      unfold bef at w1
      omega
    · exact w.symm
  rw [hd1] at g3
  by_cases w : i = a
  · rw [← w]; exact g3.symm
  · have := hm i i1 i2 di i3 w
    rw [g3] at this
    unfold bef at this
    omega
