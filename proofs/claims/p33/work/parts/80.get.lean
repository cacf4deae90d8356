/-! ===== what the class answers of its state, and the reference of its row ===== -/
theorem Rep_facts {c : SS} {z : Int → Int} (hV : Vz z) (h : Rep c z) : (c.1 2 = z 1 ∧ c.1 3 = z 2 ∧ c.1 4 = z 0 ∧ c.1 8 = z 6 ∧ c.1 12 = z 7 ∧ c.1 13 = z 8 ∧ c.1 14 = z 9 ∧ c.1 15 = z 4 ∧ c.1 16 = z 3) ∧ (rowsAt z 1 = c.1 6 ∧ rowsAt z 2 = c.1 11 ∧ manyZ z 0 = c.1 17 ∧ manyZ z 1 = c.1 18 ∧ (0 < c.1 18 ↔ z 5 = 1)) ∧ ((0 ≤ c.1 16 ∧ c.1 16 ≤ 120) ∧ (0 ≤ c.1 17 ∧ c.1 17 ≤ 120) ∧ (0 ≤ c.1 18 ∧ c.1 18 ≤ 120) ∧ (0 ≤ c.1 6 ∧ c.1 6 ≤ 20)) := by
  have ⟨⟨t1, t2⟩, ⟨c1, c2, c3, c4, c5, c6, c7, c8⟩, hm, hd, hin, ho⟩ := h
  have ⟨v1, v2, v3, v4, v5⟩ := hV.1
  have hr := Rep_ri hV.1 h
  have vr : z 5 = 1 ↔ 0 < riZ z := by obtain ⟨_, _, _, _, _, _, _, vr, _⟩ := hV; exact vr
  exact ⟨⟨c1, c2, c3, c4, c5, c6, c7, c8, t1⟩, ⟨Rep_n6 hV.1 h, Rep_n11 hV.1 h, RLs_many hd v1 v3 (Or.inl rfl), RLs_many hin v1 v3 (Or.inr rfl), hr.trans vr.symm⟩, by omega, hd.1, hin.1, hm.1⟩
theorem RMm_rank {mr z : Int → Int} {m i : Int} (h : RMm mr m z) (hi : 0 ≤ i) (hi2 : i < m) : sumI (fun r => pz (z (250 + r) = 1)) (mr i).toNat = i := by
  obtain ⟨h0, a, b, c⟩ := h
  obtain ⟨i1, i2, i3⟩ := a i hi hi2
  have q := cnt_bij (c := fun j => mr (j : Int)) (n := (mr i).toNat) (len := i.toNat) (P := fun r => z (250 + r) = 1) (fun j hj => ?_) (fun j k h1 h2 => ?_) (fun r hr hp => ?_)
  · rw [q]; omega
  · obtain ⟨j1, j2, j3⟩ := a j (by omega) (by omega)
    have := b j i (by omega) (by omega) hi2
    exact ⟨j1, by omega, j3⟩
  · have := b j k (by omega) (by omega) (by omega)
    omega
  · obtain ⟨j, j1, j2, j3⟩ := c r (by omega) (by omega) hp
    have : j < i := by
      rcases Int.lt_trichotomy j i with w | w | w
      · exact w
      · rw [w] at j3; omega
      · have := b i j hi w j2; omega
    exact ⟨j.toNat, by omega, by show mr ((j.toNat : Nat) : Int) = _; rw [show ((j.toNat : Nat) : Int) = j by omega]; exact j3⟩
theorem inMem_is {c : SS} {z : Int → Int} {index : Int} (hV : Vz z) (h : Rep c z) : (0 ≤ index ∧ index < c.1 6 → (0 ≤ c.2 9 index ∧ c.2 9 index < 120) ∧ c.2 0 (c.2 9 index) = an_inMemory z index) ∧ (¬ (0 ≤ index ∧ index < c.1 6) → -1 = an_inMemory z index) := by
  have ⟨v1, v2, v3, v4, v5⟩ := hV.1
  have hm := h.2.2.1
  have t2 := h.1.2
  have sp := imZ_spec (z := z) (index := index) (z 3).toNat
  refine ⟨fun ⟨g1, g2⟩ => ?_, fun g => ?_⟩
  · obtain ⟨m1, m2, m3⟩ := hm.2.1 index g1 g2
    have rk := RMm_rank hm g1 g2
    rcases sp with ⟨_, w⟩ | ⟨w1, w2, w3, w4⟩
    · exact absurd ⟨by rw [show (((c.2 9 index).toNat : Nat) : Int) = c.2 9 index by omega]; exact m3, rk⟩ (w (c.2 9 index).toNat (by omega))
    · have e := cnt_same (P := fun r => z (250 + r) = 1) (i := (c.2 9 index).toNat) (j := (imZ z index (z 3).toNat).toNat) (by show z _ = 1; rw [show (((c.2 9 index).toNat : Nat) : Int) = c.2 9 index by omega]; exact m3) (by show z _ = 1; rw [show (((imZ z index (z 3).toNat).toNat : Nat) : Int) = imZ z index (z 3).toNat by omega]; exact w3) (by rw [rk, w4])
      refine ⟨by omega, ?_⟩
      unfold an_inMemory
      rw [if_neg (by omega), (t2 _ m1 m2).1, show imZ z index (z 3).toNat = c.2 9 index by omega]
  · rcases sp with ⟨w, _⟩ | ⟨w1, w2, w3, w4⟩
    · unfold an_inMemory
      rw [if_pos w]
    · exfalso
      obtain ⟨j, j1, j2, j3⟩ := hm.2.2.2 _ w1 (by omega) w3
      have rk := RMm_rank hm j1 j2
      rw [j3, w4] at rk
      rw [rk] at g
      exact g ⟨j1, j2⟩
theorem runAt_is {c : SS} {z : Int → Int} {index : Int} (hV : Vz z) (h : Rep c z) : (0 ≤ index ∧ index < c.1 17 → c.2 3 index = raZ z index (z 4).toNat) ∧ (¬ (0 ≤ index ∧ index < c.1 17) → -1 = raZ z index (z 4).toNat) := by
  have ⟨v1, v2, v3, v4, v5⟩ := hV.1
  have hd := h.2.2.2.1
  have sp := raZ_spec (z := z) (index := index) (z 4).toNat
  have pos : ∀ i, 0 ≤ i → i < c.1 17 → 0 < rowsAt z (10 + 2 * c.2 3 i + 0) := fun i g1 g2 => by
    obtain ⟨a1, a2, a3, a4⟩ := hd.2.1 i g1 g2
    rw [ChL_len a4 (by omega) v1]; omega
  refine ⟨fun ⟨g1, g2⟩ => ?_, fun g => ?_⟩
  · obtain ⟨a1, a2, a3, a4⟩ := hd.2.1 index g1 g2
    have rk := RLs_rank hd v1 (Or.inl rfl) g1 g2
    have pp := pos index g1 g2
    rcases sp with ⟨_, w⟩ | ⟨w1, w2, w3, w4⟩
    · exact absurd ⟨by rw [show (((c.2 3 index).toNat : Nat) : Int) = c.2 3 index by omega]; exact pp, rk⟩ (w (c.2 3 index).toNat (by omega))
    · have e := cnt_same (P := fun k => 0 < rowsAt z (10 + 2 * k + 0)) (i := (c.2 3 index).toNat) (j := (raZ z index (z 4).toNat).toNat) (by show 0 < rowsAt z _; rw [show (((c.2 3 index).toNat : Nat) : Int) = c.2 3 index by omega]; exact pp) (by show 0 < rowsAt z _; rw [show (((raZ z index (z 4).toNat).toNat : Nat) : Int) = raZ z index (z 4).toNat by omega]; exact w3) (by rw [rk, w4])
      omega
  · rcases sp with ⟨w, _⟩ | ⟨w1, w2, w3, w4⟩
    · exact w.symm
    · exfalso
      obtain ⟨r, r1, r2, r3⟩ := rowsAt_pos.mp w3
      obtain ⟨j, j1, j2, j3⟩ := hd.2.2.2 r r1 r2 (by omega) (by omega)
      have rk := RLs_rank hd v1 (Or.inl rfl) j1 j2
      rw [show c.2 3 j = raZ z index (z 4).toNat by omega, w4] at rk
      rw [rk] at g
      exact g ⟨j1, j2⟩
theorem size_is {c : SS} {z : Int → Int} {run y : Int} (hV : Vz z) (h : Rep c z) (hy : (y = -1 ∧ ∀ j, 0 ≤ j → j < c.1 17 → c.2 3 j ≠ run) ∨ (0 ≤ y ∧ y < c.1 17 ∧ c.2 3 y = run ∧ ∀ j, 0 ≤ j → j < y → c.2 3 j ≠ run)) : (0 ≤ y ∧ y < c.1 17 → (if 0 ≤ y ∧ y < 120 then c.2 5 y else 0) = an_size z run) ∧ (¬ (0 ≤ y ∧ y < c.1 17) → -1 = an_size z run) := by
  have ⟨v1, v2, v3, v4, v5⟩ := hV.1
  have hd := h.2.2.2.1
  refine ⟨fun g => ?_, fun g => ?_⟩
  · obtain ⟨y0, y1, y2, _⟩ := hy.resolve_left (fun q => by omega)
    obtain ⟨a1, a2, a3, a4⟩ := hd.2.1 y y0 y1
    have e := ChL_len a4 (by omega) v1
    rw [Int.add_zero, y2] at e
    unfold an_size
    rw [if_pos (by have := hd.1; omega), if_pos (by omega), e]
  · obtain ⟨_, n⟩ := hy.resolve_right (fun q => g ⟨q.1, q.2.1⟩)
    unfold an_size
    rw [if_neg]
    intro ⟨q1, q2, q3⟩
    obtain ⟨r, r1, r2, r3⟩ := rowsAt_pos.mp q3
    obtain ⟨j, j1, j2, j3⟩ := hd.2.2.2 r r1 r2 (by omega) (by omega)
    exact n j j1 j2 (by omega)
/-- a row of a run has as many before it as its place in the chain -/
theorem bef_chn {c : SS} {z : Int → Int} (hV : Vz z) (h : Rep c z) {i : Int} (hi : 0 ≤ i ∧ i < c.1 17) {j : Nat} (hj : (j : Int) < c.2 5 i) : befZ z (chn (c.2 2) (c.2 4 i) j) = j := by
  have ⟨v1, v2, v3, v4, v5⟩ := hV.1
  obtain ⟨a1, a2, a3, a4⟩ := h.2.2.2.1.2.1 i hi.1 hi.2
  obtain ⟨x1, x2, x3⟩ := a4.1 j hj
  have q := cnt_bij (c := fun k => chn (c.2 2) (c.2 4 i) k) (n := (z 3).toNat) (len := j) (P := fun r => z (250 + r) = z (250 + chn (c.2 2) (c.2 4 i) j) ∧ (z (10 + r) < z (10 + chn (c.2 2) (c.2 4 i) j) ∨ z (10 + r) = z (10 + chn (c.2 2) (c.2 4 i) j) ∧ r < chn (c.2 2) (c.2 4 i) j)) (fun k hk => ?_) (fun k l h1 h2 e => ?_) (fun r hr hp => ?_)
  · exact q
  · obtain ⟨y1, y2, y3⟩ := a4.1 k (by omega)
    have b := a4.2.1 k j hk hj
    exact ⟨y1, by omega, by rw [y3, x3], b⟩
  · have := ChL_inj a4 (by omega) (by omega) e
    omega
  · obtain ⟨k, k1, k2⟩ := a4.2.2 r (by omega) (by omega) (by rw [hp.1, x3])
    refine ⟨k, ?_, k2⟩
    rcases Nat.lt_trichotomy k j with w | w | w
    · exact w
    · rw [w] at k2
      have := hp.2
      rw [k2] at this
      omega
    · have b := a4.2.1 j k w k1
      unfold bef at b
      rw [k2] at b
      have := hp.2
      omega
theorem row_ex {c : SS} {z : Int → Int} (hV : Vz z) (h : Rep c z) : ∀ run index, 0 ≤ run → run ≤ z 4 - 1 → 0 ≤ index → index ≤ rowsAt z (10 + 2 * run) - 1 → ∃ r, 0 ≤ r ∧ r < z 3 ∧ z (250 + r) = 10 + 2 * run ∧ befZ z r = index := by
  intro run index r0 r1 i0 i1
  have ⟨v1, v2, v3, v4, v5⟩ := hV.1
  obtain ⟨r, q1, q2, q3⟩ := rowsAt_pos.mp (show 0 < rowsAt z (10 + 2 * run) by omega)
  obtain ⟨i, j1, j2, j3⟩ := h.2.2.2.1.2.2.2 r q1 q2 (by omega) (by omega)
  obtain ⟨a1, a2, a3, a4⟩ := h.2.2.2.1.2.1 i j1 j2
  have e := ChL_len a4 (by omega) v1
  rw [show 10 + 2 * c.2 3 i + 0 = 10 + 2 * run by omega] at e
  obtain ⟨x1, x2, x3⟩ := a4.1 index.toNat (by omega)
  exact ⟨_, x1, x2, by omega, by rw [bef_chn hV h ⟨j1, j2⟩ (by omega)]; omega⟩
theorem row_is {c : SS} {z : Int → Int} {run index part y : Int} (hV : Vz z) (h : Rep c z) (hy : (∃ i, 0 ≤ i ∧ i < c.1 17 ∧ c.2 3 i = run ∧ 0 ≤ index ∧ index < c.2 5 i ∧ y = chn (c.2 2) (c.2 4 i) index.toNat) ∨ (y = -1 ∧ ∀ i, 0 ≤ i → i < c.1 17 → c.2 3 i = run → ¬ (0 ≤ index ∧ index < c.2 5 i))) : (0 ≤ y ∧ y < c.1 16 → y < 120 ∧ an_row z run index part = (if part = 0 then c.2 0 y else if part = 1 then y else if part = 2 then c.2 1 y else -2)) ∧ (¬ (0 ≤ y ∧ y < c.1 16) → -1 = an_row z run index part) := by
  have ⟨v1, v2, v3, v4, v5⟩ := hV.1
  have ⟨t1, t2⟩ := h.1
  have hd := h.2.2.2.1
  have cond : ∀ i, 0 ≤ i → i < c.1 17 → c.2 3 i = run → rowsAt z (10 + 2 * run) = c.2 5 i ∧ 1 ≤ c.2 5 i ∧ 0 ≤ run ∧ run < z 4 := fun i g1 g2 g3 => by
    obtain ⟨a1, a2, a3, a4⟩ := hd.2.1 i g1 g2
    have e := ChL_len a4 (by omega) v1
    rw [Int.add_zero, g3] at e
    exact ⟨e, a3, by omega, by omega⟩
  refine ⟨fun g => ?_, fun g => ?_⟩
  · obtain ⟨i, i0, i1, i2, i3, i4, i5⟩ := hy.resolve_right (fun q => by omega)
    obtain ⟨e, e1, e2, e3⟩ := cond i i0 i1 i2
    obtain ⟨a1, a2, a3, a4⟩ := hd.2.1 i i0 i1
    obtain ⟨x1, x2, x3⟩ := a4.1 index.toNat (by omega)
    have bf := bef_chn hV h ⟨i0, i1⟩ (j := index.toNat) (by omega)
    rw [← i5] at x1 x2 x3 bf
    have ef : fdZ z run index (z 3).toNat = y := by
      rcases fdZ_spec (z := z) (run := run) (index := index) (z 3).toNat with ⟨_, w⟩ | ⟨w1, w2, w3, w4⟩
      · exact absurd ⟨by rw [show ((y.toNat : Nat) : Int) = y by omega]; omega, by rw [show ((y.toNat : Nat) : Int) = y by omega, bf]; omega⟩ (w y.toNat (by omega))
      · obtain ⟨k, k1, k2⟩ := a4.2.2 _ w1 (by omega) (by rw [w3]; omega)
        have bk := bef_chn hV h ⟨i0, i1⟩ k1
        rw [k2, w4] at bk
        rw [← k2, i5]
        congr 1
        omega
    refine ⟨by omega, ?_⟩
    unfold an_row
    rw [if_pos ⟨⟨e2, by omega, by omega⟩, i3, by omega⟩, ef, (t2 y x1 x2).1, (t2 y x1 x2).2]
  · have bad : ∀ i, 0 ≤ i → i < c.1 17 → c.2 3 i = run → ¬ (0 ≤ index ∧ index < c.2 5 i) := by
      rcases hy with ⟨i, i0, i1, i2, i3, i4, i5⟩ | ⟨_, n⟩
      · exfalso
        obtain ⟨a1, a2, a3, a4⟩ := hd.2.1 i i0 i1
        obtain ⟨x1, x2, x3⟩ := a4.1 index.toNat (by omega)
        rw [← i5] at x1 x2
        exact g ⟨x1, by omega⟩
      · exact n
    unfold an_row
    rw [if_neg]
    intro ⟨⟨q1, q2, q3⟩, q4, q5⟩
    obtain ⟨r, r1, r2, r3⟩ := rowsAt_pos.mp q3
    obtain ⟨j, j1, j2, j3⟩ := hd.2.2.2 r r1 r2 (by omega) (by omega)
    obtain ⟨e, _⟩ := cond j j1 j2 (by omega)
    exact bad j j1 j2 (by omega) ⟨q4, by omega⟩
theorem sumI_single {f : Int → Int} {i : Nat} : ∀ {n : Nat}, i < n → (∀ j : Nat, j < n → j ≠ i → f j = 0) → sumI f n = f i
  | 0, hi, _ => absurd hi (Nat.not_lt_zero _)
  | n + 1, hi, h => by
    rw [sumI]
    by_cases c : i = n
    · subst c
      rw [sumI_0 (fun r hr => h r (by omega) (by omega))]; omega
    · rw [sumI_single (by omega) (fun j h1 h2 => h j (by omega) h2), h n (by omega) (fun q => c q.symm)]; omega
theorem sum_rows {z q : Int → Int} : ∀ k : Nat, sumI (fun r => sumI (fun i => pz (z (250 + r) = q i)) k) (z 3).toNat = sumI (fun i => rowsAt z (q i)) k
  | 0 => by
    rw [sumI]
    exact sumI_0 (fun r _ => rfl)
  | k + 1 => by
    have e : sumI (fun r => sumI (fun i => pz (z (250 + r) = q i)) (k + 1)) (z 3).toNat = sumI (fun r => (fun r => sumI (fun i => pz (z (250 + r) = q i)) k) r + (fun r => pz (z (250 + r) = q k)) r) (z 3).toNat := sumI_cong (fun r _ => by rw [sumI])
    rw [e, sumI_add, sum_rows k]
    conv => rhs; rw [sumI]
    rfl
theorem riZ_sum {c : SS} {z : Int → Int} (hV : Vz z) (h : Rep c z) : sumI (c.2 8) (c.1 18).toNat = riZ z ∧ ∀ j, 0 ≤ j → j < c.1 18 → 0 ≤ c.2 8 j ∧ c.2 8 j ≤ 120 := by
  have ⟨v1, v2, v3, v4, v5⟩ := hV.1
  have hin := h.2.2.2.2.1
  have len : ∀ i, 0 ≤ i → i < c.1 18 → rowsAt z (10 + 2 * c.2 6 i + 1) = c.2 8 i := fun i g1 g2 => by
    obtain ⟨a1, a2, a3, a4⟩ := hin.2.1 i g1 g2
    exact ChL_len a4 (by omega) v1
  refine ⟨?_, fun j j0 j1 => ?_⟩
  · have e := sum_rows (z := z) (q := fun i => 10 + 2 * c.2 6 i + 1) (c.1 18).toNat
    have e1 : sumI (fun i => rowsAt z (10 + 2 * c.2 6 i + 1)) (c.1 18).toNat = sumI (c.2 8) (c.1 18).toNat := sumI_cong (fun r hr => len r (by omega) (by omega))
    rw [← e1, ← e]
    unfold riZ
    refine sumI_cong (fun r hr => ?_)
    by_cases w : 11 ≤ z (250 + r) ∧ z (250 + r) % 2 = 1
    · rw [pz_t w]
      obtain ⟨i, i0, i1, i2⟩ := hin.2.2.2 r (by omega) (by omega) (by omega) w.2
      rw [sumI_single (i := i.toNat) (by omega) (fun j h1 h2 => pz_f (fun q => by
        rcases Int.lt_trichotomy j i with y | y | y
        · have := hin.2.2.1 j i (by omega) y i1; omega
        · omega
        · have := hin.2.2.1 i j i0 y (by omega); omega))]
      exact pz_t (by rw [show ((i.toNat : Nat) : Int) = i by omega]; exact i2)
    · rw [pz_f w]
      exact sumI_0 (fun j hj => pz_f (fun q => by
        obtain ⟨a1, _⟩ := hin.2.1 j (by omega) (by omega)
        exact w (by omega)))
  · have := len j j0 j1
    have := rowsAt_le (z := z) (p := 10 + 2 * c.2 6 j + 1) v1
    omega
theorem sums_is {c : SS} {z : Int → Int} (hV : Vz z) (h : Rep c z) : sumI (fun r => pz (0 < c.2 1 r)) (c.1 16).toNat = thrZ z ∧ (∀ key, sumI (fun r => if c.2 0 r < key then c.2 1 r else 0) (c.1 16).toNat = belZ z key) ∧ ∀ r, 0 ≤ r → r < c.1 16 → 0 ≤ c.2 1 r ∧ c.2 1 r ≤ 120 := by
  have ⟨t1, t2⟩ := h.1
  have hc := hV.cnt
  have ⟨v1, v2, v3, v4, v5⟩ := hV.1
  have hr := hV.2.2.1
  rw [t1]
  refine ⟨sumI_cong (fun r hr2 => ?_), fun key => sumI_cong (fun r hr2 => ?_), fun r g1 g2 => ?_⟩
  · obtain ⟨_, b, d⟩ := hr r (by omega) (by omega)
    have p0 := v5 r (by omega) (by omega)
    have e := (t2 r (by omega) (by omega)).2
    exact pz_cong (by omega)
  · obtain ⟨a, b⟩ := t2 r (by omega) (by omega)
    show (if c.2 0 r < key then c.2 1 r else 0) = if z (10 + r) < key then z (130 + r) else 0
    rw [a, b]
  · rw [(t2 r g1 g2).2]; exact hc r g1 g2
