/-! ===== what the law tells of its arrays, and the class of its row ===== -/
def cnR (z : Int → Int) (K : Int) : Int := sumI (fun k => pz (0 < rowsAt z (10 + 2 * k + 0))) K.toNat
section TLS
variable {f n l d m k c t z : Int → Int} {T : Int}
theorem LV_d0 (h : LV f n l d m k t z) (v5 : z 5 = 0 ∨ z 5 = 1) {j : Int} (hj : 0 ≤ j ∧ j < t 10) (hd : d j = 0) : 0 < l j := by
  obtain ⟨_, _, _, _, hX, _⟩ := h
  rcases v5 with w | w
  · exact (hX.1 w j hj.1 hj.2).2
  · obtain ⟨x1, x2, x3⟩ := hX.2 w
    have : j ≠ t 10 - 1 := fun q => by rw [q] at hd; omega
    rcases x3 j hj.1 (by omega) with v | v
    · omega
    · exact v.2
theorem LF_num (hb : Vb z) (h : LF f n l d T z) {j : Int} (hj : 0 ≤ j ∧ j < T) (hl : 0 < l j) (hd : d j = 0) : rowsAt z (10 + 2 * n j) = l j ∧ 0 ≤ n j ∧ n j < z 4 := by
  have e := LF_len h hb.1 hj hl
  rw [pF_n (by omega), hd, Int.add_zero] at e
  exact ⟨e, (h.2.1 j hj.1 hj.2 hl).2.1 (by omega)⟩
theorem LF_run (h : LF f n l d T z) {q : Int} (h0 : 0 ≤ q) (hr : 0 < rowsAt z (10 + 2 * q)) : ∃ j, (0 ≤ j ∧ j < T) ∧ 0 < l j ∧ d j = 0 ∧ n j = q := by
  obtain ⟨x, x1, x2, x3⟩ := rowsAt_pos.mp hr
  obtain ⟨i, i1, i2, i3, i4⟩ := h.2.2.2 x x1 x2 (by omega)
  obtain ⟨b1, b2, _⟩ := h.2.1 i i1 i2 i3
  have nd : d i ≠ 2 := fun w => by rw [pF_2 w] at i4; omega
  rw [pF_n nd] at i4
  have := b2 nd
  exact ⟨i, ⟨i1, i2⟩, i3, by omega, by omega⟩
theorem cnR_S {K : Int} (h : 0 ≤ K) : cnR z (K + 1) = cnR z K + pz (0 < rowsAt z (10 + 2 * K + 0)) := sumI_S h
theorem cnR_all : manyZ z 0 = cnR z (z 4) := rfl
theorem cnR_mono {K K' : Int} (h : K ≤ K') : cnR z K ≤ cnR z K' := sumI_mono (fun _ => pz_nn _) (by omega)
theorem cnR_nn {K : Int} : 0 ≤ cnR z K := sumI_nn (fun _ _ => pz_nn _)
theorem cnR_skip {K K' : Int} (h0 : 0 ≤ K) (h : K ≤ K') (hz : ∀ q, K ≤ q → q < K' → ¬ 0 < rowsAt z (10 + 2 * q)) : cnR z K' = cnR z K := sumI_split (by omega) (fun r h1 h2 => pz_f (by have := hz r (by omega) (by omega); rw [Int.add_zero]; exact this))
theorem ra_is {N i : Int} (h0 : 0 ≤ N) (h4 : N < z 4) (hr : 0 < rowsAt z (10 + 2 * N)) (hc : cnR z N = i) : raZ z i (z 4).toNat = N := by
  have hN : ((N.toNat : Nat) : Int) = N := by omega
  rcases raZ_spec (z := z) (index := i) (z 4).toNat with ⟨_, w⟩ | ⟨w1, w2, w3, w4⟩
  · refine absurd (And.intro ?_ ?_) (w N.toNat (by omega))
    · rw [hN, Int.add_zero]; exact hr
    · exact hc
  · have := cnt_same (P := fun k => 0 < rowsAt z (10 + 2 * k + 0)) (i := (raZ z i (z 4).toNat).toNat) (j := N.toNat) (by
      show 0 < rowsAt z _
      rw [show (((raZ z i (z 4).toNat).toNat : Nat) : Int) = raZ z i (z 4).toNat by omega]; exact w3) (by
      show 0 < rowsAt z _
      rw [hN, Int.add_zero]; exact hr) (w4.trans hc.symm)
    omega
theorem ra_none {i : Int} (hi : i < 0 ∨ manyZ z 0 ≤ i) : raZ z i (z 4).toNat = -1 := by
  rcases raZ_spec (z := z) (index := i) (z 4).toNat with ⟨w, _⟩ | ⟨w1, w2, w3, w4⟩
  · exact w
  · generalize raZ z i (z 4).toNat = N at *
    have e : cnR z N = i := w4
    have s := cnR_S (z := z) w1
    rw [pz_t w3] at s
    have := cnR_mono (z := z) (show N + 1 ≤ z 4 by omega)
    rw [← cnR_all] at this
    have := cnR_nn (z := z) (K := N)
    omega
/-- a row's place among the rows of its file -/
theorem bef_at (hb : Vb z) (h : LF f n l d T z) {a q : Int} (ha : 0 ≤ a ∧ a < T) (hq : 0 ≤ q ∧ q < l a) : befZ z (f (sumI l a.toNat + q)) = q := by
  have F := (h.2.1 a ha.1 ha.2 (by omega)).2.2
  obtain ⟨x1, x2, x3⟩ := F.1 (sumI l a.toNat + q) (by omega) (by omega)
  unfold befZ
  rw [cnt_bij (c := fun j : Nat => f (sumI l a.toNat + j)) (len := q.toNat) (P := fun r => z (250 + r) = z (250 + f (sumI l a.toNat + q)) ∧ (z (10 + r) < z (10 + f (sumI l a.toNat + q)) ∨ z (10 + r) = z (10 + f (sumI l a.toNat + q)) ∧ r < f (sumI l a.toNat + q))) (fun j hj => ?_) (fun j i hji hi e => ?_) (fun r hr hp => ?_)]
  · omega
  · obtain ⟨y1, y2, y3⟩ := F.1 (sumI l a.toNat + j) (by omega) (by omega)
    have o := F.2.1 (sumI l a.toNat + j) (sumI l a.toNat + q) (by omega) (by omega) (by omega)
    exact ⟨y1, by (try dsimp only); omega, by (try dsimp only); rw [y3, x3], o⟩
  · have o := F.2.1 (sumI l a.toNat + j) (sumI l a.toNat + i) (by omega) (by omega) (by omega)
    (try dsimp only at e)
    rw [e] at o
    exact bef_irr o
  · obtain ⟨g, g1, g2, g3⟩ := F.2.2 r (by omega) (by omega) (by rw [hp.1]; exact x3)
    have lt : g < sumI l a.toNat + q := by
      rcases Int.lt_trichotomy g (sumI l a.toNat + q) with w | w | w
      · exact w
      · rw [w] at g3
        have : bef z r (f (sumI l a.toNat + q)) := hp.2
        rw [g3] at this
        exact absurd this bef_irr
      · have o := F.2.1 _ _ (by omega) w g2
        rw [g3] at o
        exact absurd o (bef_asym hp.2)
    refine ⟨(g - sumI l a.toNat).toNat, by omega, ?_⟩
    (try dsimp only)
    rw [show sumI l a.toNat + (((g - sumI l a.toNat).toNat : Nat) : Int) = g by omega]
    exact g3
theorem fd_at (hb : Vb z) (h : LF f n l d T z) {a q : Int} (ha : 0 ≤ a ∧ a < T) (hd : d a = 0) (hq : 0 ≤ q ∧ q < l a) : fdZ z (n a) q (z 3).toNat = f (sumI l a.toNat + q) := by
  have F := (h.2.1 a ha.1 ha.2 (by omega)).2.2
  have ep : pF n d a = 10 + 2 * n a := by rw [pF_n (by omega), hd]; omega
  rw [ep] at F
  obtain ⟨x1, x2, x3⟩ := F.1 (sumI l a.toNat + q) (by omega) (by omega)
  have eb := bef_at hb h ha hq
  rcases fdZ_spec (z := z) (run := n a) (index := q) (z 3).toNat with ⟨_, w⟩ | ⟨w1, w2, w3, w4⟩
  · have := w (f (sumI l a.toNat + q)).toNat (by omega)
    rw [show (((f (sumI l a.toNat + q)).toNat : Nat) : Int) = f (sumI l a.toNat + q) by omega] at this
    exact absurd (And.intro x3 eb) this
  · obtain ⟨g, g1, g2, g3⟩ := F.2.2 _ w1 (by omega) w3
    have := bef_at hb h ha (q := g - sumI l a.toNat) (by omega)
    rw [show sumI l a.toNat + (g - sumI l a.toNat) = g by omega, g3, w4] at this
    rw [← g3]
    congr 1
    omega
theorem row_at (hb : Vb z) (h : LF f n l d T z) {a q part : Int} (ha : 0 ≤ a ∧ a < T) (hl : 0 < l a) (hd : d a = 0) (hq : 0 ≤ q ∧ q < l a) : an_row z (n a) q part = (if part = 0 then z (10 + f (sumI l a.toNat + q)) else if part = 1 then f (sumI l a.toNat + q) else if part = 2 then z (130 + f (sumI l a.toNat + q)) else -2) := by
  obtain ⟨e, n1, n2⟩ := LF_num hb h ha hl hd
  unfold an_row
  rw [if_pos (by rw [e]; omega), fd_at hb h ha hd hq]
theorem row_no (hb : Vb z) (h : LF f n l d T z) {a part : Int} (ha : 0 ≤ a ∧ a < T) (hl : 0 < l a) (hd : d a = 0) : an_row z (n a) (l a) part = -1 := by
  obtain ⟨e, n1, n2⟩ := LF_num hb h ha hl hd
  unfold an_row
  rw [if_neg (by rw [e]; omega)]
theorem size_at (hb : Vb z) (h : LF f n l d T z) {a : Int} (ha : 0 ≤ a ∧ a < T) (hl : 0 < l a) (hd : d a = 0) : an_size z (n a) = l a := by
  obtain ⟨e, n1, n2⟩ := LF_num hb h ha hl hd
  unfold an_size
  rw [if_pos (by rw [e]; omega), e]
theorem LF_left (hb : Vb z) (h : LF f n l d T z) : sumI (fun i => if d i = 1 then l i else 0) T.toNat = riZ z := by
  have hv := hb.2.2.2.2
  have h3 := hb.1
  have e1 := sum_rows (z := z) (q := fun i => if 0 < l i ∧ d i = 1 then pF n d i else -1) T.toNat
  have e2 : sumI (fun i => rowsAt z (if 0 < l i ∧ d i = 1 then pF n d i else -1)) T.toNat = sumI (fun i => if d i = 1 then l i else 0) T.toNat := sumI_cong (fun r hr => by
    have r0 : rowsAt z (-1) = 0 := (rowsAt_0 h3).mpr (fun x x0 x1 q => by have := hv x x0 x1; omega)
    by_cases c : 0 < l r
    · by_cases c2 : d r = 1
      · rw [if_pos ⟨c, c2⟩, if_pos c2]; exact LF_len h h3 (by omega) c
      · rw [if_neg (fun q => c2 q.2), if_neg c2, r0]
    · rw [if_neg (fun q => c q.1), r0]
      have := h.1 r (by omega) (by omega)
      split <;> omega)
  rw [← e2, ← e1]
  unfold riZ
  refine sumI_cong (fun r hr => ?_)
  have pl := hv r (by omega) (by omega)
  by_cases w : 11 ≤ z (250 + r) ∧ z (250 + r) % 2 = 1
  · obtain ⟨i, i1, i2, i3, i4⟩ := h.2.2.2 r (by omega) (by omega) (by omega)
    obtain ⟨b1, b2, _⟩ := h.2.1 i i1 i2 i3
    have nd : d i ≠ 2 := fun w => by rw [pF_2 w] at i4; omega
    have d1 : d i = 1 := by have := b2 nd; rw [pF_n nd] at i4; omega
    have e0 : sumI (fun i => pz (z (250 + r) = if 0 < l i ∧ d i = 1 then pF n d i else -1)) T.toNat = pz (z (250 + r) = if 0 < l ((i.toNat : Nat) : Int) ∧ d ((i.toNat : Nat) : Int) = 1 then pF n d ((i.toNat : Nat) : Int) else -1) := sumI_single (i := i.toNat) (by omega) (fun j hj hji => pz_f (fun q => by
      by_cases v : 0 < l j ∧ d j = 1
      · rw [if_pos v] at q
        have := LF_pne h (i := i) (j := j) ⟨i1, i2⟩ (by omega) i3 v.1 (i4.trans q)
        omega
      · rw [if_neg v] at q; omega))
    rw [e0, show ((i.toNat : Nat) : Int) = i by omega, pz_t w, pz_t (by rw [if_pos ⟨i3, d1⟩]; exact i4.symm)]
  · rw [pz_f w, sumI_0 (f := fun i => pz (z (250 + r) = if 0 < l i ∧ d i = 1 then pF n d i else -1)) (fun j hj => pz_f (fun q => by
      by_cases v : 0 < l j ∧ d j = 1
      · rw [if_pos v] at q
        have b2 := (h.2.1 j (by omega) (by omega) v.1).2.1 (by omega)
        rw [pF_n (by omega), v.2] at q
        omega
      · rw [if_neg v] at q; omega))]
theorem im_at (hb : Vb z) (hk : ∀ r, 0 ≤ r → r < z 3 → k r = z (10 + r)) {M i : Int} (h : RMm m M z) (hi : 0 ≤ i ∧ i < M) : an_inMemory z i = k (m i) := by
  obtain ⟨y1, y2, y3⟩ := h.2.1 i hi.1 hi.2
  have rk := RMm_rank h hi.1 hi.2
  have e : imZ z i (z 3).toNat = m i := by
    rcases imZ_spec (z := z) (index := i) (z 3).toNat with ⟨_, w⟩ | ⟨w1, w2, w3, w4⟩
    · have := w (m i).toNat (by omega)
      rw [show (((m i).toNat : Nat) : Int) = m i by omega] at this
      exact absurd (And.intro y3 rk) this
    · have := cnt_same (P := fun r => z (250 + r) = 1) (i := (imZ z i (z 3).toNat).toNat) (j := (m i).toNat) (by
        show z (250 + _) = 1
        rw [show (((imZ z i (z 3).toNat).toNat : Nat) : Int) = imZ z i (z 3).toNat by omega]; exact w3) (by
        show z (250 + _) = 1
        rw [show (((m i).toNat : Nat) : Int) = m i by omega]; exact y3) (w4.trans rk.symm)
      omega
  unfold an_inMemory
  rw [if_neg (by rw [e]; omega), e, hk _ y1 y2]
theorem im_no (hb : Vb z) {M : Int} (h : RMm m M z) : an_inMemory z M = -1 := by
  unfold an_inMemory
  rcases imZ_spec (z := z) (index := M) (z 3).toNat with ⟨w, _⟩ | ⟨w1, w2, w3, w4⟩
  · rw [if_pos w]
  · obtain ⟨j, j1, j2, j3⟩ := h.2.2.2 _ w1 (by omega) w3
    have rk := RMm_rank h j1 j2
    rw [j3, w4] at rk
    omega
theorem bel_all (hV : VzR z) : belZ z 1000 = sumI (fun r => z (130 + r)) (z 3).toNat := sumI_cong (fun r hr => by
  rw [if_pos]
  have := (hV r (by omega) (by omega)).1
  omega)
end TLS
