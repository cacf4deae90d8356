/-! ===== the law's cut ===== -/
def CI (y f l : Int → Int) (T : Int) (n d t : Int → Int) (K : Int) : Prop := (0 ≤ K ∧ K ≤ y 4) ∧ LF f n l d T (ctF y K) ∧ t 4 = ctF y K 4 ∧ (∀ i, 0 ≤ i → i < T → d i = 0 ∨ d i = 1) ∧ ∀ i, 0 ≤ i → i < T → d i = 1 → 0 < l i → K ≤ n i
section CUT
variable {y f l n d t : Int → Int} {T K : Int}
theorem ct_le (hb : Vb y) (h0 : 0 ≤ K) (hK : K ≤ y 4) : y 4 ≤ ctF y K 4 ∧ ctF y K 4 ≤ y 4 + 1 + manyZ y 1 := by
  rw [ctF_4]
  have h1 := sum_rng (z := y) (kind := 1) h0
  have h2 := pz_01 (0 < rowsAt y 2)
  have h3 : sumI (fun k => pz (0 < rowsAt y (10 + 2 * k + 1))) K.toNat ≤ manyZ y 1 := sumI_mono (fun k => pz_nn _) (by omega)
  omega
theorem ct_Vb (hb : Vb y) (h0 : 0 ≤ K) (hK : K ≤ y 4) (hB : y 4 + 1 + manyZ y 1 ≤ 900000000) : Vb (ctF y K) := by
  have := ct_le hb h0 hK
  rw [ctF_4] at this
  exact ctF_Vb hb h0 (by omega)
/-- a row of an input that is still one -/
theorem ct_row (hb : Vb y) {r p : Int} (h0 : 0 ≤ r) (h : r < y 3) (hp : 11 ≤ p ∧ p % 2 = 1) : ctF y K (250 + r) = p ↔ y (250 + r) = p ∧ 11 + 2 * K ≤ p := by
  rw [ctF_pl h0 h]
  by_cases c : y (250 + r) = 2
  · rw [if_pos c]; omega
  · rw [if_neg c]
    by_cases w : (11 ≤ y (250 + r) ∧ y (250 + r) % 2 = 1) ∧ y (250 + r) < 11 + 2 * K
    · rw [if_pos w]; omega
    · rw [if_neg w]; omega
/-- a place without a file has no rows -/
theorem ct_none (hb : Vb y) (h : LF f n l d T (ctF y K)) {k : Int} (hk : K ≤ k) (h0 : 0 ≤ k) (hno : ∀ j, 0 ≤ j → j < T → d j = 1 → 0 < l j → n j ≠ k) : rowsAt y (10 + 2 * k + 1) = 0 := (rowsAt_0 hb.1).mpr (fun r r0 r1 e => by
  have e3 : ctF y K 3 = y 3 := ctF_lo (by omega) (by omega)
  have q := (ct_row (K := K) (p := 10 + 2 * k + 1) hb r0 r1 (by omega)).mpr ⟨e, by omega⟩
  obtain ⟨i, i1, i2, i3, i4⟩ := h.2.2.2 r r0 (by omega) (by omega)
  obtain ⟨b1, b2, _⟩ := h.2.1 i i1 i2 i3
  have nd : d i ≠ 2 := fun w => by rw [pF_2 w] at i4; omega
  rw [pF_n nd, q] at i4
  exact hno i i1 i2 (by omega) i3 (by omega))
theorem CI_step (hb : Vb y) (hB : y 4 + 1 + manyZ y 1 ≤ 900000000) (h : CI y f l T n d t K) {a : Int} (ha : 0 ≤ a ∧ a < T) (hd : d a = 1) (hl : 0 < l a) (hm : ∀ j, 0 ≤ j → j < T → d j = 1 → 0 < l j → n a ≤ n j) : CI y f l T (uZ n a (t 4)) (uZ d a 0) (uZ t 4 (t 4 + 1)) (n a + 1) ∧ t 4 + 1 ≤ y 4 + 1 + manyZ y 1 := by
  obtain ⟨hK, hF, h4, hd01, hlo⟩ := h
  have ka := hlo a ha.1 ha.2 hd hl
  obtain ⟨x1, x2, x3⟩ := LF_row hF ha (Int.le_refl _) (by omega)
  have epa : pF n d a = 11 + 2 * n a := by rw [pF_n (by omega), hd]; omega
  have e3 : ctF y K 3 = y 3 := ctF_lo (by omega) (by omega)
  rw [e3] at x2
  have na := (hF.2.1 a ha.1 ha.2 hl).2.1 (by omega)
  rw [epa] at x3
  have yr := ((ct_row (K := K) (p := 11 + 2 * n a) hb x1 x2 (by omega)).mp x3).1
  have vy := hb.2.2.2.2 _ x1 x2
  have k4 : n a < y 4 := by omega
  have sk : ctF y (n a) = ctF y K := ctF_skip hK.1 ka (fun k k1 k2 => ct_none hb hF k1 (by omega) (fun j j1 j2 j3 j4 q => by have := hm j j1 j2 j3 j4; omega))
  have st := ctF_step (z := y) (K := n a) na.1 (rowsAt_pos.mpr ⟨_, x1, x2, by omega⟩)
  rw [sk] at st
  have q := LF_close (ct_Vb hb hK.1 hK.2 hB) hF ha hl
  rw [epa, st, ← h4] at q
  have s4 : ctF y (n a + 1) 4 = t 4 + 1 := by rw [← st, becm_4, h4]
  have le := ct_le (K := n a + 1) hb (by omega) (by omega)
  refine ⟨⟨by omega, q, by rw [uZ_at, s4], fun i i0 i1 => ?_, fun i i0 i1 i2 i3 => ?_⟩, by omega⟩
  · by_cases w : i = a
    · rw [w, uZ_at]; exact Or.inl rfl
    · rw [uZ_ne w]; exact hd01 i i0 i1
  · by_cases w : i = a
    · rw [w, uZ_at] at i2; omega
    · rw [uZ_ne w] at i2 ⊢
      have := hm i i0 i1 i2 i3
      have ne : n i ≠ n a := by
        rcases Int.lt_or_gt_of_ne w with v | v
        · exact (hF.2.2.1 i a i0 v ha.2 i3 hl).2 (by omega) (by omega)
        · exact fun q => (hF.2.2.1 a i ha.1 v i1 hl i3).2 (by omega) (by omega) q.symm
      omega
theorem CI_end (hb : Vb y) (h : CI y f l T n d t K) (h0 : kdZ l d 1 T.toNat = 0) : ctF y K = ctF y (y 4) := by
  obtain ⟨hK, hF, h4, hd01, hlo⟩ := h
  refine (ctF_skip hK.1 hK.2 (fun k k1 k2 => ct_none hb hF k1 (by omega) (fun j j1 j2 j3 j4 q => ?_))).symm
  unfold kdZ at h0
  have := sumI_eq0 (f := fun i => pz (d i = 1 ∧ 0 < l i)) (fun _ _ => pz_nn _) h0 j.toNat (by omega)
  rw [show ((j.toNat : Nat) : Int) = j by omega] at this
  exact pz_0 this ⟨j3, j4⟩
end CUT
theorem LV_size {f n l d m k t z : Int → Int} {v : Int} (h : LV f n l d m k t z) : LV f n l d m k (uZ t 0 v) (uZ z 0 v) := by
  obtain ⟨⟨t0, t1, t2, t3, t4, t5, t7, t8, t9, t6⟩, hk, hm, hF, hX, hT, h56⟩ := h
  have E : ∀ (x : Int → Int) i, i ≠ 0 → uZ x 0 v i = x i := fun x i hi => uZ_ne hi
  unfold LV
  rw [E t 10 (by omega), E t 11 (by omega), E z 3 (by omega), E z 5 (by omega)]
  refine ⟨⟨by rw [uZ_at, uZ_at], ?_, ?_, ?_, ?_, ?_, ?_, ?_, ?_, fun q => ?_⟩, fun r r0 r1 => ?_, RMm_z hm (E z 3 (by omega)) (fun r r0 => E z _ (by omega)), LF_z hF (by rw [E z 4 (by omega)]; exact Int.le_refl _) (fun r r0 r1 _ => ⟨by rw [E z 3 (by omega)]; exact r1, E z _ (by omega)⟩) (fun r r0 r1 _ => ⟨by rw [E z 3 (by omega)] at r1; exact r1, E z _ (by omega)⟩) (fun r r0 r1 => E z _ (by omega)), ⟨fun q => hX.1 (by rw [E z 5 (by omega)] at q; exact q), fun q => hX.2 (by rw [E z 5 (by omega)] at q; exact q)⟩, hT, h56⟩
  · rw [E t 1 (by omega), E z 1 (by omega)]; exact t1
  · rw [E t 2 (by omega), E z 2 (by omega)]; exact t2
  · rw [E t 3 (by omega), E z 3 (by omega)]; exact t3
  · rw [E t 4 (by omega), E z 4 (by omega)]; exact t4
  · rw [E t 5 (by omega), E z 5 (by omega)]; exact t5
  · rw [E t 7 (by omega), E z 7 (by omega)]; exact t7
  · rw [E t 8 (by omega), E z 8 (by omega)]; exact t8
  · rw [E t 9 (by omega), E z 9 (by omega)]; exact t9
  · rw [E z 5 (by omega)] at q
    rw [E t 6 (by omega), E z 6 (by omega)]; exact t6 q
  · rw [E z _ (by omega)]; exact hk r r0 r1
theorem sumI_1 {f : Int → Int} : ∀ {n : Nat}, (∀ r : Nat, r < n → f r = 1) → sumI f n = n
  | 0, _ => rfl
  | n + 1, h => by rw [sumI, sumI_1 (fun r hr => h r (by omega)), h n (by omega)]; omega
theorem LV_runs {f n l d m k t z : Int → Int} (hb : Vb z) (h : LV f n l d m k t z) (h5 : z 5 = 0) : manyZ z 0 = t 10 := by
  obtain ⟨_, _, _, hF, hX, hT, _⟩ := h
  rw [← LF_kinds hb hF (kind := 0) (Or.inl rfl)]
  unfold kdZ
  rw [sumI_1 (fun r hr => pz_t (hX.1 h5 r (by omega) (by omega)))]
  omega
theorem LV_noCol {f n l d m k t z : Int → Int} (h : LV f n l d m k t z) : LV f n l d m k (uZ t 2 0) (uZ z 2 0) := by
  obtain ⟨⟨t0, t1, t2, t3, t4, t5, t7, t8, t9, t6⟩, hk, hm, hF, hX, hT, h56⟩ := h
  have E : ∀ (x : Int → Int) i, i ≠ 2 → uZ x 2 0 i = x i := fun x i hi => uZ_ne hi
  unfold LV
  rw [E t 10 (by omega), E t 11 (by omega), E z 3 (by omega), E z 5 (by omega)]
  refine ⟨⟨?_, ?_, by rw [uZ_at, uZ_at], ?_, ?_, ?_, ?_, ?_, ?_, fun q => ?_⟩, fun r r0 r1 => ?_, RMm_z hm (E z 3 (by omega)) (fun r r0 => E z _ (by omega)), LF_z hF (by rw [E z 4 (by omega)]; exact Int.le_refl _) (fun r r0 r1 _ => ⟨by rw [E z 3 (by omega)]; exact r1, E z _ (by omega)⟩) (fun r r0 r1 _ => ⟨by rw [E z 3 (by omega)] at r1; exact r1, E z _ (by omega)⟩) (fun r r0 r1 => E z _ (by omega)), ⟨fun q => hX.1 (by rw [E z 5 (by omega)] at q; exact q), fun q => hX.2 (by rw [E z 5 (by omega)] at q; exact q)⟩, hT, h56⟩
  · rw [E t 0 (by omega), E z 0 (by omega)]; exact t0
  · rw [E t 1 (by omega), E z 1 (by omega)]; exact t1
  · rw [E t 3 (by omega), E z 3 (by omega)]; exact t3
  · rw [E t 4 (by omega), E z 4 (by omega)]; exact t4
  · rw [E t 5 (by omega), E z 5 (by omega)]; exact t5
  · rw [E t 7 (by omega), E z 7 (by omega)]; exact t7
  · rw [E t 8 (by omega), E z 8 (by omega)]; exact t8
  · rw [E t 9 (by omega), E z 9 (by omega)]; exact t9
  · rw [E z 5 (by omega)] at q
    rw [E t 6 (by omega), E z 6 (by omega)]; exact t6 q
  · rw [E z _ (by omega)]; exact hk r r0 r1
