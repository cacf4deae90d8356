/-! ===== the law's merge: a begin, a step, its close ===== -/
theorem LF_few {l : Int → Int} {T : Int} (h : ∀ i, 0 ≤ i → i < T → 0 < l i) (h0 : 0 ≤ T) : T ≤ sumI l T.toNat := by
  have key : ∀ j : Nat, (j : Int) ≤ T → (j : Int) ≤ sumI l j := by
    intro j
    induction j with
    | zero => intro _; exact Int.le_refl _
    | succ j ih =>
      intro hj
      have := ih (by omega)
      have := h j (by omega) (by omega)
      rw [sumI]; omega
  have := key T.toNat (by omega)
  omega
theorem Vz_mem0 {m z : Int → Int} (hz : Vz z) (h2 : z 2 = 0) : RMm m 0 z := by
  have h3 := hz.1.1
  obtain ⟨_, _, _, _, _, hm, _⟩ := hz
  exact RMm_none ((rowsAt_0 h3).mp (hm h2))
theorem LV_t11 {f n l d m k t z : Int → Int} (hz : Vz z) (h2 : z 2 = 0) (h : LV f n l d m k t z) : t 11 = 0 := by
  rw [← RMm_len h.2.2.1 hz.1.1]
  obtain ⟨_, _, _, _, _, hm, _⟩ := hz
  exact hm h2
theorem LV_begin {f n l d d' m k t z : Int → Int} {N : Int} (hz : Vz z) (h : LV f n l d m k t z) (h5 : z 5 = 0) (h2 : z 2 = 0) (eN : N = begN z) (hN : 1 ≤ N) (hd : LF f n l d' (t 10) (bgI (uZ z 6 N) N.toNat)) (hk : ∀ i, 0 ≤ i → i < t 10 → 0 < l i ∧ (d' i = 0 ∨ d' i = 1)) : LV f (uZ n (t 10) (-1)) (uZ l (t 10) 0) (uZ d' (t 10) 2) m k (uZ (uZ (uZ (uZ t 6 N) 10 (t 10 + 1)) 5 1) 8 (t 8 + 1)) (begZ z) := by
  have hb := hz.1
  have hB : Vz (begZ z) := begZ_Vz hz h2 h5 (by omega)
  have t11 := LV_t11 hz h2 h
  have hS := (LV_sum hb h).1
  have hfl := LV_files h h5
  obtain ⟨⟨t0, t1, t2, t3, t4, t5, t7, t8, t9, t6⟩, hkk, hm, hF, hX, hT, h56⟩ := h
  have bl : ∀ i, i < 250 → i ≠ 5 → i ≠ 6 → i ≠ 8 → begZ z i = z i := fun i a b c e => begZ_lo hb a b c e
  have b3 := bl 3 (by omega) (by omega) (by omega) (by omega)
  have E : ∀ i, i ≠ 6 → i ≠ 10 → i ≠ 5 → i ≠ 8 → uZ (uZ (uZ (uZ t 6 N) 10 (t 10 + 1)) 5 1) 8 (t 8 + 1) i = t i := fun i a b c e => by rw [uZ_ne e, uZ_ne c, uZ_ne b, uZ_ne a]
  have e10 : uZ (uZ (uZ (uZ t 6 N) 10 (t 10 + 1)) 5 1) 8 (t 8 + 1) 10 = t 10 + 1 := by rw [uZ_ne (by omega), uZ_ne (by omega), uZ_at]
  have eb : begZ z = uZ (uZ (bgI (uZ z 6 N) N.toNat) 5 1) 8 (z 8 + 1) := by rw [eN]; rfl
  unfold LV
  rw [e10, E 11 (by omega) (by omega) (by omega) (by omega), b3, begZ_5, t11]
  refine ⟨⟨?_, ?_, ?_, ?_, ?_, ?_, ?_, ?_, ?_, fun q => ?_⟩, fun r r0 r1 => ?_, Vz_mem0 hB (by rw [bl 2 (by omega) (by omega) (by omega) (by omega)]; exact h2), ?_, ⟨fun q => by rw [begZ_5] at q; omega, fun _ => ⟨by omega, ?_, fun i a b => ?_⟩⟩, by omega, h56⟩
  · rw [E 0 (by omega) (by omega) (by omega) (by omega), bl 0 (by omega) (by omega) (by omega) (by omega)]; exact t0
  · rw [E 1 (by omega) (by omega) (by omega) (by omega), bl 1 (by omega) (by omega) (by omega) (by omega)]; exact t1
  · rw [E 2 (by omega) (by omega) (by omega) (by omega), bl 2 (by omega) (by omega) (by omega) (by omega)]; exact t2
  · rw [E 3 (by omega) (by omega) (by omega) (by omega), b3]; exact t3
  · rw [E 4 (by omega) (by omega) (by omega) (by omega), bl 4 (by omega) (by omega) (by omega) (by omega)]; exact t4
  · rw [uZ_ne (by omega), uZ_at, begZ_5]
  · rw [E 7 (by omega) (by omega) (by omega) (by omega), bl 7 (by omega) (by omega) (by omega) (by omega)]; exact t7
  · rw [uZ_at, begZ_8, t8]
  · rw [E 9 (by omega) (by omega) (by omega) (by omega), bl 9 (by omega) (by omega) (by omega) (by omega)]; exact t9
  · rw [uZ_ne (by omega), uZ_ne (by omega), uZ_ne (by omega), uZ_at, begZ_6 hb, eN]
  · rw [bl _ (by have := hb.2.1; omega) (by omega) (by omega) (by omega)]; exact hkk r r0 r1
  · have q := LF_more (n' := uZ n (t 10) (-1)) (l' := uZ l (t 10) 0) (d' := uZ d' (t 10) 2) hd hT.1 (fun i a b => ⟨uZ_ne (by omega), fun _ => ⟨uZ_ne (by omega), uZ_ne (by omega)⟩⟩) uZ_at
    have g : ∀ i, i ≠ 5 → i ≠ 8 → begZ z i = bgI (uZ z 6 N) N.toNat i := fun i a b => by rw [eb, uZ_ne b, uZ_ne a]
    exact LF_z q (by rw [g 4 (by omega) (by omega)]; exact Int.le_refl _) (fun r r0 r1 _ => ⟨by rw [g 3 (by omega) (by omega)]; exact r1, g _ (by omega) (by omega)⟩) (fun r r0 r1 _ => ⟨by rw [← g 3 (by omega) (by omega)]; exact r1, g _ (by omega) (by omega)⟩) (fun r r0 r1 => g _ (by omega) (by omega))
  · rw [show t 10 + 1 - 1 = t 10 by omega, uZ_at]
  · rw [show t 10 + 1 - 1 = t 10 by omega] at b
    rw [uZ_ne (by omega), uZ_ne (by omega)]
    have := hk i a b
    rcases this.2 with w | w
    · exact Or.inr ⟨w, this.1⟩
    · exact Or.inl w
section LSTP
variable {f f' n l l' d m k c t z : Int → Int} {a : Int}
/-- the last row of the output -/
theorem LF_last (hb : Vb z) (h : LF f n l d (t 10) z) (hT : 0 < t 10) (hd : d (t 10 - 1) = 2) (hd2 : ∀ i, 0 ≤ i → i < t 10 - 1 → d i ≠ 2) : (loV z ≠ -6 ↔ 0 < l (t 10 - 1)) ∧ (0 < l (t 10 - 1) → loV z = f (sumI l (t 10).toNat - 1) ∧ (0 ≤ loV z ∧ loV z < z 3) ∧ z (250 + loV z) = 2) := by
  have h3 := hb.1
  have eall : sumI l (t 10).toNat = sumI l (t 10 - 1).toNat + l (t 10 - 1) := by
    have := sumI_S (f := l) (r := t 10 - 1) (by omega)
    rw [show t 10 - 1 + 1 = t 10 by omega] at this
    exact this
  have l0 := h.1 (t 10 - 1) (by omega) (by omega)
  have sp := loV_spec (z := z) h3
  have no : l (t 10 - 1) = 0 → rowsAt z 2 = 0 := fun w => (rowsAt_0 h3).mpr (fun r r0 r1 r2 => by
    obtain ⟨i, i1, i2, i3, i4⟩ := h.2.2.2 r r0 r1 (Or.inl r2)
    have ii : i ≠ t 10 - 1 := fun q => by rw [q] at i3; omega
    have nd := hd2 i i1 (by omega)
    obtain ⟨b1, b2, _⟩ := h.2.1 i i1 i2 i3
    have := b2 nd
    rw [pF_n nd] at i4
    omega)
  have yes : 0 < l (t 10 - 1) → FL f z 2 (sumI l (t 10 - 1).toNat) (l (t 10 - 1)) := fun w => by
    have := (h.2.1 (t 10 - 1) (by omega) (by omega) w).2.2
    rw [pF_2 hd] at this
    exact this
  refine ⟨⟨fun q => ?_, fun q => ?_⟩, fun q => ?_⟩
  · rcases Int.lt_or_eq_of_le l0 with w | w
    · exact w
    · rcases sp with ⟨s1, _⟩ | ⟨s1, s2, s3, _⟩
      · exact absurd s1 q
      · exact absurd s3 ((rowsAt_0 h3).mp (no w.symm) _ s1 s2)
  · rcases sp with ⟨_, s2⟩ | ⟨s1, _⟩
    · have := FL_len (yes q) (by omega) h3
      omega
    · omega
  · have F := yes q
    rcases sp with ⟨_, s2⟩ | ⟨s1, s2, s3, s4⟩
    · have := FL_len F (by omega) h3
      omega
    · refine ⟨?_, ⟨s1, s2⟩, s3⟩
      obtain ⟨x, x1, x2, x3⟩ := F.2.2 _ s1 s2 s3
      rcases Int.lt_trichotomy x (sumI l (t 10).toNat - 1) with w | w | w
      · have o := F.2.1 x (sumI l (t 10).toNat - 1) x1 w (by omega)
        obtain ⟨u1, u2, u3⟩ := F.1 (sumI l (t 10).toNat - 1) (by omega) (by omega)
        rw [x3] at o
        have := s4 _ u1 u2 u3
        unfold bef at o
        omega
      · rw [← w]; exact x3.symm
      · omega
theorem LV_same (hz : Vz z) (hri : 0 < riZ z) (h : LF f n l d (t 10) z) (ha : 0 ≤ a ∧ a < t 10) (hl : 0 < l a) (he : frV z = f (sumI l a.toNat)) (hf : ∀ q, q < sumI l (t 10).toNat - 1 → (q < sumI l a.toNat → f' q = f q) ∧ (sumI l a.toNat ≤ q → f' q = f (q + 1))) (hc : z 1 = 1 ∧ loV z ≠ -6 ∧ z (10 + loV z) = z (10 + frV z)) : LF f' n (uZ l a (l a - 1)) d (t 10) (stp0 z) := by
  have hb := hz.1
  obtain ⟨y1, y2, y3, y4⟩ := frV_spec hri
  have hlo : loV z = -6 ∨ (0 ≤ loV z ∧ loV z < z 3) := by
    rcases loV_spec (z := z) hb.1 with ⟨s1, _⟩ | ⟨s1, s2, _⟩
    · exact Or.inl s1
    · exact Or.inr ⟨s1, s2⟩
  have lo : ∀ i, i < 130 → i ≠ 7 → stp0 z i = z i := fun i g1 g2 => stp0_lo y1 (by omega) g1 g2
  have pl : ∀ r, 0 ≤ r → r < z 3 → stp0 z (250 + r) = if r = frV z then 0 else z (250 + r) := fun r r0 r1 => by
    rw [stp0_pl hb.2.1 y1 y2 hlo r0 r1, if_pos hc]
  exact LF_take h ha hl he hf (lo 3 (by omega) (by omega)) (lo 4 (by omega) (by omega)) (by rw [pl _ y1 y2, if_pos rfl]; omega) (fun r r0 r1 r2 => by rw [pl r r0 r1, if_neg r2]) (fun r r0 r1 => lo _ (by have := hb.2.1; omega) (by omega))
theorem LV_diff (hz : Vz z) (hri : 0 < riZ z) (h : LF f n l d (t 10) z) (hd : d (t 10 - 1) = 2) (hd2 : ∀ i, 0 ≤ i → i < t 10 - 1 → d i ≠ 2) (ha : 0 ≤ a ∧ a < t 10) (hl : 0 < l a) (hda : d a = 1) (he : frV z = f (sumI l a.toNat)) (hf : ∀ q, q < sumI l (t 10).toNat - 1 → (q < sumI l a.toNat → f' q = f q) ∧ (sumI l a.toNat ≤ q → f' q = f (q + 1))) (hc : ¬ (z 1 = 1 ∧ loV z ≠ -6 ∧ z (10 + loV z) = z (10 + frV z))) : LF (uZ f' (sumI l (t 10).toNat - 1) (frV z)) n (uZ (uZ l a (l a - 1)) (t 10 - 1) (uZ l a (l a - 1) (t 10 - 1) + 1)) d (t 10) (stp0 z) := by
  have hb := hz.1
  have h120 := hb.2.1
  obtain ⟨y1, y2, y3, y4⟩ := frV_spec hri
  have hx := hz
  obtain ⟨_, _, _, _, _, _, _, _, _, vX⟩ := hx
  have hlo : loV z = -6 ∨ (0 ≤ loV z ∧ loV z < z 3) := by
    rcases loV_spec (z := z) hb.1 with ⟨s1, _⟩ | ⟨s1, s2, _⟩
    · exact Or.inl s1
    · exact Or.inr ⟨s1, s2⟩
  have lo : ∀ i, i < 130 → i ≠ 7 → stp0 z i = z i := fun i g1 g2 => stp0_lo y1 (by omega) g1 g2
  have pl : ∀ r, 0 ≤ r → r < z 3 → stp0 z (250 + r) = if r = frV z then 2 else z (250 + r) := fun r r0 r1 => by
    rw [stp0_pl hb.2.1 y1 y2 hlo r0 r1, if_neg hc]
  have q := LF_take (z' := uZ z (250 + frV z) 0) h ha hl he hf (uZ_ne (by omega)) (uZ_ne (by omega)) (by rw [uZ_at]; omega) (fun r r0 r1 r2 => uZ_ne (by omega)) (fun r r0 r1 => uZ_ne (by omega))
  have es : sumI (uZ l a (l a - 1)) (t 10).toNat = sumI l (t 10).toNat - 1 := by
    rw [sumI_upd2 ha.1 (by omega), if_pos ha.2]; omega
  refine LF_put (x := frV z) q (by omega) hd hd2 (fun g g1 => uZ_ne (by omega)) (by rw [es, uZ_at]) (by rw [uZ_ne (by omega)]; exact ⟨y1, y2⟩) (by rw [uZ_at]; omega) (fun r r0 r1 r2 => ?_) (by rw [uZ_ne (by omega)]; exact lo 3 (by omega) (by omega)) (by rw [uZ_ne (by omega)]; exact lo 4 (by omega) (by omega)) (by rw [pl _ y1 y2, if_pos rfl]) (fun r r0 r1 r2 => ?_) (fun r r0 r1 => ?_)
  · rw [uZ_ne (by omega)] at r1
    have rx : r ≠ frV z := fun w => by rw [w, uZ_at] at r2; omega
    rw [uZ_ne (by omega)] at r2
    have := vX r (frV z) r0 r1 y1 y2 r2 y3
    exact (bef_ext (uZ_ne (by omega)) (uZ_ne (by omega))).mpr this
  · rw [uZ_ne (by omega)] at r1
    rw [uZ_ne (by omega), pl r r0 r1, if_neg r2]
  · rw [uZ_ne (by omega)] at r1
    rw [uZ_ne (by omega)]
    exact lo _ (by omega) (by omega)
/-- behind a step that leaves rows in the inputs -/
theorem LV_on {f1 l1 t1 : Int → Int} (hz : Vz z) (h5 : z 5 = 1) (h : LV f n l d m k t z) (hri : 0 < riZ z) (hr2 : 0 < riZ (stp0 z)) (hF : LF f1 n l1 d (t 10) (stp0 z)) (hl : ∀ i, 0 ≤ i → i < t 10 → d i = 0 → l1 i = l i) (e7 : t1 7 = stp0 z 7) (eo : ∀ i, i ≠ 7 → t1 i = t i) : LV f1 n l1 d m k t1 (stp0 z) := by
  have hb := hz.1
  obtain ⟨y1, y2, _, _⟩ := frV_spec hri
  have hlo : loV z = -6 ∨ 0 ≤ loV z := by
    rcases loV_spec (z := z) hb.1 with ⟨s1, _⟩ | ⟨s1, _⟩
    · exact Or.inl s1
    · exact Or.inr s1
  have h2 : z 2 = 0 := by
    have hz' := hz
    obtain ⟨_, ⟨_, _, w, _⟩, _, _, w2, _⟩ := hz'
    rcases w with w | w
    · exact w
    · have := (w2 w).1; omega
  have t11 := LV_t11 hz h2 h
  have hq := VzQ_Vz (stp0_all hz hri).1 hr2
  obtain ⟨⟨t0, t1', t2, t3, t4, t5, t7, t8, t9, t6⟩, hkk, hm, _, hX, hT, h56⟩ := h
  have lo : ∀ i, i < 130 → i ≠ 7 → stp0 z i = z i := fun i g1 g2 => stp0_lo y1 hlo g1 g2
  have e5 := lo 5 (by omega) (by omega)
  obtain ⟨x1, x2, x3⟩ := hX.2 h5
  unfold LV
  rw [eo 10 (by omega), eo 11 (by omega), lo 3 (by omega) (by omega), e5, t11]
  refine ⟨⟨?_, ?_, ?_, ?_, ?_, ?_, e7, ?_, ?_, fun q => ?_⟩, fun r r0 r1 => ?_, Vz_mem0 hq (by rw [lo 2 (by omega) (by omega)]; exact h2), hF, ⟨fun q => by omega, fun _ => ⟨x1, x2, fun i a b => ?_⟩⟩, hT, h56⟩
  · rw [eo 0 (by omega), lo 0 (by omega) (by omega)]; exact t0
  · rw [eo 1 (by omega), lo 1 (by omega) (by omega)]; exact t1'
  · rw [eo 2 (by omega), lo 2 (by omega) (by omega)]; exact t2
  · rw [eo 3 (by omega), lo 3 (by omega) (by omega)]; exact t3
  · rw [eo 4 (by omega), lo 4 (by omega) (by omega)]; exact t4
  · rw [eo 5 (by omega), e5]; exact t5
  · rw [eo 8 (by omega), lo 8 (by omega) (by omega)]; exact t8
  · rw [eo 9 (by omega), lo 9 (by omega) (by omega)]; exact t9
  · rw [eo 6 (by omega), lo 6 (by omega) (by omega)]; exact t6 h5
  · rw [lo _ (by have := hb.2.1; omega) (by omega)]; exact hkk r r0 r1
  · rcases x3 i a b with w | ⟨w, w2⟩
    · exact Or.inl w
    · exact Or.inr ⟨w, by rw [hl i a (by omega) w]; exact w2⟩
/-- behind files without rows: all are runs -/
theorem LV_done {z' n1 l1 d1 f1 t1 : Int → Int} (hz : Vz z') (h5 : z' 5 = 0) (h2 : z' 2 = 0) (h56 : z' 3 ≤ 56) (hF : LF f1 n1 l1 d1 (t1 10) z') (hT : 0 ≤ t1 10) (hl : ∀ i, 0 ≤ i → i < t1 10 → d1 i = 0 ∧ 0 < l1 i) (ht : LSc t1 z') (t11 : t1 11 = 0) (hk : ∀ r, 0 ≤ r → r < z' 3 → k r = z' (10 + r)) : LV f1 n1 l1 d1 m k t1 z' := by
  have hm := Vz_mem0 (m := m) hz h2
  have e := LF_thr hz.1 hF hm
  have := (thrZ_le hz.1.1).2
  have := LF_few (fun i a b => (hl i a b).2) hT
  unfold LV
  rw [t11, h5]
  exact ⟨ht, hk, hm, hF, ⟨fun _ => hl, fun q => by omega⟩, by omega, h56⟩
end LSTP
