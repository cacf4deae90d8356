/-! ===== what holds of the row z is kept by the calls: grants, additions, combine ===== -/
theorem uZ_comm {f : Int → Int} {i j v w : Int} (h : i ≠ j) : uZ (uZ f i v) j w = uZ (uZ f j w) i v := by
  funext k
  unfold uZ
  by_cases a : k = i
  · rw [if_pos a, if_pos a, if_neg (by omega)]
  · rw [if_neg a, if_neg a]
theorem becm_u0 {z : Int → Int} {p v : Int} : becm (uZ z 0 v) p = uZ (becm z p) 0 v := by
  funext k
  have e : ∀ j, j ≠ 0 → uZ z 0 v j = z j := fun j h => uZ_ne h
  by_cases a : k = 0
  · rw [a, uZ_at, becm_lo (by omega) (by omega), uZ_at]
  · rw [uZ_ne a]
    unfold becm
    rw [e 4 (by omega), e 3 (by omega), e k a]
theorem rowsAt_u0 {z : Int → Int} {v p : Int} : rowsAt (uZ z 0 v) p = rowsAt z p := rowsAt_lo (by omega) (by omega)
theorem manyZ_u0 {z : Int → Int} {v k : Int} : manyZ (uZ z 0 v) k = manyZ z k := manyZ_lo (by omega) (by omega) (by omega)
theorem wriZ_u0 {z : Int → Int} {v : Int} : wriZ (uZ z 0 v) = uZ (wriZ z) 0 v := by
  unfold wriZ
  rw [rowsAt_u0, uZ_ne (by omega)]
  by_cases c : rowsAt z 1 = 0
  · rw [if_pos c, if_pos c]
  · rw [if_neg c, if_neg c, uZ_comm (i := 0) (by omega), becm_u0]
theorem cutZ_lo {z : Int → Int} {i : Int} (h : i < 250) (h4 : i ≠ 4) (h5 : i ≠ 5) (h9 : i ≠ 9) : cutZ z i = z i := by
  unfold cutZ
  rw [if_neg h4, if_neg h5, if_neg h9, if_neg (by omega)]
theorem cutZ_4 {z : Int → Int} : cutZ z 4 = z 4 + pz (0 < rowsAt z 2) + manyZ z 1 := if_pos rfl
theorem cutZ_5 {z : Int → Int} : cutZ z 5 = 0 := by unfold cutZ; rw [if_neg (by omega), if_pos rfl]
theorem cutZ_9 {z : Int → Int} : cutZ z 9 = z 9 + 1 := by unfold cutZ; rw [if_neg (by omega), if_neg (by omega), if_pos rfl]
theorem cutZ_pl {z : Int → Int} {r : Int} (h0 : 0 ≤ r) (h : r < z 3) : cutZ z (250 + r) = if z (250 + r) = 2 then 10 + 2 * z 4 else if 11 ≤ z (250 + r) ∧ z (250 + r) % 2 = 1 then 10 + 2 * (z 4 + pz (0 < rowsAt z 2) + rnkZ z (z (250 + r))) else z (250 + r) := by
  unfold cutZ
  rw [if_neg (by omega), if_neg (by omega), if_neg (by omega), if_pos (by omega)]
theorem rnkZ_nn {z : Int → Int} {p : Int} : 0 ≤ rnkZ z p := sumI_nn (fun r _ => pz_nn _)
theorem cutZ_Vb {z : Int → Int} (hz : Vb z) (h : z 4 + 1 + manyZ z 1 ≤ 900000000) : Vb (cutZ z) := by
  have h4 := hz.2.2.1
  have hp := pz_01 (0 < rowsAt z 2)
  rw [← ctF_end hz]
  exact Vb_lo (Vb_lo (ctF_Vb hz h4 (by show z 4 + pz (0 < rowsAt z 2) + manyZ z 1 ≤ 900000000; omega)) (by omega) (by omega) (by omega)) (by omega) (by omega) (by omega)
theorem cutZ_Vz {z : Int → Int} (hz : Vz z) (h5 : z 5 = 1) (h : z 4 + 1 + manyZ z 1 ≤ 900000000) : Vz (cutZ z) := by
  have hz' := hz
  obtain ⟨hb, ⟨s0, s1, s2, s5, s6, s7, s8, s9⟩, hr, hs, hc, hm, ho, hi, hd, hx⟩ := hz'
  have ⟨v1, v2, v3, v4, v5⟩ := hb
  have h2 : z 2 = 0 := by
    rcases s2 with q | q
    · exact q
    · have := (hc q).1; omega
  have E : ∀ i, i < 250 → i ≠ 4 → i ≠ 5 → i ≠ 9 → cutZ z i = z i := fun i a b c d => cutZ_lo a b c d
  have P : ∀ r, 0 ≤ r → r < z 3 → cutZ z (250 + r) = if z (250 + r) = 2 then 10 + 2 * z 4 else if 11 ≤ z (250 + r) ∧ z (250 + r) % 2 = 1 then 10 + 2 * (z 4 + pz (0 < rowsAt z 2) + rnkZ z (z (250 + r))) else z (250 + r) := fun r a b => cutZ_pl a b
  have hp := pz_nn (0 < rowsAt z 2)
  have e3 := E 3 (by omega) (by omega) (by omega) (by omega)
  have r1 : rowsAt (cutZ z) 1 = rowsAt z 1 := rowsAt_cong e3 (fun r a b => by
    have := rnkZ_nn (z := z) (p := z (250 + r))
    rw [P r a b]; split
    · omega
    · split <;> omega)
  have r2 : rowsAt (cutZ z) 2 = 0 := (rowsAt_0 (by rw [e3]; exact v1)).mpr (fun r a b c => by
    rw [e3] at b
    have := rnkZ_nn (z := z) (p := z (250 + r))
    rw [P r a b] at c
    split at c
    · omega
    · split at c <;> omega)
  have ri : riZ (cutZ z) = 0 := (riZ_0 (by rw [e3]; exact v1)).mpr (fun r a b c => by
    rw [e3] at b
    rw [P r a b] at c
    split at c
    · omega
    · split at c <;> omega)
  refine Vz_move hz (cutZ_Vb hb h) e3 ?_ (fun r a b => ?_) (fun q => ?_) (fun q => by rw [r1]; exact hm h2) (fun q => r2) ?_ (VzX_none r2 (by rw [e3]; exact v1))
  · rw [E 0 (by omega) (by omega) (by omega) (by omega), E 1 (by omega) (by omega) (by omega) (by omega), E 2 (by omega) (by omega) (by omega) (by omega), cutZ_5, E 6 (by omega) (by omega) (by omega) (by omega), E 7 (by omega) (by omega) (by omega) (by omega), E 8 (by omega) (by omega) (by omega) (by omega), cutZ_9]
    exact ⟨s0, rfl, s2, Or.inl rfl, s6, s7, s8, by omega⟩
  · have := v5 r a b
    have := rnkZ_nn (z := z) (p := z (250 + r))
    rw [E (10 + r) (by omega) (by omega) (by omega) (by omega), E (130 + r) (by omega) (by omega) (by omega) (by omega), P r a b]
    refine ⟨rfl, rfl, ?_, ?_⟩
    · split
      · omega
      · split <;> omega
    · split
      · omega
      · split <;> omega
  · rw [E 2 (by omega) (by omega) (by omega) (by omega)] at q
    omega
  · rw [cutZ_5, ri]; omega
theorem Vz_u0 {z : Int → Int} {v : Int} (hz : Vz z) (hv : 2 ≤ v ∧ v ≤ 20) (h : z 2 = 1 → rowsAt z 1 ≤ v) : Vz (uZ z 0 v) := by
  have hz' := hz
  obtain ⟨hb, ⟨s0, s1, s2, s5, s6, s7, s8, s9⟩, hr, hs, hc, hm, ho, hi, hd, hx⟩ := hz'
  have e : ∀ j, j ≠ 0 → uZ z 0 v j = z j := fun j h => uZ_ne h
  have ri : riZ (uZ z 0 v) = riZ z := riZ_cong (e 3 (by omega)) (fun r _ _ => by rw [e _ (by omega)])
  refine Vz_move hz (Vb_lo hb (by omega) (by omega) (by omega)) (e 3 (by omega)) ?_ (fun r a b => ?_) (fun q => ?_) (fun q => ?_) (fun q => ?_) ?_ ?_
  · rw [uZ_at, e 1 (by omega), e 2 (by omega), e 5 (by omega), e 6 (by omega), e 7 (by omega), e 8 (by omega), e 9 (by omega)]
    exact ⟨hv, rfl, s2, s5, s6, s7, s8, s9⟩
  · rw [e _ (by omega), e _ (by omega), e _ (by omega)]
    exact ⟨rfl, rfl, Iff.rfl, fun q => q⟩
  · rw [e 2 (by omega)] at q
    rw [e 5 (by omega), rowsAt_u0, uZ_at]
    exact ⟨(hc q).1, h q⟩
  · rw [e 2 (by omega)] at q
    rw [rowsAt_u0]; exact hm q
  · rw [e 5 (by omega)] at q
    rw [rowsAt_u0]; exact ho q
  · rw [e 5 (by omega), ri]; exact hi
  · intro a b a1 a2 b1 b2 p1 p2
    rw [e 3 (by omega)] at a2 b2
    rw [e _ (by omega)] at p1 p2
    have := hx a b a1 a2 b1 b2 p1 p2
    unfold bef at *
    rw [e (10 + a) (by omega), e (10 + b) (by omega)]
    exact this
theorem graZ_Vz {z : Int → Int} {v : Int} (hz : Vz z) (hv : 2 ≤ v ∧ v ≤ 20) (h : z 4 + 1 + manyZ z 1 ≤ 900000000) : Vz (graZ z v) ∧ z 4 ≤ graZ z v 4 ∧ graZ z v 4 ≤ z 4 + 121 ∧ z 7 ≤ graZ z v 7 ∧ graZ z v 7 ≤ z 7 + 120 ∧ graZ z v 8 = z 8 ∧ z 9 ≤ graZ z v 9 ∧ graZ z v 9 ≤ z 9 + 1 ∧ graZ z v 3 = z 3 ∧ graZ z v 0 = v ∧ graZ z v 2 = z 2 := by
  have ⟨v1, v2, v3, v4, v5⟩ := hz.1
  have hmn := manyZ_nn (z := z) (k := 1) v3
  have hmr := runs_rows (kind := 1) hz.1
  have hra := rowsAt_le (z := z) (p := 1) v1
  have hp := pz_01 (0 < rowsAt z 2)
  have hp1 := pz_01 (0 < rowsAt z 1)
  unfold graZ
  by_cases c : z 2 = 1 ∧ v < rowsAt z 1
  · rw [if_pos c, wriZ_u0]
    have hw := wriZ_Vz hz (by omega)
    have r1 : rowsAt (wriZ z) 1 = 0 := (rowsAt_0 (by rw [wriZ_lo (by omega) (by omega) (by omega)]; exact v1)).mpr (fun r a b e => by
      rw [wriZ_lo (by omega) (by omega) (by omega)] at b
      rw [wriZ_pl v1 a b] at e
      split at e <;> omega)
    refine ⟨Vz_u0 hw hv (fun _ => by omega), ?_⟩
    have e : ∀ j, j ≠ 0 → uZ (wriZ z) 0 v j = wriZ z j := fun j h => uZ_ne h
    rw [e 4 (by omega), e 7 (by omega), e 8 (by omega), e 9 (by omega), e 3 (by omega), e 2 (by omega), uZ_at, wriZ_4 v1, wriZ_7, wriZ_lo (i := 8) (by omega) (by omega) (by omega), wriZ_lo (i := 9) (by omega) (by omega) (by omega), wriZ_lo (i := 3) (by omega) (by omega) (by omega), wriZ_lo (i := 2) (by omega) (by omega) (by omega)]
    omega
  · rw [if_neg c]
    have hu := Vz_u0 hz hv (fun q => by omega)
    have e : ∀ j, j ≠ 0 → uZ z 0 v j = z j := fun j h => uZ_ne h
    by_cases d : z 5 = 1 ∧ waysZ v < manyZ z 1
    · rw [if_pos d]
      refine ⟨cutZ_Vz hu (by rw [e 5 (by omega)]; exact d.1) (by rw [e 4 (by omega), manyZ_u0]; exact h), ?_⟩
      rw [cutZ_4, cutZ_lo (i := 7) (by omega) (by omega) (by omega) (by omega), cutZ_lo (i := 8) (by omega) (by omega) (by omega) (by omega), cutZ_9, cutZ_lo (i := 3) (by omega) (by omega) (by omega) (by omega), cutZ_lo (i := 0) (by omega) (by omega) (by omega) (by omega), cutZ_lo (i := 2) (by omega) (by omega) (by omega) (by omega), rowsAt_u0, manyZ_u0, e 4 (by omega), e 7 (by omega), e 8 (by omega), e 9 (by omega), e 3 (by omega), e 2 (by omega), uZ_at]
      omega
    · rw [if_neg d]
      refine ⟨hu, ?_⟩
      rw [e 4 (by omega), e 7 (by omega), e 8 (by omega), e 9 (by omega), e 3 (by omega), e 2 (by omega), uZ_at]
      omega
theorem Vz_add {w z' : Int → Int} (hw : Vz w) (h3 : w 3 < 120) (h2 : w 2 = 1) (e3 : z' 3 = w 3 + 1) (elo : ∀ i, i < 10 → i ≠ 3 → z' i = w i) (ek : ∀ r, 0 ≤ r → r < w 3 → z' (10 + r) = w (10 + r) ∧ z' (250 + r) = w (250 + r) ∧ 0 ≤ z' (130 + r) ∧ (z' (130 + r) = 0 ↔ w (130 + r) = 0)) (nk : 0 ≤ z' (10 + w 3) ∧ z' (10 + w 3) ≤ 999) (np : z' (250 + w 3) = 0 ∧ z' (130 + w 3) = 0 ∨ z' (250 + w 3) = 1 ∧ z' (130 + w 3) = 1 ∧ rowsAt w 1 < w 0 ∧ ∀ r, 0 ≤ r → r < w 3 → w (250 + r) = 1 → w 1 = 1 → w (10 + r) ≠ z' (10 + w 3)) (hs : sumI (fun r => z' (130 + r)) (w 3 + 1).toNat = w 3 + 1) : Vz z' := by
  obtain ⟨⟨v1, v2, v3, v4, v5⟩, ⟨s0, s1, s2, s5, s6, s7, s8, s9⟩, hr, _, hc, hm, ho, hi, hd, hx⟩ := hw
  have old : ∀ r, 0 ≤ r → r < z' 3 → r < w 3 ∨ r = w 3 := fun r a b => by omega
  have rw1 : ∀ p, rowsAt z' p = rowsAt w p + pz (z' (250 + w 3) = p) := fun p => by
    unfold rowsAt
    rw [e3, sumI_S v1]
    congr 1
    exact sumI_cong (fun r hr => by rw [(ek r (by omega) (by omega)).2.1])
  have ri : riZ z' = riZ w := by
    unfold riZ
    rw [e3, sumI_S v1]
    have : pz (11 ≤ z' (250 + w 3) ∧ z' (250 + w 3) % 2 = 1) = 0 := pz_f (by omega)
    rw [this, Int.add_zero]
    exact sumI_cong (fun r hr => by rw [(ek r (by omega) (by omega)).2.1])
  have h50 := (hc h2).1
  have r2 : rowsAt z' 2 = 0 := by
    rw [rw1, ho h50, pz_f (by omega)]; rfl
  refine ⟨⟨by omega, by omega, by rw [elo 4 (by omega) (by omega)]; exact v3, by rw [elo 4 (by omega) (by omega)]; exact v4, fun r a b => ?_⟩, ?_, fun r a b => ?_, by rw [e3]; exact hs, fun q => ?_, fun q => ?_, fun _ => r2, ?_, fun q a b a1 a2 b1 b2 p1 p2 p3 => ?_, VzX_none r2 (by omega)⟩
  · rw [elo 4 (by omega) (by omega)]
    rcases old r a b with c | c
    · rw [(ek r a c).2.1]; exact v5 r a c
    · rw [c]; omega
  · rw [elo 0 (by omega) (by omega), elo 1 (by omega) (by omega), elo 2 (by omega) (by omega), elo 5 (by omega) (by omega), elo 6 (by omega) (by omega), elo 7 (by omega) (by omega), elo 8 (by omega) (by omega), elo 9 (by omega) (by omega)]
    exact ⟨s0, s1, s2, s5, s6, s7, s8, s9⟩
  · rcases old r a b with c | c
    · obtain ⟨k1, k2, k3, k4⟩ := ek r a c
      obtain ⟨f1, f2, f3⟩ := hr r a c
      rw [k1, k2]
      exact ⟨f1, k3, k4.trans f3⟩
    · rw [c]
      refine ⟨nk, ?_, ?_⟩ <;> omega
  · rw [elo 5 (by omega) (by omega), elo 0 (by omega) (by omega), rw1]
    refine ⟨h50, ?_⟩
    have := (hc h2).2
    rcases np with n | n
    · rw [pz_f (by omega)]; omega
    · rw [pz_t (by omega)]; omega
  · rw [elo 2 (by omega) (by omega)] at q; omega
  · rw [elo 5 (by omega) (by omega), ri]; exact hi
  · rw [elo 1 (by omega) (by omega)] at q
    rcases old a a1 a2 with c | c <;> rcases old b b1 b2 with d | d
    · obtain ⟨k1, k2, _⟩ := ek a a1 c
      obtain ⟨l1, l2, _⟩ := ek b b1 d
      exact hd q a b a1 c b1 d (by rw [← k2]; exact p1) (by rw [← l2]; exact p2) (by rw [← k1, ← l1]; exact p3)
    · obtain ⟨k1, k2, _⟩ := ek a a1 c
      rw [d] at p2 p3
      rcases np with n | n
      · omega
      · exact absurd (by rw [← k1]; exact p3) (n.2.2.2 a a1 c (by rw [← k2]; exact p1) q)
    · obtain ⟨k1, k2, _⟩ := ek b b1 d
      rw [c] at p1 p3
      rcases np with n | n
      · omega
      · exact absurd (by rw [← k1]; exact p3.symm) (n.2.2.2 b b1 d (by rw [← k2]; exact p2) q)
    · rw [c, d]
theorem addZ_Vz {z : Int → Int} {key : Int} (hz : Vz z) (hk : 0 ≤ key ∧ key ≤ 999) (h3 : z 3 < 120) (h2 : z 2 = 1) (h : z 4 + 1 ≤ 900000000) : Vz (addZ z key) ∧ z 4 ≤ addZ z key 4 ∧ addZ z key 4 ≤ z 4 + 1 ∧ z 7 ≤ addZ z key 7 ∧ addZ z key 7 ≤ z 7 + 120 ∧ addZ z key 8 = z 8 ∧ addZ z key 9 = z 9 ∧ addZ z key 3 = z 3 + 1 ∧ addZ z key 2 = 1 := by
  have hz' := hz
  obtain ⟨⟨v1, v2, v3, v4, v5⟩, ⟨s0, s1, s2, s5, s6, s7, s8, s9⟩, hr, hsum, hc, hm, ho, hi, hd, hx⟩ := hz'
  have hra := rowsAt_le (z := z) (p := 1) v1
  have hp1 := pz_01 (0 < rowsAt z 1)
  by_cases c : samV z key = -6
  · have hw : Vz (addW z key) := by unfold addW; split; exact wriZ_Vz hz h; exact hz
    have wlo : ∀ i, i < 250 → i ≠ 4 → i ≠ 7 → addW z key i = z i := fun i a b d => by unfold addW; split; exact wriZ_lo a b d; rfl
    have w1 : rowsAt (addW z key) 1 < z 0 ∧ (∀ r, 0 ≤ r → r < z 3 → addW z key (250 + r) = 1 → z (250 + r) = 1) := by
      unfold addW
      by_cases d : rowsAt z 1 = z 0
      · rw [if_pos ⟨c, d⟩]
        refine ⟨?_, fun r a b e => ?_⟩
        · have : rowsAt (wriZ z) 1 = 0 := (rowsAt_0 (by rw [wriZ_lo (by omega) (by omega) (by omega)]; exact v1)).mpr (fun r a b e => by
            rw [wriZ_lo (by omega) (by omega) (by omega)] at b
            rw [wriZ_pl v1 a b] at e
            split at e <;> omega)
          omega
        · rw [wriZ_pl v1 a b] at e
          split at e <;> omega
      · rw [if_neg (fun q => d q.2)]
        exact ⟨by have := (hc h2).2; omega, fun r a b e => e⟩
    have w4 : z 4 ≤ addW z key 4 ∧ addW z key 4 ≤ z 4 + 1 := by unfold addW; split; rw [wriZ_4 v1]; omega; omega
    have w7 : z 7 ≤ addW z key 7 ∧ addW z key 7 ≤ z 7 + 120 := by unfold addW; split; rw [wriZ_7]; omega; omega
    have e : addZ z key = uZ (uZ (uZ (uZ (addW z key) 3 (z 3 + 1)) (10 + z 3) key) (130 + z 3) 1) (250 + z 3) 1 := by unfold addZ; rw [if_pos c]
    have lo : ∀ i, i ≠ 3 → i ≠ 10 + z 3 → i ≠ 130 + z 3 → i ≠ 250 + z 3 → addZ z key i = addW z key i := fun i a b d f => by rw [e, uZ_ne f, uZ_ne d, uZ_ne b, uZ_ne a]
    have a3 : addZ z key 3 = z 3 + 1 := by rw [e, uZ_ne (by omega), uZ_ne (by omega), uZ_ne (by omega), uZ_at]
    have ak : addZ z key (10 + z 3) = key := by rw [e, uZ_ne (by omega), uZ_ne (by omega), uZ_at]
    have ac : addZ z key (130 + z 3) = 1 := by rw [e, uZ_ne (by omega), uZ_at]
    have ap : addZ z key (250 + z 3) = 1 := by rw [e, uZ_at]
    have x3 : addW z key 3 = z 3 := wlo 3 (by omega) (by omega) (by omega)
    refine ⟨Vz_add hw (by omega) (by rw [wlo 2 (by omega) (by omega) (by omega)]; exact h2) (by rw [a3, x3]) (fun i a b => lo i b (by omega) (by omega) (by omega)) (fun r a b => ?_) ?_ (Or.inr ⟨?_, ?_, ?_, fun r a b q1 q2 => ?_⟩) ?_, ?_⟩
    · have cc := (hw.2.2.1 r a (by omega)).2.1
      rw [lo _ (by omega) (by omega) (by omega) (by omega), lo _ (by omega) (by omega) (by omega) (by omega), lo _ (by omega) (by omega) (by omega) (by omega)]
      exact ⟨rfl, rfl, cc, Iff.rfl⟩
    · rw [x3, ak]; exact hk
    · rw [x3]; exact ap
    · rw [x3]; exact ac
    · rw [wlo 0 (by omega) (by omega) (by omega)]; exact w1.1
    · rw [x3] at b ⊢
      rw [ak, wlo _ (by omega) (by omega) (by omega)]
      rw [wlo 1 (by omega) (by omega) (by omega)] at q2
      intro q3
      unfold samV at c
      rw [if_pos q2] at c
      rcases samZ_spec (z := z) (k := key) (z 3).toNat with ⟨_, y⟩ | ⟨y, _⟩
      · refine y r.toNat (by omega) ?_
        rw [show ((r.toNat : Nat) : Int) = r by omega]
        exact ⟨w1.2 r a b q1, q3⟩
      · omega
    · rw [x3, sumI_S v1]
      have : addZ z key (130 + z 3) = 1 := ac
      rw [this]
      have : sumI (fun r => addZ z key (130 + r)) (z 3).toNat = sumI (fun r => z (130 + r)) (z 3).toNat := sumI_cong (fun r hr2 => by rw [lo _ (by omega) (by omega) (by omega) (by omega), wlo _ (by omega) (by omega) (by omega)])
      rw [this, hsum]
    · rw [lo 4 (by omega) (by omega) (by omega) (by omega), lo 7 (by omega) (by omega) (by omega) (by omega), lo 8 (by omega) (by omega) (by omega) (by omega), lo 9 (by omega) (by omega) (by omega) (by omega), lo 2 (by omega) (by omega) (by omega) (by omega), a3, wlo 8 (by omega) (by omega) (by omega), wlo 9 (by omega) (by omega) (by omega), wlo 2 (by omega) (by omega) (by omega)]
      omega
  · obtain ⟨q1, q2, q3, q4, q5⟩ := (samV_spec (z := z) (k := key) v1).resolve_left c
    have e := addZ_3 c
    have lo : ∀ i, i ≠ 3 → i ≠ 10 + z 3 → i ≠ 130 + z 3 → i ≠ 250 + z 3 → i ≠ 130 + samV z key → addZ z key i = z i := fun i a b d f g => by rw [e, uZ_ne g, uZ_ne f, uZ_ne d, uZ_ne b, uZ_ne a]
    have a3 : addZ z key 3 = z 3 + 1 := by rw [e, uZ_ne (by omega), uZ_ne (by omega), uZ_ne (by omega), uZ_ne (by omega), uZ_at]
    have ak : addZ z key (10 + z 3) = key := by rw [e, uZ_ne (by omega), uZ_ne (by omega), uZ_ne (by omega), uZ_at]
    have ac : addZ z key (130 + z 3) = 0 := by rw [e, uZ_ne (by omega), uZ_ne (by omega), uZ_at]
    have ap : addZ z key (250 + z 3) = 0 := by rw [e, uZ_ne (by omega), uZ_at]
    have as : addZ z key (130 + samV z key) = z (130 + samV z key) + 1 := by rw [e, uZ_at]
    have cs := hr _ q2 q3
    refine ⟨Vz_add hz h3 h2 a3 (fun i a b => lo i b (by omega) (by omega) (by omega) (by omega)) (fun r a b => ?_) (by rw [ak]; exact hk) (Or.inl ⟨ap, ac⟩) ?_, ?_⟩
    · have cc := hr r a b
      rw [lo _ (by omega) (by omega) (by omega) (by omega) (by omega), lo (250 + r) (by omega) (by omega) (by omega) (by omega) (by omega)]
      by_cases d : r = samV z key
      · rw [d, as]
        refine ⟨rfl, rfl, by omega, ?_⟩
        omega
      · rw [lo _ (by omega) (by omega) (by omega) (by omega) (by omega)]
        exact ⟨rfl, rfl, cc.2.1, Iff.rfl⟩
    · rw [sumI_S v1]
      have e1 : addZ z key (130 + z 3) = 0 := ac
      rw [e1]
      have e2 : sumI (fun r => addZ z key (130 + r)) (z 3).toNat = sumI (uZ (fun r => z (130 + r)) (samV z key).toNat (z (130 + samV z key) + 1)) (z 3).toNat := sumI_cong (fun r hr2 => by
        by_cases d : (r : Int) = samV z key
        · rw [d, as, show (((samV z key).toNat : Nat) : Int) = samV z key by omega, uZ_at]
        · rw [lo _ (by omega) (by omega) (by omega) (by omega) (by omega), uZ_ne (by omega)])
      rw [e2, sumI_upd (by omega), hsum, show (((samV z key).toNat : Nat) : Int) = samV z key by omega]
      omega
    · rw [lo 4 (by omega) (by omega) (by omega) (by omega) (by omega), lo 7 (by omega) (by omega) (by omega) (by omega) (by omega), lo 8 (by omega) (by omega) (by omega) (by omega) (by omega), lo 9 (by omega) (by omega) (by omega) (by omega) (by omega), lo 2 (by omega) (by omega) (by omega) (by omega) (by omega), a3]
      omega
theorem comb_Vz {z : Int → Int} {v : Int} (hz : Vz z) (h3 : ¬ 0 < z 3) (hv : v = 0 ∨ v = 1) : Vz (uZ z 1 v) := by
  have e : ∀ j, j ≠ 1 → uZ z 1 v j = z j := fun j h => uZ_ne h
  obtain ⟨⟨v1, v2, v3, v4, v5⟩, ⟨s0, s1, s2, s5, s6, s7, s8, s9⟩, hr, hs, hc, hm, ho, hi, hd, hx⟩ := hz
  have r1 : ∀ p, rowsAt (uZ z 1 v) p = rowsAt z p := fun p => rowsAt_lo (by omega) (by omega)
  have ri : riZ (uZ z 1 v) = riZ z := riZ_cong (e 3 (by omega)) (fun r _ _ => by rw [e _ (by omega)])
  have e3 := e 3 (by omega)
  refine ⟨Vb_lo ⟨v1, v2, v3, v4, v5⟩ (by omega) (by omega) (by omega), ?_, fun r a b => by omega, ?_, ?_, ?_, ?_, ?_, fun _ a b a1 a2 => by omega, fun a b a1 a2 => by omega⟩
  · rw [e 0 (by omega), uZ_at, e 2 (by omega), e 5 (by omega), e 6 (by omega), e 7 (by omega), e 8 (by omega), e 9 (by omega)]
    exact ⟨s0, hv, s2, s5, s6, s7, s8, s9⟩
  · rw [e3, show (z 3).toNat = 0 by omega, sumI]; omega
  · rw [e 2 (by omega), e 5 (by omega), r1, e 0 (by omega)]; exact hc
  · rw [e 2 (by omega), r1]; exact hm
  · rw [e 5 (by omega), r1]; exact ho
  · rw [e 5 (by omega), ri]; exact hi
