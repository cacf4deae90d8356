theorem VzX_none {z : Int → Int} (h : rowsAt z 2 = 0) (h3 : 0 ≤ z 3) : VzX z := fun a b a1 a2 _ _ p1 _ => absurd p1 ((rowsAt_0 h3).mp h a a1 a2)
/-- what a few runs that become inputs do -/
theorem bgI_rows {z : Int → Int} (hz : Vb z) : ∀ k : Nat, (k : Int) ≤ manyZ z 0 → ∀ r, 0 ≤ r → r < z 3 → bgI z k (250 + r) = z (250 + r) ∨ (10 ≤ z (250 + r) ∧ z (250 + r) % 2 = 0 ∧ bgI z k (250 + r) = z (250 + r) + 1)
  | 0, _, r, _, _ => Or.inl rfl
  | k + 1, h, r, h1, h2 => by
    obtain ⟨g1, g2, g3⟩ := bg_inv hz k (by omega)
    have e3 : bgI z k 3 = z 3 := g2 3 (by omega)
    have h4 : bgI z k 4 = z 4 := g2 4 (by omega)
    have v3 := g1.2.2.1
    obtain ⟨s1, s2, s3, _⟩ := sml_spec v3 (by omega : 0 < manyZ (bgI z k) 0)
    have ih := bgI_rows hz k (by omega) r h1 h2
    have hp : smlZ (bgI z k) = 10 + 2 * smK (bgI z k) (bgI z k 4).toNat := rfl
    rw [bgI, mvZ_pl h1 (by rw [e3]; exact h2)]
    by_cases q : bgI z k (250 + r) = smlZ (bgI z k)
    · rw [if_pos q]
      rcases ih with e | ⟨_, _, e⟩ <;> omega
    · rw [if_neg q]; exact ih
theorem bgI_in {z : Int → Int} (hz : Vb z) (k : Nat) (h : ((k + 1 : Nat) : Int) ≤ manyZ z 0) : 0 < riZ (bgI z (k + 1)) := by
  obtain ⟨g1, g2, g3⟩ := bg_inv hz k (by omega)
  have e3 : bgI z k 3 = z 3 := g2 3 (by omega)
  have v3 := g1.2.2.1
  obtain ⟨s1, s2, s3, _⟩ := sml_spec v3 (by omega : 0 < manyZ (bgI z k) 0)
  obtain ⟨r, r1, r2, r3⟩ := rowsAt_pos.mp s3
  have hp : smlZ (bgI z k) = 10 + 2 * smK (bgI z k) (bgI z k 4).toNat := rfl
  refine riZ_pos.mpr ⟨r, r1, ?_, ?_⟩
  · rw [bgI, mvZ_lo (by omega)]; exact r2
  · rw [bgI, mvZ_pl r1 r2, if_pos r3]; omega
theorem begZ_lo {z : Int → Int} (hz : Vb z) {i : Int} (hi : i < 250) (h5 : i ≠ 5) (h6 : i ≠ 6) (h8 : i ≠ 8) : begZ z i = z i := by
  have hb : begN z ≤ manyZ z 0 := by unfold begN; omega
  have hm := manyZ_nn (z := z) (k := 0) hz.2.2.1
  have hz6 : Vb (uZ z 6 (begN z)) := Vb_lo hz (by omega) (by omega) (by omega)
  have hm6 : manyZ (uZ z 6 (begN z)) 0 = manyZ z 0 := manyZ_lo (by omega) (by omega) (by omega)
  unfold begZ
  rw [uZ_ne h8, uZ_ne h5, (bg_inv hz6 (begN z).toNat (by rw [hm6]; omega)).2.1 i hi, uZ_ne h6]
theorem begZ_pl {z : Int → Int} (hz : Vb z) {r : Int} (h1 : 0 ≤ r) (h2 : r < z 3) : begZ z (250 + r) = z (250 + r) ∨ (10 ≤ z (250 + r) ∧ z (250 + r) % 2 = 0 ∧ begZ z (250 + r) = z (250 + r) + 1) := by
  have hb : begN z ≤ manyZ z 0 := by unfold begN; omega
  have hm := manyZ_nn (z := z) (k := 0) hz.2.2.1
  have hz6 : Vb (uZ z 6 (begN z)) := Vb_lo hz (by omega) (by omega) (by omega)
  have hm6 : manyZ (uZ z 6 (begN z)) 0 = manyZ z 0 := manyZ_lo (by omega) (by omega) (by omega)
  have := bgI_rows hz6 (begN z).toNat (by rw [hm6]; omega) r h1 (by rw [uZ_ne (by omega)]; exact h2)
  unfold begZ
  rw [uZ_ne (by omega), uZ_ne (by omega)]
  rw [uZ_ne (by omega)] at this
  exact this
theorem begZ_5 {z : Int → Int} : begZ z 5 = 1 := by unfold begZ; rw [uZ_ne (by omega), uZ_at]
theorem begZ_8 {z : Int → Int} : begZ z 8 = z 8 + 1 := by unfold begZ; rw [uZ_at]
theorem begZ_6 {z : Int → Int} (hz : Vb z) : begZ z 6 = begN z := by
  have hb : begN z ≤ manyZ z 0 := by unfold begN; omega
  have hm := manyZ_nn (z := z) (k := 0) hz.2.2.1
  have hz6 : Vb (uZ z 6 (begN z)) := Vb_lo hz (by omega) (by omega) (by omega)
  have hm6 : manyZ (uZ z 6 (begN z)) 0 = manyZ z 0 := manyZ_lo (by omega) (by omega) (by omega)
  unfold begZ
  rw [uZ_ne (by omega), uZ_ne (by omega), (bg_inv hz6 (begN z).toNat (by rw [hm6]; omega)).2.1 6 (by omega), uZ_at]
theorem begZ_Vb {z : Int → Int} (hz : Vb z) : Vb (begZ z) := by
  have hb : begN z ≤ manyZ z 0 := by unfold begN; omega
  have hm := manyZ_nn (z := z) (k := 0) hz.2.2.1
  have hz6 : Vb (uZ z 6 (begN z)) := Vb_lo hz (by omega) (by omega) (by omega)
  have hm6 : manyZ (uZ z 6 (begN z)) 0 = manyZ z 0 := manyZ_lo (by omega) (by omega) (by omega)
  exact Vb_lo (Vb_lo (bg_inv hz6 (begN z).toNat (by rw [hm6]; omega)).1 (by omega) (by omega) (by omega)) (by omega) (by omega) (by omega)
theorem begZ_many {z : Int → Int} (hz : Vb z) (h0 : 0 ≤ begN z) : manyZ (begZ z) 0 = manyZ z 0 - begN z := by
  have hb : begN z ≤ manyZ z 0 := by unfold begN; omega
  have hz6 : Vb (uZ z 6 (begN z)) := Vb_lo hz (by omega) (by omega) (by omega)
  have hm6 : manyZ (uZ z 6 (begN z)) 0 = manyZ z 0 := manyZ_lo (by omega) (by omega) (by omega)
  unfold begZ
  rw [manyZ_lo (by omega) (by omega) (by omega), manyZ_lo (by omega) (by omega) (by omega), (bg_inv hz6 (begN z).toNat (by rw [hm6]; omega)).2.2, hm6]
  omega
theorem begZ_ri {z : Int → Int} (hz : Vb z) (h0 : 1 ≤ begN z) : 0 < riZ (begZ z) := by
  have hb : begN z ≤ manyZ z 0 := by unfold begN; omega
  have hz6 : Vb (uZ z 6 (begN z)) := Vb_lo hz (by omega) (by omega) (by omega)
  have hm6 : manyZ (uZ z 6 (begN z)) 0 = manyZ z 0 := manyZ_lo (by omega) (by omega) (by omega)
  have h1 := bgI_in hz6 ((begN z).toNat - 1) (by rw [hm6]; omega)
  rw [show (begN z).toNat - 1 + 1 = (begN z).toNat by omega] at h1
  have e : riZ (begZ z) = riZ (bgI (uZ z 6 (begN z)) (begN z).toNat) := riZ_cong (by unfold begZ; rw [uZ_ne (by omega), uZ_ne (by omega)]) (fun r _ _ => by unfold begZ; rw [uZ_ne (by omega), uZ_ne (by omega)])
  rw [e]; exact h1
theorem begZ_Vz {z : Int → Int} (hz : Vz z) (h2 : z 2 = 0) (h5 : z 5 = 0) (hN : 1 ≤ begN z) : Vz (begZ z) := by
  have hz' := hz
  obtain ⟨hb, ⟨s0, s1, s2, s5, s6, s7, s8, s9⟩, hr, hs, hc, hm, ho, hi, hd, hx⟩ := hz'
  have hb3 := hb.1
  have hb2 := hb.2.1
  have N8 : begN z ≤ 8 := by unfold begN waysZ; omega
  have E : ∀ i, i < 250 → i ≠ 5 → i ≠ 6 → i ≠ 8 → begZ z i = z i := fun i a b c d => begZ_lo hb a b c d
  have e3 := E 3 (by omega) (by omega) (by omega) (by omega)
  have P : ∀ r, 0 ≤ r → r < z 3 → _ := fun r a b => begZ_pl hb a b
  have r1 : rowsAt (begZ z) 1 = rowsAt z 1 := rowsAt_cong e3 (fun r a b => by rcases P r a b with e | ⟨_, _, e⟩ <;> omega)
  have r2 : rowsAt (begZ z) 2 = rowsAt z 2 := rowsAt_cong e3 (fun r a b => by rcases P r a b with e | ⟨_, _, e⟩ <;> omega)
  refine Vz_move hz (begZ_Vb hb) e3 ?_ (fun r a b => ?_) (fun q => ?_) (fun _ => by rw [r1]; exact hm h2) (fun q => ?_) ?_ (VzX_none (by rw [r2]; exact ho h5) (by rw [e3]; exact hb3))
  · rw [E 0 (by omega) (by omega) (by omega) (by omega), E 1 (by omega) (by omega) (by omega) (by omega), E 2 (by omega) (by omega) (by omega) (by omega), E 7 (by omega) (by omega) (by omega) (by omega), E 9 (by omega) (by omega) (by omega) (by omega), begZ_5, begZ_6 hb, begZ_8]
    exact ⟨s0, rfl, s2, Or.inr rfl, by omega, s7, by omega, s9⟩
  · rw [E _ (by omega) (by omega) (by omega) (by omega), E _ (by omega) (by omega) (by omega) (by omega)]
    refine ⟨rfl, rfl, ?_, ?_⟩ <;> rcases P r a b with e | ⟨_, _, e⟩ <;> omega
  · rw [E 2 (by omega) (by omega) (by omega) (by omega)] at q; omega
  · rw [begZ_5] at q; omega
  · rw [begZ_5]
    exact ⟨fun _ => begZ_ri hb hN, fun _ => rfl⟩
/-- a step that moves a row, before a merge that is over becomes a run -/
theorem stp0_lo {z : Int → Int} {i : Int} (hf : 0 ≤ frV z) (hl : loV z = -6 ∨ 0 ≤ loV z) (hi : i < 130) (h7 : i ≠ 7) : stp0 z i = z i := by
  unfold stp0
  by_cases c : z 1 = 1 ∧ loV z ≠ -6 ∧ z (10 + loV z) = z (10 + frV z)
  · rw [if_pos c, uZ_ne (by omega), uZ_ne (by omega), uZ_ne (by omega), uZ_ne h7]
  · rw [if_neg c, uZ_ne (by omega), uZ_ne h7]
theorem stp0_7 {z : Int → Int} (hf : 0 ≤ frV z) (hl : loV z = -6 ∨ 0 ≤ loV z) : z 7 + 1 ≤ stp0 z 7 ∧ stp0 z 7 ≤ z 7 + 2 := by
  unfold stp0
  by_cases c : z 1 = 1 ∧ loV z ≠ -6 ∧ z (10 + loV z) = z (10 + frV z)
  · rw [if_pos c, uZ_ne (by omega), uZ_ne (by omega), uZ_ne (by omega), uZ_at]; omega
  · rw [if_neg c, uZ_ne (by omega), uZ_at]; omega
theorem stp0_pl {z : Int → Int} {r : Int} (h3 : z 3 ≤ 120) (hf : 0 ≤ frV z) (hf2 : frV z < z 3) (hl : loV z = -6 ∨ (0 ≤ loV z ∧ loV z < z 3)) (h1 : 0 ≤ r) (h2 : r < z 3) : stp0 z (250 + r) = if r = frV z then (if z 1 = 1 ∧ loV z ≠ -6 ∧ z (10 + loV z) = z (10 + frV z) then 0 else 2) else z (250 + r) := by
  unfold stp0
  by_cases c : z 1 = 1 ∧ loV z ≠ -6 ∧ z (10 + loV z) = z (10 + frV z)
  · rw [if_pos c, if_pos c]
    by_cases q : r = frV z
    · rw [if_pos q, q, uZ_at]
    · rw [if_neg q, uZ_ne (by omega), uZ_ne (by omega), uZ_ne (by omega), uZ_ne (by omega)]
  · rw [if_neg c, if_neg c]
    by_cases q : r = frV z
    · rw [if_pos q, q, uZ_at]
    · rw [if_neg q, uZ_ne (by omega), uZ_ne (by omega)]
theorem stp0_cn {z : Int → Int} {r : Int} (h3 : z 3 ≤ 120) (hf : 0 ≤ frV z) (hf2 : frV z < z 3) (hl : loV z = -6 ∨ (0 ≤ loV z ∧ loV z < z 3)) (h1 : 0 ≤ r) (h2 : r < z 3) : stp0 z (130 + r) = if z 1 = 1 ∧ loV z ≠ -6 ∧ z (10 + loV z) = z (10 + frV z) then (if r = frV z then 0 else if r = loV z then z (130 + loV z) + z (130 + frV z) else z (130 + r)) else z (130 + r) := by
  unfold stp0
  by_cases c : z 1 = 1 ∧ loV z ≠ -6 ∧ z (10 + loV z) = z (10 + frV z)
  · rw [if_pos c, if_pos c, uZ_ne (by omega)]
    by_cases q : r = frV z
    · rw [if_pos q, q, uZ_at]
    · rw [if_neg q, uZ_ne (by omega)]
      by_cases q2 : r = loV z
      · rw [if_pos q2, q2, uZ_at]
      · rw [if_neg q2, uZ_ne (by omega), uZ_ne (by omega)]
  · rw [if_neg c, if_neg c, uZ_ne (by omega), uZ_ne (by omega)]
/-- a state of a merge, whether or not there is a row left in the inputs -/
def VzQ (z : Int → Int) : Prop := Vb z ∧ ((2 ≤ z 0 ∧ z 0 ≤ 20) ∧ (z 1 = 0 ∨ z 1 = 1) ∧ z 2 = 0 ∧ z 5 = 1 ∧ (0 ≤ z 6 ∧ z 6 ≤ 8) ∧ 0 ≤ z 7 ∧ 0 ≤ z 8 ∧ 0 ≤ z 9) ∧ VzR z ∧ sumI (fun r => z (130 + r)) (z 3).toNat = z 3 ∧ rowsAt z 1 = 0 ∧ VzX z
theorem VzQ_Vz {z : Int → Int} (h : VzQ z) (hr : 0 < riZ z) : Vz z := by
  obtain ⟨hb, ⟨s0, s1, s2, s5, s6, s7, s8, s9⟩, hR, hs, h1, hx⟩ := h
  exact ⟨hb, ⟨s0, s1, Or.inl s2, Or.inr s5, s6, s7, s8, s9⟩, hR, hs, fun q => by omega, fun _ => h1, fun q => by omega, ⟨fun _ => hr, fun _ => s5⟩, fun _ a b a1 a2 _ _ p1 _ _ => absurd p1 ((rowsAt_0 hb.1).mp h1 a a1 a2), hx⟩
theorem Vz_VzQ {z : Int → Int} (h : Vz z) (h5 : z 5 = 1) : VzQ z := by
  obtain ⟨hb, ⟨s0, s1, s2, s5, s6, s7, s8, s9⟩, hR, hs, hc, hm, ho, hi, hd, hx⟩ := h
  have h2 : z 2 = 0 := by rcases s2 with q | q; exact q; have := (hc q).1; omega
  exact ⟨hb, ⟨s0, s1, h2, h5, s6, s7, s8, s9⟩, hR, hs, hm h2, hx⟩
theorem close_lo {z : Int → Int} {i : Int} (h : i < 250) (h4 : i ≠ 4) (h5 : i ≠ 5) : uZ (becm z 2) 5 0 i = z i := by rw [uZ_ne h5, becm_lo h h4]
theorem close_pl {z : Int → Int} {r : Int} (h0 : 0 ≤ r) (h : r < z 3) : uZ (becm z 2) 5 0 (250 + r) = if z (250 + r) = 2 then 10 + 2 * z 4 else z (250 + r) := by rw [uZ_ne (by omega), becm_pl h0 h]
theorem close_4 {z : Int → Int} : uZ (becm z 2) 5 0 4 = z 4 + 1 := by rw [uZ_ne (by omega), becm_4]
theorem close_Vz {z : Int → Int} (h : VzQ z) (hr : riZ z = 0) (h4 : z 4 + 1 ≤ 900000000) : Vz (uZ (becm z 2) 5 0) := by
  obtain ⟨hb, ⟨s0, s1, s2, s5, s6, s7, s8, s9⟩, hR, hs, h1, hx⟩ := h
  have hb3 := hb.1
  have hb2 := hb.2.1
  have h44 := hb.2.2.1
  have E : ∀ i, i < 250 → i ≠ 4 → i ≠ 5 → uZ (becm z 2) 5 0 i = z i := fun i a b c => close_lo a b c
  have P : ∀ r, 0 ≤ r → r < z 3 → uZ (becm z 2) 5 0 (250 + r) = if z (250 + r) = 2 then 10 + 2 * z 4 else z (250 + r) := fun r a b => close_pl a b
  have e3 := E 3 (by omega) (by omega) (by omega)
  have r1 : rowsAt (uZ (becm z 2) 5 0) 1 = 0 := by
    exact (rowsAt_cong e3 (fun r a b => by rw [P r a b]; split <;> omega) : rowsAt _ 1 = rowsAt z 1).trans h1
  have r2 : rowsAt (uZ (becm z 2) 5 0) 2 = 0 := (rowsAt_0 (by rw [e3]; exact hb3)).mpr (fun r a b c => by
    rw [e3] at b
    rw [P r a b] at c
    split at c <;> omega)
  have ri : riZ (uZ (becm z 2) 5 0) = 0 := by
    exact (riZ_cong e3 (fun r a b => by rw [P r a b]; split <;> omega)).trans hr
  refine ⟨Vb_lo (becm_Vb hb h4) (by omega) (by omega) (by omega), ?_, fun r a b => ?_, ?_, fun q => ?_, fun _ => r1, fun _ => r2, ?_, fun _ => ?_, VzX_none r2 (by rw [e3]; exact hb3)⟩
  · rw [E 0 (by omega) (by omega) (by omega), E 1 (by omega) (by omega) (by omega), E 2 (by omega) (by omega) (by omega), E 6 (by omega) (by omega) (by omega), E 7 (by omega) (by omega) (by omega), E 8 (by omega) (by omega) (by omega), E 9 (by omega) (by omega) (by omega), uZ_at]
    exact ⟨s0, s1, Or.inl s2, Or.inl rfl, s6, s7, s8, s9⟩
  · rw [e3] at b
    have := hR r a b
    rw [E _ (by omega) (by omega) (by omega), E _ (by have := hb.2.1; omega) (by omega) (by omega), P r a b]
    refine ⟨this.1, this.2.1, ?_⟩
    split <;> omega
  · rw [e3]
    have : sumI (fun r => uZ (becm z 2) 5 0 (130 + r)) (z 3).toNat = sumI (fun r => z (130 + r)) (z 3).toNat := sumI_cong (fun r hr2 => E _ (by have := hb.2.1; omega) (by omega) (by omega))
    rw [this]; exact hs
  · rw [E 2 (by omega) (by omega) (by omega)] at q; omega
  · rw [ri, uZ_at]; omega
  · intro a b a1 a2 _ _ p1 _ _
    exact absurd p1 ((rowsAt_0 (by rw [e3]; exact hb3)).mp r1 a a1 a2)
theorem stp0_all {z : Int → Int} (hz : Vz z) (h : 0 < riZ z) : VzQ (stp0 z) ∧ riZ (stp0 z) = riZ z - 1 ∧ 0 < rowsAt (stp0 z) 2 ∧ manyZ (stp0 z) 0 = manyZ z 0 ∧ stp0 z 3 = z 3 ∧ stp0 z 4 = z 4 ∧ stp0 z 8 = z 8 ∧ stp0 z 9 = z 9 ∧ stp0 z 0 = z 0 := by
  have h5 : z 5 = 1 := hz.2.2.2.2.2.2.2.1.mpr h
  have cnt := hz.cnt
  obtain ⟨hb, ⟨s0, s1, s2, s5, s6, s7, s8, s9⟩, hR, hs, h1, hx⟩ := Vz_VzQ hz h5
  have v := hb
  obtain ⟨v1, v2, v3, v4, v5⟩ := v
  obtain ⟨f1, f2, f3, f4⟩ := frV_spec h
  have hl := loV_spec (z := z) v1
  have hl1 : loV z = -6 ∨ 0 ≤ loV z := by rcases hl with ⟨q, _⟩ | ⟨q, _⟩; exact Or.inl q; exact Or.inr q
  have hl2 : loV z = -6 ∨ (0 ≤ loV z ∧ loV z < z 3) := by rcases hl with ⟨q, _⟩ | ⟨q, q2, _⟩; exact Or.inl q; exact Or.inr ⟨q, q2⟩
  have E : ∀ i, i < 130 → i ≠ 7 → stp0 z i = z i := fun i a b => stp0_lo f1 hl1 a b
  have E7 := stp0_7 f1 hl1
  have P : ∀ r, 0 ≤ r → r < z 3 → _ := fun r a b => stp0_pl v2 f1 f2 hl2 a b
  have N : ∀ r, 0 ≤ r → r < z 3 → _ := fun r a b => stp0_cn v2 f1 f2 hl2 a b
  have e3 := E 3 (by omega) (by omega)
  have e4 := E 4 (by omega) (by omega)
  have hb' := stp0_Vb hb h
  have ri : riZ (stp0 z) = riZ z - 1 := by
    unfold riZ
    rw [e3]
    have e : sumI (fun r => pz (11 ≤ stp0 z (250 + r) ∧ stp0 z (250 + r) % 2 = 1)) (z 3).toNat = sumI (uZ (fun r => pz (11 ≤ z (250 + r) ∧ z (250 + r) % 2 = 1)) (((frV z).toNat : Nat) : Int) 0) (z 3).toNat := sumI_cong (fun r hr => by
      have := P r (by omega) (by omega)
      unfold uZ
      by_cases q : (r : Int) = (((frV z).toNat : Nat) : Int)
      · rw [if_pos q]
        rw [if_pos (by omega)] at this
        exact pz_f (by rw [this]; split <;> omega)
      · rw [if_neg q]
        rw [if_neg (by omega)] at this
        rw [this])
    have e2 : pz (11 ≤ z (250 + (((frV z).toNat : Nat) : Int)) ∧ z (250 + (((frV z).toNat : Nat) : Int)) % 2 = 1) = 1 := pz_t (by rw [show (((frV z).toNat : Nat) : Int) = frV z by omega]; exact f3)
    rw [e, sumI_upd (by omega), e2]
    omega
  have ev : ∀ k, rowsAt (stp0 z) (10 + 2 * k + 0) = rowsAt z (10 + 2 * k + 0) ∨ k < 0 := by
    intro k
    by_cases hk : k < 0
    · exact Or.inr hk
    · refine Or.inl (rowsAt_cong e3 (fun r a b => ?_))
      rw [P r a b]
      by_cases q : r = frV z
      · rw [if_pos q, q]; split <;> omega
      · rw [if_neg q]
  have mn : manyZ (stp0 z) 0 = manyZ z 0 := by
    unfold manyZ
    rw [e4]
    exact sumI_cong (fun k hk => by rcases ev k with q | q; rw [q]; omega)
  have out : 0 < rowsAt (stp0 z) 2 := by
    by_cases c : z 1 = 1 ∧ loV z ≠ -6 ∧ z (10 + loV z) = z (10 + frV z)
    · rcases hl with ⟨q, _⟩ | ⟨l1, l2, l3, _⟩
      · exact absurd q c.2.1
      · refine rowsAt_pos.mpr ⟨loV z, l1, by rw [e3]; exact l2, ?_⟩
        rw [P _ l1 l2, if_neg (fun q => by rw [q] at l3; omega)]
        exact l3
    · refine rowsAt_pos.mpr ⟨frV z, f1, by rw [e3]; exact f2, ?_⟩
      rw [P _ f1 f2, if_pos rfl, if_neg c]
  refine ⟨⟨hb', ?_, fun r a b => ?_, ?_, ?_, ?_⟩, ri, out, mn, e3, e4, E 8 (by omega) (by omega), E 9 (by omega) (by omega), E 0 (by omega) (by omega)⟩
  · rw [E 0 (by omega) (by omega), E 1 (by omega) (by omega), E 2 (by omega) (by omega), E 5 (by omega) (by omega), E 6 (by omega) (by omega), E 8 (by omega) (by omega), E 9 (by omega) (by omega)]
    exact ⟨s0, s1, s2, s5, s6, by omega, s8, s9⟩
  · rw [e3] at b
    have hf := hR (frV z) f1 f2
    have hr := hR r a b
    rw [E _ (by omega) (by omega), P r a b, N r a b]
    refine ⟨hr.1, ?_⟩
    by_cases c : z 1 = 1 ∧ loV z ≠ -6 ∧ z (10 + loV z) = z (10 + frV z)
    · rw [if_pos c, if_pos c]
      by_cases q : r = frV z
      · rw [if_pos q, if_pos q]; omega
      · rw [if_neg q, if_neg q]
        rcases hl with ⟨q2, _⟩ | ⟨l1, l2, l3, _⟩
        · exact absurd q2 c.2.1
        have hlo := hR (loV z) l1 l2
        by_cases q3 : r = loV z
        · rw [if_pos q3, q3]; omega
        · rw [if_neg q3]; exact hr.2
    · rw [if_neg c, if_neg c]
      by_cases q : r = frV z
      · rw [if_pos q, q]; omega
      · rw [if_neg q]; exact hr.2
  · rw [e3]
    by_cases c : z 1 = 1 ∧ loV z ≠ -6 ∧ z (10 + loV z) = z (10 + frV z)
    · rcases hl with ⟨q2, _⟩ | ⟨l1, l2, l3, _⟩
      · exact absurd q2 c.2.1
      have e : sumI (fun r => stp0 z (130 + r)) (z 3).toNat = sumI (uZ (uZ (fun r => z (130 + r)) (((loV z).toNat : Nat) : Int) (z (130 + loV z) + z (130 + frV z))) (((frV z).toNat : Nat) : Int) 0) (z 3).toNat := sumI_cong (fun r hr => by
        have := N r (by omega) (by omega)
        rw [if_pos c] at this
        rw [this]
        unfold uZ
        rw [show (((frV z).toNat : Nat) : Int) = frV z by omega, show (((loV z).toNat : Nat) : Int) = loV z by omega])
      have e1 : uZ (fun r => z (130 + r)) (((loV z).toNat : Nat) : Int) (z (130 + loV z) + z (130 + frV z)) (((frV z).toNat : Nat) : Int) = z (130 + frV z) := by
        have hne : (((frV z).toNat : Nat) : Int) ≠ (((loV z).toNat : Nat) : Int) := by
          intro q
          have q2 : frV z = loV z := by omega
          rw [q2] at f3
          omega
        rw [uZ_ne hne]
        show z (130 + (((frV z).toNat : Nat) : Int)) = _
        rw [show (((frV z).toNat : Nat) : Int) = frV z by omega]
      rw [e, sumI_upd (by omega), e1, sumI_upd (by omega), hs, show (((loV z).toNat : Nat) : Int) = loV z by omega]
      omega
    · have e : sumI (fun r => stp0 z (130 + r)) (z 3).toNat = sumI (fun r => z (130 + r)) (z 3).toNat := sumI_cong (fun r hr => by
        have := N r (by omega) (by omega)
        rw [if_neg c] at this
        exact this)
      rw [e]; exact hs
  · refine (rowsAt_cong e3 (fun r a b => ?_) : rowsAt _ 1 = rowsAt z 1).trans h1
    rw [P r a b]
    by_cases q : r = frV z
    · rw [if_pos q, q]; split <;> omega
    · rw [if_neg q]
  · intro a b a1 a2 b1 b2 p1 p2
    rw [e3] at a2 b2
    rw [P a a1 a2] at p1
    rw [P b b1 b2] at p2
    have qb : b ≠ frV z := fun q => by rw [if_pos q] at p2; split at p2 <;> omega
    rw [if_neg qb] at p2
    unfold bef
    rw [E _ (by omega) (by omega), E _ (by omega) (by omega)]
    by_cases qa : a = frV z
    · have := f4 b b1 b2 p2
      rw [qa]; omega
    · rw [if_neg qa] at p1
      exact hx a b a1 a2 b1 b2 p1 p2
/-- how far a run to the end can still go -/
def phiZ (z : Int → Int) : Int := 200 * (manyZ z 0 + z 5) + riZ z
theorem stpZ_all {z : Int → Int} (hz : Vz z) (h : 0 < riZ z) (h4 : z 4 + 1 ≤ 900000000) : Vz (stpZ z) ∧ phiZ (stpZ z) < phiZ z ∧ z 4 ≤ stpZ z 4 ∧ stpZ z 4 ≤ z 4 + 1 ∧ stpZ z 7 ≤ z 7 + 2 ∧ stpZ z 8 = z 8 ∧ stpZ z 9 = z 9 ∧ stpZ z 0 = z 0 ∧ stpZ z 2 = 0 := by
  have h5 : z 5 = 1 := hz.2.2.2.2.2.2.2.1.mpr h
  obtain ⟨hq, ri, out, mn, e3, e4, e8, e9, e0⟩ := stp0_all hz h
  have f1 := (frV_spec h).1
  have hl := loV_spec (z := z) hz.1.1
  have hl1 : loV z = -6 ∨ 0 ≤ loV z := by rcases hl with ⟨q, _⟩ | ⟨q, _⟩; exact Or.inl q; exact Or.inr q
  have E7 := stp0_7 f1 hl1
  have y5 : stp0 z 5 = 1 := hq.2.1.2.2.2.1
  have y2 : stp0 z 2 = 0 := hq.2.1.2.2.1
  unfold stpZ
  by_cases c : riZ (stp0 z) = 0
  · rw [if_pos c]
    have hcl := close_Vz hq c (by rw [e4]; exact h4)
    have hb := hq.1
    have ri2 : riZ (uZ (becm (stp0 z) 2) 5 0) = 0 := by
      rcases Int.lt_or_eq_of_le (riZ_le hcl.1.1).1 with q | q
      · have := hcl.2.2.2.2.2.2.2.1.mpr q
        rw [uZ_at] at this; omega
      · exact q.symm
    have mn2 : manyZ (uZ (becm (stp0 z) 2) 5 0) 0 = manyZ (stp0 z) 0 + 1 := by
      unfold manyZ
      rw [close_4, show (stp0 z 4 + 1).toNat = (stp0 z 4).toNat + 1 by have := hb.2.2.1; omega, sumI]
      have z4 := hb.2.2.1
      have a1 : sumI (fun k => pz (0 < rowsAt (uZ (becm (stp0 z) 2) 5 0) (10 + 2 * k + 0))) (stp0 z 4).toNat = sumI (fun k => pz (0 < rowsAt (stp0 z) (10 + 2 * k + 0))) (stp0 z 4).toNat := sumI_cong (fun k hk => by
        rw [rowsAt_cong (p := 10 + 2 * (k : Int) + 0) (close_lo (by omega) (by omega) (by omega)) (fun r a b => by rw [close_pl a b]; split <;> omega)])
      have a2 : pz (0 < rowsAt (uZ (becm (stp0 z) 2) 5 0) (10 + 2 * (((stp0 z 4).toNat : Nat) : Int) + 0)) = 1 := pz_t (by
        rw [rowsAt_cong (z := stp0 z) (p := 2) (close_lo (by omega) (by omega) (by omega)) (fun r a b => by
          have := hb.2.2.2.2 r a b
          rw [close_pl a b]; split <;> omega)]
        exact out)
      rw [a1, a2]
    unfold phiZ
    have c7 : uZ (becm (stp0 z) 2) 5 0 7 = stp0 z 7 := close_lo (by omega) (by omega) (by omega)
    have c8 : uZ (becm (stp0 z) 2) 5 0 8 = stp0 z 8 := close_lo (by omega) (by omega) (by omega)
    have c9 : uZ (becm (stp0 z) 2) 5 0 9 = stp0 z 9 := close_lo (by omega) (by omega) (by omega)
    have c0 : uZ (becm (stp0 z) 2) 5 0 0 = stp0 z 0 := close_lo (by omega) (by omega) (by omega)
    have c2 : uZ (becm (stp0 z) 2) 5 0 2 = stp0 z 2 := close_lo (by omega) (by omega) (by omega)
    have c5 : uZ (becm (stp0 z) 2) 5 0 5 = 0 := uZ_at
    rw [ri2, mn2, mn, close_4, c7, c8, c9, c0, c2, c5, e4, e8, e9, e0, h5, y2]
    exact ⟨hcl, by omega, by omega, by omega, by omega, rfl, rfl, rfl, rfl⟩
  · rw [if_neg c]
    have hp := (riZ_le hq.1.1).1
    unfold phiZ
    rw [mn, y5, h5, ri, e4, e8, e9, e0, y2]
    exact ⟨VzQ_Vz hq (by omega), by omega, by omega, by omega, by omega, rfl, rfl, rfl, rfl⟩
theorem oneZ_all {z : Int → Int} (hz : Vz z) (h2 : z 2 = 0) (hw : z 5 = 1 ∨ 2 ≤ waysZ (z 0)) (hg : goOn z) (h4 : z 4 + 1 ≤ 900000000) : Vz (oneZ z) ∧ phiZ (oneZ z) < phiZ z ∧ z 4 ≤ oneZ z 4 ∧ oneZ z 4 ≤ z 4 + 1 ∧ oneZ z 7 ≤ z 7 + 2 ∧ z 8 ≤ oneZ z 8 ∧ oneZ z 8 ≤ z 8 + 1 ∧ oneZ z 9 = z 9 ∧ oneZ z 0 = z 0 ∧ oneZ z 2 = 0 := by
  have s5 := hz.2.1.2.2.2.1
  unfold oneZ
  by_cases c : z 5 = 0
  · rw [if_pos c]
    have hm : 1 < manyZ z 0 := by rcases hg with q | q; omega; exact q
    have hN : 2 ≤ begN z := by unfold begN; omega
    have hb := begZ_Vz hz h2 c (by omega)
    have hri := begZ_ri hz.1 (by omega)
    have E : ∀ i, i < 250 → i ≠ 5 → i ≠ 6 → i ≠ 8 → begZ z i = z i := fun i a b c d => begZ_lo hz.1 a b c d
    have e4 := E 4 (by omega) (by omega) (by omega) (by omega)
    obtain ⟨g1, g2, g3, g4, g5, g6, g7, g8, g9⟩ := stpZ_all hb hri (by rw [e4]; exact h4)
    have hmb := begZ_many hz.1 (by omega)
    have hrl := (riZ_le hb.1.1).2
    have h3b := hb.1.2.1
    have hrz := (riZ_le hz.1.1).1
    rw [e4] at g3 g4
    rw [E 7 (by omega) (by omega) (by omega) (by omega)] at g5
    rw [begZ_8] at g6
    rw [E 9 (by omega) (by omega) (by omega) (by omega)] at g7
    rw [E 0 (by omega) (by omega) (by omega) (by omega)] at g8
    refine ⟨g1, ?_, g3, g4, g5, by omega, by omega, g7, g8, g9⟩
    have : phiZ (begZ z) = 200 * (manyZ z 0 - begN z + 1) + riZ (begZ z) := by unfold phiZ; rw [hmb, begZ_5]
    have : phiZ z = 200 * (manyZ z 0 + 0) + riZ z := by unfold phiZ; rw [c]
    omega
  · rw [if_neg c]
    have h5 : z 5 = 1 := by omega
    obtain ⟨g1, g2, g3, g4, g5, g6, g7, g8, g9⟩ := stpZ_all hz (hz.2.2.2.2.2.2.2.1.mp h5) h4
    exact ⟨g1, g2, g3, g4, g5, by omega, by omega, g7, g8, g9⟩
