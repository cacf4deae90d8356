/-! ===== what holds of the reference's row z between calls ===== -/
def VzR (z : Int → Int) : Prop := ∀ r, 0 ≤ r → r < z 3 → (0 ≤ z (10 + r) ∧ z (10 + r) ≤ 999) ∧ 0 ≤ z (130 + r) ∧ (z (130 + r) = 0 ↔ z (250 + r) = 0)
def VzD (z : Int → Int) : Prop := ∀ a b, 0 ≤ a → a < z 3 → 0 ≤ b → b < z 3 → z (250 + a) = 1 → z (250 + b) = 1 → z (10 + a) = z (10 + b) → a = b
def VzX (z : Int → Int) : Prop := ∀ a b, 0 ≤ a → a < z 3 → 0 ≤ b → b < z 3 → z (250 + a) = 2 → (11 ≤ z (250 + b) ∧ z (250 + b) % 2 = 1) → bef z a b
def Vz (z : Int → Int) : Prop := Vb z ∧ ((2 ≤ z 0 ∧ z 0 ≤ 20) ∧ (z 1 = 0 ∨ z 1 = 1) ∧ (z 2 = 0 ∨ z 2 = 1) ∧ (z 5 = 0 ∨ z 5 = 1) ∧ (0 ≤ z 6 ∧ z 6 ≤ 8) ∧ 0 ≤ z 7 ∧ 0 ≤ z 8 ∧ 0 ≤ z 9) ∧ VzR z ∧ sumI (fun r => z (130 + r)) (z 3).toNat = z 3 ∧ (z 2 = 1 → z 5 = 0 ∧ rowsAt z 1 ≤ z 0) ∧ (z 2 = 0 → rowsAt z 1 = 0) ∧ (z 5 = 0 → rowsAt z 2 = 0) ∧ (z 5 = 1 ↔ 0 < riZ z) ∧ (z 1 = 1 → VzD z) ∧ VzX z
/-- room for n more of everything that grows -/
def Bd (z : Int → Int) (n : Int) : Prop := z 4 + n ≤ 900000000 ∧ z 7 + 2 * n ≤ 2000000000 ∧ z 8 + n ≤ 2000000000 ∧ z 9 + n ≤ 2000000000
theorem Vz.cnt {z : Int → Int} (h : Vz z) : ∀ r, 0 ≤ r → r < z 3 → 0 ≤ z (130 + r) ∧ z (130 + r) ≤ 120 := by
  intro r h1 h2
  obtain ⟨hb, _, hr, hs, _⟩ := h
  have h3 := sumI_part (f := fun r => z (130 + r)) (i := r.toNat) (n := (z 3).toNat) (fun q hq => (hr q (by omega) (by omega)).2.1) (by omega)
  rw [hs] at h3
  rw [show ((r.toNat : Nat) : Int) = r by omega] at h3
  have := (hr r h1 h2).2.1
  have := hb.2.1
  omega
theorem riZ_cong {z z' : Int → Int} (h3 : z' 3 = z 3) (h : ∀ r, 0 ≤ r → r < z 3 → ((11 ≤ z' (250 + r) ∧ z' (250 + r) % 2 = 1) ↔ (11 ≤ z (250 + r) ∧ z (250 + r) % 2 = 1))) : riZ z' = riZ z := by
  unfold riZ
  rw [h3]
  exact sumI_cong (fun r hr => pz_cong (h r (by omega) (by omega)))
theorem riZ_0 {z : Int → Int} (h : 0 ≤ z 3) : riZ z = 0 ↔ ∀ r, 0 ≤ r → r < z 3 → ¬ (11 ≤ z (250 + r) ∧ z (250 + r) % 2 = 1) := by
  have h1 := (riZ_le h).1
  refine ⟨fun e r h2 h3 h4 => ?_, fun e => ?_⟩
  · have := riZ_pos.mpr ⟨r, h2, h3, h4⟩; omega
  · rcases Int.lt_or_eq_of_le h1 with q | q
    · obtain ⟨r, h2, h3, h4⟩ := riZ_pos.mp q
      exact absurd h4 (e r h2 h3)
    · exact q.symm
/-- rows move between places, nothing else of them changes -/
theorem Vz_move {z z' : Int → Int} (hz : Vz z) (hb : Vb z') (h3 : z' 3 = z 3) (hs : (2 ≤ z' 0 ∧ z' 0 ≤ 20) ∧ z' 1 = z 1 ∧ (z' 2 = 0 ∨ z' 2 = 1) ∧ (z' 5 = 0 ∨ z' 5 = 1) ∧ (0 ≤ z' 6 ∧ z' 6 ≤ 8) ∧ 0 ≤ z' 7 ∧ 0 ≤ z' 8 ∧ 0 ≤ z' 9) (hk : ∀ r, 0 ≤ r → r < z 3 → z' (10 + r) = z (10 + r) ∧ z' (130 + r) = z (130 + r) ∧ (z' (250 + r) = 0 ↔ z (250 + r) = 0) ∧ (z' (250 + r) = 1 → z (250 + r) = 1))
    (h4 : z' 2 = 1 → z' 5 = 0 ∧ rowsAt z' 1 ≤ z' 0) (h5 : z' 2 = 0 → rowsAt z' 1 = 0) (h6 : z' 5 = 0 → rowsAt z' 2 = 0) (h7 : z' 5 = 1 ↔ 0 < riZ z') (h8 : VzX z') : Vz z' := by
  obtain ⟨_, ⟨_, g1, _⟩, hr, hsum, _, _, _, _, hd, _⟩ := hz
  obtain ⟨s0, s1, s2, s5, s6, s7⟩ := hs
  refine ⟨hb, ⟨s0, by rw [s1]; exact g1, s2, s5, s6, s7⟩, fun r q1 q2 => ?_, ?_, h4, h5, h6, h7, fun q a b a1 a2 b1 b2 p1 p2 p3 => ?_, h8⟩
  · rw [h3] at q2
    obtain ⟨e1, e2, e3, _⟩ := hk r q1 q2
    obtain ⟨f1, f2, f3⟩ := hr r q1 q2
    rw [e1, e2]
    exact ⟨f1, f2, f3.trans e3.symm⟩
  · rw [h3, ← hsum]
    rw [hsum]
    conv => rhs; rw [← hsum]
    exact sumI_cong (fun r hr2 => (hk r (by omega) (by omega)).2.1)
  · rw [s1] at q
    rw [h3] at a2 b2
    obtain ⟨e1, _, _, e4⟩ := hk a a1 a2
    obtain ⟨f1, _, _, f4⟩ := hk b b1 b2
    exact hd q a b a1 a2 b1 b2 (e4 p1) (f4 p2) (by rw [← e1, ← f1]; exact p3)
theorem wriZ_pl {z : Int → Int} {r : Int} (hz : 0 ≤ z 3) (h0 : 0 ≤ r) (h : r < z 3) : wriZ z (250 + r) = if z (250 + r) = 1 then 10 + 2 * z 4 else z (250 + r) := by
  unfold wriZ
  by_cases c : rowsAt z 1 = 0
  · rw [if_pos c, if_neg ((rowsAt_0 hz).mp c r h0 h)]
  · rw [if_neg c, becm_pl h0 (by rw [uZ_ne (by omega)]; exact h), uZ_ne (by omega), uZ_ne (by omega)]
theorem wriZ_7 {z : Int → Int} : wriZ z 7 = z 7 + rowsAt z 1 := by
  unfold wriZ
  by_cases c : rowsAt z 1 = 0
  · rw [if_pos c, c]; omega
  · rw [if_neg c, becm_lo (by omega) (by omega), uZ_at]
theorem wriZ_4 {z : Int → Int} (h : 0 ≤ z 3) : wriZ z 4 = z 4 + pz (0 < rowsAt z 1) := by
  have := (rowsAt_le (p := 1) h).1
  unfold wriZ
  by_cases c : rowsAt z 1 = 0
  · rw [if_pos c, pz_f (by omega)]; omega
  · rw [if_neg c, becm_4, uZ_ne (by omega), pz_t (by omega)]
theorem wriZ_Vb {z : Int → Int} (hz : Vb z) (h : z 4 + 1 ≤ 900000000) : Vb (wriZ z) := by
  unfold wriZ
  split
  · exact hz
  · exact becm_Vb (Vb_lo hz (by omega) (by omega) (by omega)) (by rw [uZ_ne (by omega)]; exact h)
theorem wriZ_Vz {z : Int → Int} (hz : Vz z) (h : z 4 + 1 ≤ 900000000) : Vz (wriZ z) := by
  have hz' := hz
  obtain ⟨hb, ⟨s0, s1, s2, s5, s6, s7, s8, s9⟩, hr, hs, hc, hm, ho, hi, hd, hx⟩ := hz'
  have v := hb
  obtain ⟨v1, v2, v3, v4, v5⟩ := v
  have hra := rowsAt_le (z := z) (p := 1) v1
  have E : ∀ i, i < 250 → i ≠ 4 → i ≠ 7 → wriZ z i = z i := fun i a b c => wriZ_lo a b c
  have e3 := E 3 (by omega) (by omega) (by omega)
  have P : ∀ r, 0 ≤ r → r < z 3 → wriZ z (250 + r) = if z (250 + r) = 1 then 10 + 2 * z 4 else z (250 + r) := fun r a b => wriZ_pl v1 a b
  have r1 : rowsAt (wriZ z) 1 = 0 := (rowsAt_0 (by rw [e3]; exact v1)).mpr (fun r a b c => by
    rw [e3] at b
    rw [P r a b] at c
    split at c <;> omega)
  have r2 : rowsAt (wriZ z) 2 = rowsAt z 2 := rowsAt_cong e3 (fun r a b => by rw [P r a b]; split <;> omega)
  have ri : riZ (wriZ z) = riZ z := riZ_cong e3 (fun r a b => by rw [P r a b]; split <;> omega)
  refine Vz_move hz (wriZ_Vb hb h) e3 ?_ (fun r a b => ?_) (fun q => ?_) (fun _ => r1) (fun q => ?_) ?_ ?_
  · rw [E 0 (by omega) (by omega) (by omega), E 1 (by omega) (by omega) (by omega), E 2 (by omega) (by omega) (by omega), E 5 (by omega) (by omega) (by omega), E 6 (by omega) (by omega) (by omega), E 8 (by omega) (by omega) (by omega), E 9 (by omega) (by omega) (by omega), wriZ_7]
    exact ⟨s0, rfl, s2, s5, s6, by omega, s8, s9⟩
  · have := v5 r a b
    rw [E (10 + r) (by omega) (by omega) (by omega), E (130 + r) (by omega) (by omega) (by omega), P r a b]
    refine ⟨rfl, rfl, ?_, ?_⟩ <;> split <;> omega
  · rw [E 2 (by omega) (by omega) (by omega)] at q
    rw [E 5 (by omega) (by omega) (by omega), r1, E 0 (by omega) (by omega) (by omega)]
    exact ⟨(hc q).1, by omega⟩
  · rw [E 5 (by omega) (by omega) (by omega)] at q
    rw [r2]; exact ho q
  · rw [E 5 (by omega) (by omega) (by omega), ri]; exact hi
  · intro a b a1 a2 b1 b2 p1 p2
    rw [e3] at a2 b2
    rw [P a a1 a2] at p1
    rw [P b b1 b2] at p2
    have q1 : z (250 + a) = 2 := by split at p1 <;> omega
    have q2 : 11 ≤ z (250 + b) ∧ z (250 + b) % 2 = 1 := by split at p2 <;> omega
    have := hx a b a1 a2 b1 b2 q1 q2
    unfold bef at *
    rw [E (10 + a) (by omega) (by omega) (by omega), E (10 + b) (by omega) (by omega) (by omega)]
    exact this
/-- the end of collecting -/
def finZ (z : Int → Int) : Int → Int := uZ (wriZ z) 2 0
theorem finZ_Vz {z : Int → Int} (hz : Vz z) (h : z 4 + 1 ≤ 900000000) : Vz (finZ z) := by
  have hw := wriZ_Vz hz h
  have hz3 := hz.1.1
  have e3 : wriZ z 3 = z 3 := wriZ_lo (by omega) (by omega) (by omega)
  have r1 : rowsAt (wriZ z) 1 = 0 := (rowsAt_0 (by rw [e3]; exact hz3)).mpr (fun r a b c => by
    rw [e3] at b
    rw [wriZ_pl hz3 a b] at c
    have := hz.1.2.2.1
    split at c <;> omega)
  have hw' := hw
  obtain ⟨hb, ⟨s0, s1, s2, s5, s6, s7, s8, s9⟩, hr, hs, hc, hm, ho, hi, hd, hx⟩ := hw'
  unfold finZ
  have N : ∀ j, j ≠ 2 → uZ (wriZ z) 2 0 j = wriZ z j := fun j hj => uZ_ne hj
  have ra : ∀ p, rowsAt (uZ (wriZ z) 2 0) p = rowsAt (wriZ z) p := fun p => rowsAt_lo (by omega) (by omega)
  have ri : riZ (uZ (wriZ z) 2 0) = riZ (wriZ z) := riZ_cong (N 3 (by omega)) (fun r a b => by rw [N _ (by omega)])
  refine Vz_move hw (Vb_lo hb (by omega) (by omega) (by omega)) (N 3 (by omega)) ?_ (fun r a b => ?_) (fun q => ?_) (fun _ => by rw [ra]; exact r1) (fun q => ?_) ?_ ?_
  · rw [N 0 (by omega), N 1 (by omega), N 5 (by omega), N 6 (by omega), N 7 (by omega), N 8 (by omega), N 9 (by omega), uZ_at]
    exact ⟨s0, rfl, Or.inl rfl, s5, s6, s7, s8, s9⟩
  · rw [N _ (by omega), N _ (by omega), N _ (by omega)]
    exact ⟨rfl, rfl, Iff.rfl, id⟩
  · rw [uZ_at] at q; omega
  · rw [N 5 (by omega)] at q
    rw [ra]; exact ho q
  · rw [N 5 (by omega), ri]; exact hi
  · intro a b a1 a2 b1 b2 p1 p2
    rw [N 3 (by omega)] at a2 b2
    rw [N _ (by omega)] at p1 p2
    have := hx a b a1 a2 b1 b2 p1 p2
    unfold bef at *
    rw [N _ (by omega), N _ (by omega)]
    exact this
