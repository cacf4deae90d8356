theorem fb_holes : ∀ (m n : Nat) (f : Nat → Nat), (∀ i, i < n → f i < m) → (∀ i j, i < j → j < n → f i ≠ f j) → n ≤ m := by
  intro m
  induction m with
  | zero =>
    intro n f h1 _
    rcases Nat.eq_zero_or_pos n with h | h
    · omega
    · exact absurd (h1 0 h) (Nat.not_lt_zero _)
  | succ m ih =>
    intro n f h1 h2
    by_cases hx : ∃ i, i < n ∧ f i = m
    · obtain ⟨a, ha, hfa⟩ := hx
      have hg := ih (n - 1) (fun i => if i < a then f i else f (i + 1)) (by
        intro i hi
        by_cases q : i < a
        · simp only [if_pos q]
          have b1 := h1 i (by omega)
          have b2 := h2 i a q ha
          omega
        · simp only [if_neg q]
          have b1 := h1 (i + 1) (by omega)
          have b2 := h2 a (i + 1) (by omega) (by omega)
          omega) (by
        intro i j hij hj
        by_cases q : i < a
        · by_cases r : j < a
          · simp only [if_pos q, if_pos r]
            exact h2 i j hij (by omega)
          · simp only [if_pos q, if_neg r]
            exact h2 i (j + 1) (by omega) (by omega)
        · have r : ¬ j < a := by omega
          simp only [if_neg q, if_neg r]
          exact h2 (i + 1) (j + 1) (by omega) (by omega))
      omega
    · have hg := ih n f (fun i hi => by
        have b1 := h1 i hi
        have b2 : f i ≠ m := fun e => hx ⟨i, hi, e⟩
        omega) h2
      omega
/-! copies of rows of 370 -/
def cpP (f g : Int → Int) (d n : Int) : Int → Int := fun k => if 0 ≤ k ∧ k < n then f (d + k) else g k
def ofP (f g : Int → Int) (d n : Int) : Int → Int := fun k => if d ≤ k ∧ k < d + n then f (k - d) else g k
theorem cpP_0 {f g : Int → Int} {d : Int} : cpP f g d 0 = g := by funext k; unfold cpP; rw [if_neg (by omega)]
theorem ofP_0 {f g : Int → Int} {d : Int} : ofP f g d 0 = g := by funext k; unfold ofP; rw [if_neg (by omega)]
theorem cpP_S {f g : Int → Int} {d n v : Int} (h : 0 ≤ n) (hv : v = f (d + n)) : uZ (cpP f g d n) n v = cpP f g d (n + 1) := by
  funext k
  unfold uZ cpP
  by_cases q : k = n
  · rw [if_pos q, if_pos (by omega), hv, q]
  · rw [if_neg q]
    by_cases q2 : 0 ≤ k ∧ k < n
    · rw [if_pos q2, if_pos (by omega)]
    · rw [if_neg q2, if_neg (by omega)]
theorem ofP_S {f g : Int → Int} {d n v : Int} (h : 0 ≤ n) (hv : v = f n) : uZ (ofP f g d n) (d + n) v = ofP f g d (n + 1) := by
  funext k
  unfold uZ ofP
  by_cases q : k = d + n
  · rw [if_pos q, if_pos (by omega), hv, show k - d = n by omega]
  · rw [if_neg q]
    by_cases q2 : d ≤ k ∧ k < d + n
    · rw [if_pos q2, if_pos (by omega)]
    · rw [if_neg q2, if_neg (by omega)]
theorem cpP_out {f g : Int → Int} {d n k : Int} (h : n ≤ k) : cpP f g d n k = g k := by unfold cpP; rw [if_neg (by omega)]
theorem cpP_in {f g : Int → Int} {d n k : Int} (h0 : 0 ≤ k) (h : k < n) : cpP f g d n k = f (d + k) := by unfold cpP; rw [if_pos ⟨h0, h⟩]
theorem ofP_in {f g : Int → Int} {d n k : Int} (h0 : d ≤ k) (h : k < d + n) : ofP f g d n k = f (k - d) := by unfold ofP; rw [if_pos ⟨h0, h⟩]
theorem ofP_out {f g : Int → Int} {d n k : Int} (h : k < d ∨ d + n ≤ k) : ofP f g d n k = g k := by unfold ofP; rw [if_neg (by omega)]
theorem sS_at {s : SS} {k : Nat} {v : Int} : (sS s k v).1 k = v := by
  show (if k = k then v else s.1 k) = v
  rw [if_pos rfl]
theorem sS_ne {s : SS} {k j : Nat} {v : Int} (h : j ≠ k) : (sS s k v).1 j = s.1 j := by
  show (if j = k then v else s.1 j) = _
  rw [if_neg h]
theorem sA_ne {s : SS} {k j : Nat} {f : Int → Int} (h : j ≠ k) : (sA s k f).2 j = s.2 j := by
  show (if j = k then f else s.2 j) = _
  rw [if_neg h]
theorem sS_sS {s : SS} {k : Nat} {v w : Int} : sS (sS s k v) k w = sS s k w := by
  unfold sS
  congr 1
  funext j
  by_cases q : j = k
  · rw [if_pos q, if_pos q]
  · rw [if_neg q, if_neg q]
    show (if j = k then v else s.1 j) = s.1 j
    rw [if_neg q]
theorem sS_self {s : SS} {k : Nat} : sS s k (s.1 k) = s := by
  refine Prod.ext (funext fun j => ?_) rfl
  show (if j = k then s.1 k else s.1 j) = s.1 j
  by_cases q : j = k
  · rw [if_pos q, q]
  · rw [if_neg q]
def recN (m : Int) : Int := if m = 4 then 3 else m
def recP (past : Int → Int) (m : Int) (z : Int → Int) : Int → Int := ofP z (if m = 4 then cpP past past 370 1110 else past) (recN m * 370) 370
def cpF (f g : Int → Int) (d : Int) : Int → Int := cpP f g d 370
/-- a run to the end is possible -/
def crZ (z : Int → Int) : Prop := manyZ z 0 + pz (z 2 = 1 ∧ 0 < rowsAt z 1 ∨ z 5 = 1) < 2 ∨ 1 < waysZ (z 0)
def goC (z : Int → Int) : Prop := z 2 = 0 ∧ (manyZ z 0 + z 5 < 2 ∨ 2 ≤ waysZ (z 0))
theorem finZ_many {z : Int → Int} (hz : Vb z) : manyZ (finZ z) 0 = manyZ z 0 + pz (0 < rowsAt z 1) := by
  obtain ⟨v1, v2, v3, v4, v5⟩ := hz
  unfold finZ
  rw [manyZ_lo (by omega) (by omega) (by omega)]
  unfold wriZ
  by_cases c : rowsAt z 1 = 0
  · rw [if_pos c, pz_f (by omega)]; omega
  · have hr := (rowsAt_le (z := z) (p := 1) v1).1
    rw [if_neg c, pz_t (by omega)]
    generalize hy : uZ z 7 (z 7 + rowsAt z 1) = y
    have e3 : y 3 = z 3 := by rw [← hy, uZ_ne (by omega)]
    have e4 : y 4 = z 4 := by rw [← hy, uZ_ne (by omega)]
    have ep : ∀ r, 0 ≤ r → y (250 + r) = z (250 + r) := fun r h => by rw [← hy, uZ_ne (by omega)]
    unfold manyZ
    rw [becm_4, e4, show (z 4 + 1).toNat = (z 4).toNat + 1 by omega, sumI]
    have a1 : sumI (fun k => pz (0 < rowsAt (becm y 1) (10 + 2 * k + 0))) (z 4).toNat = sumI (fun k => pz (0 < rowsAt z (10 + 2 * k + 0))) (z 4).toNat := sumI_cong (fun k hk => by
      rw [rowsAt_cong (z := z) (p := 10 + 2 * (k : Int) + 0) (by rw [becm_lo (by omega) (by omega), e3]) (fun r a b => by rw [becm_pl a (by omega), ep r a, e4]; split <;> omega)])
    have a2 : pz (0 < rowsAt (becm y 1) (10 + 2 * (((z 4).toNat : Nat) : Int) + 0)) = 1 := pz_t (by
      rw [rowsAt_cong (z := z) (p := 1) (by rw [becm_lo (by omega) (by omega), e3]) (fun r a b => by
        have := v5 r a b
        rw [becm_pl a (by omega), ep r a, e4]; split <;> omega)]
      omega)
    rw [a1, a2]
theorem finZ_same {z : Int → Int} (h2 : z 2 = 0) (hr : rowsAt z 1 = 0) : finZ z = z := by
  unfold finZ wriZ
  rw [if_pos hr]
  funext i
  unfold uZ
  split
  · rename_i h; rw [h, h2]
  · rfl
theorem finZ_goC {z : Int → Int} (hz : Vz z) (hc : crZ z) : goC (finZ z) := by
  have hb := hz.1
  have h5 : finZ z 5 = z 5 := by unfold finZ; rw [uZ_ne (by omega), wriZ_lo (by omega) (by omega) (by omega)]
  have h0 : finZ z 0 = z 0 := by unfold finZ; rw [uZ_ne (by omega), wriZ_lo (by omega) (by omega) (by omega)]
  have s5 := hz.2.1.2.2.2.1
  have s2 := hz.2.1.2.2.1
  have hcol := hz.2.2.2.2.1
  have hnc := hz.2.2.2.2.2.1
  refine ⟨by unfold finZ; rw [uZ_at], ?_⟩
  rw [finZ_many hb, h5, h0]
  rcases hc with q | q
  · refine Or.inl ?_
    by_cases c5 : z 5 = 1
    · rw [pz_t (Or.inr c5)] at q
      have hz2 : z 2 = 0 := by
        rcases s2 with s | s
        · exact s
        · have := (hcol s).1; omega
      rw [pz_f (by have := hnc hz2; omega)]
      omega
    · by_cases c1 : 0 < rowsAt z 1
      · have hz2 : z 2 = 1 := by
          rcases s2 with s | s
          · have := hnc s; omega
          · exact s
        rw [pz_t (Or.inl ⟨hz2, c1⟩)] at q
        rw [pz_t c1]; omega
      · rw [pz_f (by omega)] at q
        rw [pz_f c1]; omega
  · exact Or.inr (by omega)
theorem stpZ_sum {z : Int → Int} (hz : Vz z) (h : 0 < riZ z) (h4 : z 4 + 1 ≤ 900000000) : manyZ (stpZ z) 0 + stpZ z 5 = manyZ z 0 + z 5 := by
  have h5 : z 5 = 1 := hz.2.2.2.2.2.2.2.1.mpr h
  obtain ⟨hq, ri, out, mn, e3, e4, e8, e9, e0⟩ := stp0_all hz h
  have y5 : stp0 z 5 = 1 := hq.2.1.2.2.2.1
  unfold stpZ
  by_cases c : riZ (stp0 z) = 0
  · rw [if_pos c]
    have hb := hq.1
    have mn2 : manyZ (uZ (becm (stp0 z) 2) 5 0) 0 = manyZ (stp0 z) 0 + 1 := by
      unfold manyZ
      rw [close_4, show (stp0 z 4 + 1).toNat = (stp0 z 4).toNat + 1 by have := hb.2.2.1; omega, sumI]
      have z4 := hb.2.2.1
      have a1 : sumI (fun k => pz (0 < rowsAt (uZ (becm (stp0 z) 2) 5 0) (10 + 2 * k + 0))) (stp0 z 4).toNat = sumI (fun k => pz (0 < rowsAt (stp0 z) (10 + 2 * k + 0))) (stp0 z 4).toNat := sumI_cong (fun k hk => by
        rw [rowsAt_cong (p := 10 + 2 * (k : Int) + 0) (close_lo (by omega) (by omega) (by omega)) (fun r a b => by rw [close_pl a b]; split <;> omega)])
      have a2 : pz (0 < rowsAt (uZ (becm (stp0 z) 2) 5 0) (10 + 2 * (((stp0 z 4).toNat : Nat) : Int) + 0)) = 1 := pz_t (by
        rw [rowsAt_cong (z := stp0 z) (p := 2) (close_lo (by omega) (by omega) (by omega)) (fun r a b => by
          have := hb.2.2.2.2 r a b
          rw [close_pl a b]; split <;> omega)]
        exact out)
      rw [a1, a2]
    have c5 : uZ (becm (stp0 z) 2) 5 0 5 = 0 := uZ_at
    rw [mn2, c5, mn]; omega
  · rw [if_neg c, mn, y5, h5]
theorem goC_one {z : Int → Int} (hz : Vz z) (hg : goOn z) (hc : goC z) (h4 : z 4 + 1 ≤ 900000000) : (z 5 = 1 ∨ 2 ≤ waysZ (z 0)) ∧ goC (oneZ z) := by
  have s5 := hz.2.1.2.2.2.1
  have hw : z 5 = 1 ∨ 2 ≤ waysZ (z 0) := by
    rcases hc.2 with q | q
    · rcases hg with g | g
      · exact Or.inl g
      · exact absurd q (by omega)
    · exact Or.inr q
  refine ⟨hw, ?_⟩
  obtain ⟨g1, g2, g3, g4, g5, g6, g7, g8, g9, g10⟩ := oneZ_all hz hc.1 hw hg h4
  refine ⟨g10, ?_⟩
  rw [g9]
  rcases hc.2 with q | q
  · refine Or.inl ?_
    rcases hg with g | g
    · have hri := hz.2.2.2.2.2.2.2.1.mp g
      have := stpZ_sum hz hri h4
      unfold oneZ
      rw [if_neg (by omega), this]; exact q
    · omega
  · exact Or.inr q
theorem phi_nn {z : Int → Int} (hz : Vz z) : 0 ≤ phiZ z := by
  have h1 := (riZ_le hz.1.1).1
  have h2 := (manyZ_nn (z := z) (k := 0) hz.1.2.2.1).1
  have h5 := hz.2.1.2.2.2.1
  unfold phiZ
  omega
/-- there are no more runs than rows -/
theorem cnt_le {P : Int → Prop} [DecidablePred P] {n : Nat} (c : Nat → Int) (h1 : ∀ k : Nat, P k → 0 ≤ c k ∧ c k < n) (h2 : ∀ j k : Nat, P j → P k → c j = c k → j = k) : ∀ m : Nat, sumI (fun k => pz (P k)) m ≤ n := by
  intro m
  have key : ∀ m : Nat, ∃ len : Nat, sumI (fun k => pz (P k)) m = len ∧ ∃ d : Nat → Nat, (∀ j, j < len → d j < m ∧ P (d j)) ∧ ∀ i j, i < j → j < len → d i < d j := by
    intro m
    induction m with
    | zero => exact ⟨0, rfl, fun _ => 0, fun j hj => absurd hj (Nat.not_lt_zero _), fun i j _ hj => absurd hj (Nat.not_lt_zero _)⟩
    | succ m ih =>
      obtain ⟨len, e, d, a1, a2⟩ := ih
      by_cases q : P m
      · refine ⟨len + 1, by rw [sumI, e, pz_t q]; omega, fun j => if j = len then m else d j, fun j hj => ?_, fun i j hij hj => ?_⟩
        · dsimp only
          by_cases q2 : j = len
          · rw [if_pos q2]; exact ⟨by omega, q⟩
          · rw [if_neg q2]
            have := a1 j (by omega)
            exact ⟨by omega, this.2⟩
        · dsimp only
          rw [if_neg (show ¬ i = len by omega)]
          by_cases q2 : j = len
          · rw [if_pos q2]; exact (a1 i (by omega)).1
          · rw [if_neg q2]; exact a2 i j hij (by omega)
      · exact ⟨len, by rw [sumI, e, pz_f q]; omega, d, fun j hj => ⟨by have := (a1 j hj).1; omega, (a1 j hj).2⟩, a2⟩
  obtain ⟨len, e, d, a1, a2⟩ := key m
  rw [e]
  have := fb_holes n len (fun j => (c (d j)).toNat) (fun j hj => by have := h1 (d j) (a1 j hj).2; omega) (fun i j hij hj q => by
    have p1 := h1 (d i) (a1 i (by omega)).2
    have p2 := h1 (d j) (a1 j hj).2
    have := h2 (d i) (d j) (a1 i (by omega)).2 (a1 j hj).2 (by omega)
    have := a2 i j hij hj
    omega)
  omega
theorem runs_rows {z : Int → Int} {kind : Int} (hz : Vb z) : manyZ z kind ≤ z 3 := by
  have h1 := hz.1
  have ex : ∀ k : Nat, ∃ r : Int, 0 < rowsAt z (10 + 2 * (k : Int) + kind) → 0 ≤ r ∧ r < z 3 ∧ z (250 + r) = 10 + 2 * (k : Int) + kind := by
    intro k
    by_cases q : 0 < rowsAt z (10 + 2 * (k : Int) + kind)
    · obtain ⟨r, hr⟩ := rowsAt_pos.mp q
      exact ⟨r, fun _ => hr⟩
    · exact ⟨0, fun x => absurd x q⟩
  obtain ⟨c, hc⟩ := Classical.axiomOfChoice ex
  have := cnt_le (P := fun k => 0 < rowsAt z (10 + 2 * k + kind)) (n := (z 3).toNat) c (fun k hk => by have := hc k hk; omega) (fun j k hj hk e => by
    have a := hc j hj
    have b := hc k hk
    rw [e] at a
    omega) (z 4).toNat
  unfold manyZ
  omega
