/-! ===== the items of a text are added: what holds of the row ===== -/
def GrowI (z y : Int → Int) : Prop := Vz y ∧ y 2 = 1 ∧ z 3 ≤ y 3 ∧ y 4 + z 3 ≤ z 4 + y 3 ∧ z 4 ≤ y 4 ∧ y 7 + 120 * z 3 ≤ z 7 + 120 * y 3 ∧ z 7 ≤ y 7 ∧ y 8 = z 8 ∧ y 9 = z 9
theorem GrowI_0 {z : Int → Int} (h : Vz z) (h2 : z 2 = 1) : GrowI z z := ⟨h, h2, by omega, by omega, by omega, by omega, by omega, rfl, rfl⟩
theorem GrowI_t {x y z : Int → Int} (h : GrowI x y) (h2 : GrowI y z) : GrowI x z := by
  obtain ⟨a1, a2, a3, a4, a5, a6, a7, a8, a9⟩ := h
  obtain ⟨b1, b2, b3, b4, b5, b6, b7, b8, b9⟩ := h2
  exact ⟨b1, b2, by omega, by omega, by omega, by omega, by omega, by omega, by omega⟩
/-- an item that can be added -/
def itV (key rows stp : Int) : Prop := (0 ≤ key ∧ key ≤ 999) ∧ (1 ≤ rows ∧ rows ≤ 1000) ∧ (stp = 0 ∨ (stp = 1 ∧ key + rows ≤ 1000))
theorem itV_key {key rows stp i : Int} (h : itV key rows stp) (h0 : 0 ≤ i) (h1 : i < rows) : 0 ≤ key + i * stp ∧ key + i * stp ≤ 999 ∧ 0 ≤ i * stp ∧ i * stp ≤ 1000 := by
  obtain ⟨a, b, c⟩ := h
  rcases c with c | ⟨c, d⟩
  · subst c; omega
  · subst c; omega
theorem rdI_inv {z : Int → Int} {key rows stp : Int} (hz : Vz z) (h2 : z 2 = 1) (hv : itV key rows stp) (hB : z 4 + 200 ≤ 900000000) : ∀ i : Nat, (i : Int) ≤ rows → (i : Int) ≤ 120 - z 3 → GrowI z (rdI z key stp i) ∧ (rdI z key stp i) 3 = z 3 + i
  | 0, _, _ => ⟨GrowI_0 hz h2, by rw [rdI]; omega⟩
  | i + 1, h, h' => by
    obtain ⟨g, g3⟩ := rdI_inv hz h2 hv hB i (by omega) (by omega)
    have hg := g
    obtain ⟨a1, a2, a3, a4, a5, a6, a7, a8, a9⟩ := hg
    obtain ⟨k1, k2, _⟩ := itV_key hv (i := i) (by omega) (by omega)
    have z3 := hz.1.1
    obtain ⟨w1, w2, w3, w4, w5, w6, w7, w8, w9⟩ := addZ_Vz (key := key + i * stp) a1 ⟨k1, k2⟩ (by omega) a2 (by omega)
    rw [rdI]
    exact ⟨⟨w1, w9, by omega, by omega, by omega, by omega, by omega, by omega, by omega⟩, by omega⟩
theorem itm_grow {z : Int → Int} {key rows stp : Int} (hz : Vz z) (h2 : z 2 = 1) (hv : itV key rows stp) (hB : z 4 + 200 ≤ 900000000) : GrowI z (itmZ z key rows stp) := by
  have h3 := hz.1.2.1
  have hr := hv.2.1
  exact (rdI_inv hz h2 hv hB (min rows (120 - z 3)).toNat (by omega) (by omega)).1
def wfA (a : AT) : Prop := (a.1 = 0 ∨ a.1 = 1 ∨ a.1 = 2) ∧ 0 ≤ a.2.1 ∧ 0 ≤ a.2.2.2 ∧ a.2.1 ≤ 999
theorem mxQ_le {k : Int} : mxQ k ≤ 999 := by unfold mxQ; split <;> omega
theorem wfA_nx {a : AT} {c : Int} (h : wfA a) (hc : accA a c) : wfA (nxA a c) := by
  obtain ⟨kd, fk, hd, va⟩ := a
  obtain ⟨h1, h2, h3, h4⟩ := h
  have h1' : kd = 0 ∨ kd = 1 ∨ kd = 2 := h1
  have h2' : 0 ≤ fk := h2
  have h3' : 0 ≤ va := h3
  have h4' : fk ≤ 999 := h4
  show wfA (nxQ kd fk va c)
  unfold nxQ
  by_cases d : 48 ≤ c ∧ c ≤ 57
  · rw [if_pos d]
    exact ⟨h1, h2, by show 0 ≤ va * 10 + (c - 48); omega, h4⟩
  · rw [if_neg d]
    have w := ((acc_non d).mp hc).1
    have w2 : va ≤ mxQ kd := w.2.1
    have := mxQ_le (k := kd)
    by_cases e : c = 44
    · rw [if_pos e]; exact ⟨Or.inl rfl, Int.le_refl _, Int.le_refl _, by show (0 : Int) ≤ 999; omega⟩
    · rw [if_neg e]
      by_cases f : c = 120
      · rw [if_pos f]; exact ⟨Or.inr (Or.inl rfl), h3', Int.le_refl _, by show va ≤ 999; omega⟩
      · rw [if_neg f]; exact ⟨Or.inr (Or.inr rfl), h3', Int.le_refl _, by show va ≤ 999; omega⟩
theorem wfA_g {cs : Int → Int} {n : Int} {a : AT} (h : StA cs n a) : ∀ j : Nat, (j : Int) ≤ n → wfA (gA cs j)
  | 0, _ => ⟨Or.inl rfl, Int.le_refl _, Int.le_refl _, by show (0 : Int) ≤ 999; omega⟩
  | j + 1, hj => by
    rw [gA]
    exact wfA_nx (wfA_g h j (by omega)) (h.2.1 j (by omega))
theorem itV_wh {a : AT} (h : wfA a) (w : whA a) : itV (itK a) (itN a) (itS a) := by
  obtain ⟨kd, fk, hd, va⟩ := a
  obtain ⟨h1, h2, h3, h4⟩ := h
  have h1' : kd = 0 ∨ kd = 1 ∨ kd = 2 := h1
  have h2' : 0 ≤ fk := h2
  have h3' : 0 ≤ va := h3
  have h4' : fk ≤ 999 := h4
  have w1 : va ≤ mxQ kd := w.2.1
  have w2 : mnQ kd fk ≤ va := w.2.2
  have eK : itK (kd, fk, hd, va) = if kd = 0 then va else fk := rfl
  have eN : itN (kd, fk, hd, va) = if kd = 0 then 1 else if kd = 1 then va else va - fk + 1 := rfl
  have eS : itS (kd, fk, hd, va) = if kd = 2 then 1 else 0 := rfl
  rw [eK, eN, eS]
  rcases h1' with e | e | e
  · subst e
    rw [mxQ_0] at w1
    rw [if_pos rfl, if_pos rfl, if_neg (by omega)]
    exact ⟨by omega, by omega, Or.inl rfl⟩
  · subst e
    rw [mxQ_1] at w1
    rw [mnQ_1] at w2
    rw [if_neg (by omega), if_neg (by omega), if_pos rfl, if_neg (by omega)]
    exact ⟨by omega, by omega, Or.inl rfl⟩
  · subst e
    rw [mxQ_2] at w1
    rw [mnQ_2] at w2
    rw [if_neg (by omega), if_neg (by omega), if_neg (by omega), if_pos rfl]
    exact ⟨by omega, by omega, Or.inr ⟨rfl, by omega⟩⟩
theorem whA_comma {cs : Int → Int} {n : Int} {a : AT} (h : StA cs n a) {j : Int} (h0 : 0 ≤ j) (hj : j < n) (hc : cs j = 44) : whA (gA cs j.toNat) := by
  have q := h.2.1 j.toNat (by omega)
  rw [show ((j.toNat : Nat) : Int) = j by omega, hc] at q
  exact ((acc_non (by omega)).mp q).1
/-- the item at a comma, and the last one -/
theorem item_ok {cs : Int → Int} {n : Int} (h : OkA cs n) {j : Int} (h0 : 0 ≤ j) (hj : j = n ∨ (j < n ∧ cs j = 44)) : itV (itK (gA cs j.toNat)) (itN (gA cs j.toNat)) (itS (gA cs j.toNat)) := by
  obtain ⟨a, hs, hw⟩ := h
  rcases hj with e | ⟨e, e2⟩
  · subst e
    have g := wfA_g hs j.toNat (by omega)
    rw [hs.2.2] at g ⊢
    exact itV_wh g hw
  · exact itV_wh (wfA_g hs j.toNat (by omega)) (whA_comma hs h0 e e2)
theorem cnA_at {cs : Int → Int} : ∀ (n : Nat) (k : Int), 0 ≤ k → k < cnA cs n → ∃ j, 0 ≤ j ∧ j < (n : Int) ∧ cs j = 44 ∧ cnA cs j = k
  | 0, k, h0, h => by
    have : cnA cs ((0 : Nat) : Int) = 0 := rfl
    omega
  | n + 1, k, h0, h => by
    have e : cnA cs ((n + 1 : Nat) : Int) = cnA cs n + pz (cs n = 44) := by
      rw [show ((n + 1 : Nat) : Int) = (n : Int) + 1 by omega]
      unfold cnA
      rw [sumI_S (by omega)]
    by_cases c : k < cnA cs n
    · obtain ⟨j, j0, j1, j2, j3⟩ := cnA_at n k h0 c
      exact ⟨j, j0, by omega, j2, j3⟩
    · have hp := pz_01 (cs n = 44)
      have hk : k = cnA cs n := by omega
      exact ⟨n, by omega, by omega, pz_1 (by omega), hk.symm⟩
def rdT (f z : Int → Int) : Nat → Int → Int
  | 0 => z
  | k + 1 => itmZ (rdT f z k) (f (3 * k)) (f (3 * k + 1)) (f (3 * k + 2))
theorem rdT_V {cs f : Int → Int} {n : Int} (hn : 0 ≤ n) (h : OkA cs n) (ht : tldA cs f n) {k : Int} (h0 : 0 ≤ k) (hk : k ≤ cnA cs n) : itV (f (3 * k)) (f (3 * k + 1)) (f (3 * k + 2)) := by
  by_cases c : k < cnA cs n
  · obtain ⟨j, j0, j1, j2, j3⟩ := cnA_at (cs := cs) n.toNat k h0 (by rw [show ((n.toNat : Nat) : Int) = n by omega]; exact c)
    obtain ⟨e1, e2, e3⟩ := ht.1 j j0 (by omega) j2
    rw [j3] at e1 e2 e3
    rw [e1, e2, e3]
    exact item_ok h j0 (Or.inr ⟨by omega, j2⟩)
  · obtain ⟨e1, e2, e3⟩ := ht.2
    rw [show cnA cs n = k by omega] at e1 e2 e3
    rw [e1, e2, e3]
    exact item_ok h hn (Or.inl rfl)
theorem rdT_grow {f z : Int → Int} {K : Int} (hz : Vz z) (h2 : z 2 = 1) (hB : z 4 + 400 ≤ 900000000) (hv : ∀ k, 0 ≤ k → k < K → itV (f (3 * k)) (f (3 * k + 1)) (f (3 * k + 2))) : ∀ k : Nat, (k : Int) ≤ K → GrowI z (rdT f z k)
  | 0, _ => GrowI_0 hz h2
  | k + 1, hk => by
    have g := rdT_grow hz h2 hB hv k (by omega)
    have hg := g
    obtain ⟨a1, a2, a3, a4, a5, a6, a7, a8, a9⟩ := hg
    have z3 := hz.1.1
    have y3 := a1.1.2.1
    rw [rdT]
    exact GrowI_t g (itm_grow a1 a2 (hv k (by omega) (by omega)) (by omega))
theorem rdT_P {cs f z : Int → Int} {n : Int} (ht : tldA cs f n) : ∀ i : Nat, (i : Int) ≤ n → rdT f z (cnA cs i).toNat = rdP cs z i
  | 0, _ => rfl
  | i + 1, hi => by
    have ih := rdT_P (z := z) ht i (by omega)
    have hn : 0 ≤ cnA cs i := sumI_nn (fun r _ => pz_nn _)
    rw [rdP, show ((i + 1 : Nat) : Int) = (i : Int) + 1 by omega]
    by_cases c : cs i = 44
    · obtain ⟨e1, e2, e3⟩ := ht.1 i (by omega) (by omega) c
      rw [if_pos c, cnA_C (by omega) c, show (cnA cs i + 1).toNat = (cnA cs i).toNat + 1 by omega, rdT, ih, show (((cnA cs i).toNat : Nat) : Int) = cnA cs i by omega, e1, e2, e3]
      rfl
    · rw [if_neg c, cnA_S (by omega) c]
      exact ih
theorem rdT_Z {cs f z : Int → Int} {n : Int} (hn : 0 ≤ n) (ht : tldA cs f n) : rdT f z (cnA cs n + 1).toNat = rdZ cs z n := by
  have hc : 0 ≤ cnA cs n := sumI_nn (fun r _ => pz_nn _)
  have e := rdT_P (z := z) ht n.toNat (by omega)
  rw [show ((n.toNat : Nat) : Int) = n by omega] at e
  obtain ⟨e1, e2, e3⟩ := ht.2
  rw [show (cnA cs n + 1).toNat = (cnA cs n).toNat + 1 by omega, rdT, e, show (((cnA cs n).toNat : Nat) : Int) = cnA cs n by omega, e1, e2, e3]
  rfl
/-- there are fewer than 41 commas -/
theorem cnA_half {cs : Int → Int} {n : Int} {a : AT} (h : StA cs n a) : ∀ j : Nat, (j : Int) ≤ n → 2 * cnA cs j ≤ j ∧ (gA cs j = (0, 0, 0, 0) ∨ 2 * cnA cs j + 1 ≤ j)
  | 0, _ => ⟨by have : cnA cs ((0 : Nat) : Int) = 0 := rfl; omega, Or.inl rfl⟩
  | j + 1, hj => by
    obtain ⟨i1, i2⟩ := cnA_half h j (by omega)
    rw [show ((j + 1 : Nat) : Int) = (j : Int) + 1 by omega]
    by_cases c : cs j = 44
    · have w := whA_comma h (j := j) (by omega) (by omega) c
      rw [Int.toNat_natCast] at w
      rw [cnA_C (by omega) c]
      rcases i2 with e | e
      · rw [e] at w
        exact absurd w.1 (by show ¬ (0 : Int) = 1; omega)
      · refine ⟨by omega, Or.inl ?_⟩
        rw [gA]
        show nxQ _ _ _ _ = _
        rw [c]
        unfold nxQ
        rw [if_neg (by omega), if_pos rfl]
    · rw [cnA_S (by omega) c]
      exact ⟨by omega, Or.inr (by omega)⟩
theorem sum_k {cs : Int → Int} {n : Int} (h : OkA cs n) (hn : 0 ≤ n ∧ n ≤ 80) : cnA cs n ≤ 40 := by
  obtain ⟨a, hs, _⟩ := h
  have := (cnA_half hs n.toNat (by omega)).1
  rw [show ((n.toNat : Nat) : Int) = n by omega] at this
  omega
