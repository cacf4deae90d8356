/-! ===== what holds at the law's places ===== -/
def MW (z : Int → Int) : Prop := z 5 = 1 → manyZ z 1 ≤ waysZ (z 0)
def JA (cu sv : SS) (hs ol tt : Int) (s0 s1 s2 s3 : SS) (cs : Int → Int) (ln : Int) (mm : SS) (nn : Int) (f n l d m k c t : Int → Int) : Prop := Rep6 cu sv hs ol tt s0 s1 s2 s3 cs ln mm nn ∧ LV f n l d m k t (mm.2 0) ∧ LC c (mm.2 0) ∧ MW (mm.2 0)
theorem nxM_0 {m : SS} {z : Int → Int} : (nxM m z).2 0 = z := sA_at
theorem MW_5 {z : Int → Int} (h : z 5 = 0) : MW z := fun q => by omega
theorem MW_col {z : Int → Int} (hz : Vz z) (h2 : z 2 = 1) : MW z := by
  obtain ⟨_, _, _, _, vc, _⟩ := hz
  exact MW_5 (vc h2).1
theorem sumI_le1 {f g : Int → Int} {K : Int} : ∀ {n : Nat}, (∀ r : Nat, r < n → (r : Int) ≠ K → f r ≤ g r) → (∀ r : Nat, r < n → f r ≤ g r + 1) → sumI f n ≤ sumI g n + 1
  | 0, _, _ => by show (0 : Int) ≤ 0 + 1; omega
  | n + 1, h1, h2 => by
    rw [sumI, sumI]
    by_cases c : (n : Int) = K
    · have a := sumI_le (f := f) (g := g) (n := n) (fun r hr => h1 r (by omega) (by omega))
      have b := h2 n (by omega)
      omega
    · have a := sumI_le1 (f := f) (g := g) (K := K) (n := n) (fun r hr => h1 r (by omega)) (fun r hr => h2 r (by omega))
      have b := h1 n (by omega) c
      omega
theorem mv_many1 {z : Int → Int} {K : Int} : manyZ (mvZ z (10 + 2 * K)) 1 ≤ manyZ z 1 + 1 := by
  unfold manyZ
  rw [mvZ_lo (by omega : (4 : Int) < 250)]
  refine sumI_le1 (K := K) (fun r hr c => ?_) (fun r hr => ?_)
  · try dsimp only
    rw [mvZ_rows (by omega) (by omega)]
    exact Int.le_refl _
  · have a := pz_01 (0 < rowsAt (mvZ z (10 + 2 * K)) (10 + 2 * (r : Int) + 1))
    have b := pz_nn (0 < rowsAt z (10 + 2 * (r : Int) + 1))
    try dsimp only
    omega
theorem bg_many1 {z : Int → Int} : ∀ k : Nat, manyZ (bgI z k) 1 ≤ manyZ z 1 + k
  | 0 => by show manyZ z 1 ≤ manyZ z 1 + 0; omega
  | k + 1 => by
    have h1 := bg_many1 (z := z) k
    have h2 : manyZ (bgI z (k + 1)) 1 ≤ manyZ (bgI z k) 1 + 1 := by
      show manyZ (mvZ (bgI z k) (smlZ (bgI z k))) 1 ≤ _
      exact mv_many1
    omega
theorem beg_MW {z : Int → Int} (hz : Vz z) (h5 : z 5 = 0) (h2 : z 2 = 0) (hN : 1 ≤ begN z) : MW (begZ z) := fun _ => by
  have hb := hz.1
  have r0 : riZ z = 0 := by
    have := (riZ_le hb.1).1
    obtain ⟨_, _, _, _, _, _, _, w, _⟩ := hz
    have : ¬ 0 < riZ z := fun q => by have := w.mpr q; omega
    omega
  have m0 := (many_ri hb).mpr r0
  have e0 : begZ z 0 = z 0 := begZ_lo hb (by omega) (by omega) (by omega) (by omega)
  have e1 : manyZ (begZ z) 1 = manyZ (bgI (uZ z 6 (begN z)) (begN z).toNat) 1 := by
    unfold begZ
    rw [manyZ_lo (by omega) (by omega) (by omega), manyZ_lo (by omega) (by omega) (by omega)]
  have e2 := bg_many1 (z := uZ z 6 (begN z)) (begN z).toNat
  rw [manyZ_lo (by omega) (by omega) (by omega), m0] at e2
  have : begN z ≤ waysZ (z 0) := by unfold begN; omega
  rw [e0, e1]
  omega
theorem stp_MW {z : Int → Int} (hz : Vz z) (h : 0 < riZ z) (hM : MW z) : MW (stpZ z) := fun q => by
  have hb := hz.1
  have A := stp0_all hz h
  have r0 : ¬ riZ (stp0 z) = 0 := fun w => by
    have : stpZ z = uZ (becm (stp0 z) 2) 5 0 := if_pos w
    rw [this, uZ_at] at q; omega
  have es : stpZ z = stp0 z := if_neg r0
  have z5 : z 5 = 1 := by
    have hz' := hz
    obtain ⟨_, _, _, _, _, _, _, w, _⟩ := hz'
    exact w.mpr h
  obtain ⟨y1, y2, y3, _⟩ := frV_spec h
  have hlo : loV z = -6 ∨ (0 ≤ loV z ∧ loV z < z 3) := by
    rcases loV_spec (z := z) hb.1 with ⟨s1, _⟩ | ⟨s1, s2, _⟩
    · exact Or.inl s1
    · exact Or.inr ⟨s1, s2⟩
  have q3 := A.2.2.2.2.1
  have q4 := A.2.2.2.2.2.1
  have q0 := A.2.2.2.2.2.2.2.2
  rw [es, q0]
  have le : manyZ (stp0 z) 1 ≤ manyZ z 1 := by
    unfold manyZ
    rw [q4]
    refine sumI_le (fun r hr => ?_)
    try dsimp only
    by_cases c : 0 < rowsAt (stp0 z) (10 + 2 * (r : Int) + 1)
    · have : 0 < rowsAt z (10 + 2 * (r : Int) + 1) := by
        obtain ⟨x, x1, x2, x3⟩ := rowsAt_pos.mp c
        rw [q3] at x2
        rw [stp0_pl hb.2.1 y1 y2 hlo x1 x2] at x3
        refine rowsAt_pos.mpr ⟨x, x1, x2, ?_⟩
        by_cases w : x = frV z
        · rw [if_pos w] at x3
          split at x3 <;> omega
        · rw [if_neg w] at x3; exact x3
      rw [pz_t c, pz_t this]; exact Int.le_refl _
    · rw [pz_f c]; exact pz_nn _
  have := hM z5
  omega
theorem gra_MW {z : Int → Int} {v : Int} (hz : Vz z) : MW (graZ z v) := fun q => by
  have hz' := hz
  obtain ⟨_, _, _, _, vc, _⟩ := hz'
  unfold graZ at q ⊢
  by_cases c : z 2 = 1 ∧ v < rowsAt z 1
  · rw [if_pos c] at q
    rw [wriZ_lo (by omega) (by omega) (by omega), uZ_ne (by omega)] at q
    have := (vc c.1).1
    omega
  · rw [if_neg c] at q ⊢
    by_cases c2 : z 5 = 1 ∧ waysZ v < manyZ z 1
    · rw [if_pos c2, cutZ_5] at q; omega
    · rw [if_neg c2] at q ⊢
      rw [uZ_ne (by omega)] at q
      rw [uZ_at, manyZ_lo (by omega) (by omega) (by omega)]
      have : ¬ waysZ v < manyZ z 1 := fun w => c2 ⟨q, w⟩
      omega
/-- a grant of the memory that is there -/
theorem gra_self {z : Int → Int} (hz : Vz z) (hM : MW z) : graZ z (z 0) = z := by
  have hz' := hz
  obtain ⟨_, _, _, _, vc, _⟩ := hz'
  have e : uZ z 0 (z 0) = z := by
    funext i
    unfold uZ
    by_cases c : i = 0
    · rw [if_pos c, c]
    · rw [if_neg c]
  unfold graZ
  rw [if_neg (fun q => by have := (vc q.1).2; omega), if_neg (fun q => by have := hM q.1; omega), e]
theorem nx_add_0 {m : SS} {key : Int} (hk : 0 ≤ key ∧ key ≤ 999) (h2 : m.2 0 2 = 1) (h3 : m.2 0 3 < 120) : (nx_add m key).2 0 = addZ (m.2 0) key ∧ an_add (m.2 0) key = m.2 0 3 := by
  unfold nx_add an_add
  rw [if_neg (fun q => q hk), if_neg (show ¬ m.2 0 2 = 0 by omega), if_neg (show ¬ m.2 0 3 = 120 by omega), if_neg (fun q => q hk), if_neg (show ¬ m.2 0 2 = 0 by omega), if_neg (show ¬ m.2 0 3 = 120 by omega)]
  exact ⟨nxM_0, rfl⟩
theorem growZ_one {z : Int → Int} {k w a b : Int} (h1 : growZ z k w a) (h2 : growZ z k w b) : a = b := by
  rcases h1 with ⟨c1, y, A, e⟩ | ⟨c1, e⟩ <;> rcases h2 with ⟨c2, y', A', e'⟩ | ⟨c2, e'⟩
  · rw [e, e', AllZ_one A A']
  · exact absurd c1 c2
  · exact absurd c2 c1
  · rw [e, e']
theorem step_no {m m' : SS} {k r : Int} (h : rl_step m k r m') (hk : 1 ≤ k ∧ k ≤ 200) (h5 : m.2 0 5 = 0) : r = -3 ∧ m' = m := by
  rcases h with ⟨w, _⟩ | ⟨_, _, e, e2⟩ | ⟨_, w, _⟩
  · exact absurd hk w
  · exact ⟨e, e2⟩
  · exact absurd h5 w
theorem nx_flush_0 {m : SS} (h2 : m.2 0 2 = 1) : (nx_flush m).2 0 = wriZ (m.2 0) ∧ an_flush (m.2 0) = (if rowsAt (m.2 0) 1 = 0 then -6 else m.2 0 4) := by
  unfold nx_flush an_flush
  rw [if_neg (show ¬ m.2 0 2 = 0 by omega), if_neg (show ¬ m.2 0 2 = 0 by omega)]
  exact ⟨nxM_0, rfl⟩
theorem nx_finish_0 {m : SS} (h2 : m.2 0 2 = 1) : (nx_finish m).2 0 = finZ (m.2 0) ∧ an_finish (m.2 0) = manyZ (finZ (m.2 0)) 0 := by
  unfold nx_finish an_finish
  rw [if_neg (show ¬ m.2 0 2 = 0 by omega), if_neg (show ¬ m.2 0 2 = 0 by omega)]
  exact ⟨nxM_0, rfl⟩
theorem nx_grant_0 {m : SS} {s : Int} (hs : 2 ≤ s ∧ s ≤ 20) : (nx_grant m s).2 0 = graZ (m.2 0) s ∧ an_grant (m.2 0) s = graA (m.2 0) s := by
  unfold nx_grant an_grant
  rw [if_neg (fun q => q hs), if_neg (fun q => q hs)]
  exact ⟨nxM_0, rfl⟩
theorem no_col {m : SS} (h2 : m.2 0 2 = 0) : (nx_add m 1 = m ∧ an_add (m.2 0) 1 = -3) ∧ (nx_flush m = m ∧ an_flush (m.2 0) = -3) ∧ nx_finish m = m ∧ an_finish (m.2 0) = -3 := by
  unfold nx_add an_add nx_flush an_flush nx_finish an_finish
  rw [if_neg (by decide), if_pos h2, if_neg (by decide), if_pos h2, if_pos h2, if_pos h2, if_pos h2, if_pos h2]
  exact ⟨⟨rfl, rfl⟩, ⟨rfl, rfl⟩, rfl, rfl⟩
/-- the best size, looked for from above -/
def BI (z : Int → Int) (b l s : Int) : Prop := (1 ≤ s ∧ s ≤ 20) ∧ ∃ c : Int → Int, (∀ k, s < k → k ≤ 20 → growZ z k 7 (c k)) ∧ ((b = -1 ∧ ∀ k, s < k → k ≤ 20 → c k < 0) ∨ ((s < b ∧ b ≤ 20) ∧ 0 ≤ c b ∧ l = c b ∧ ∀ k, s < k → k ≤ 20 → 0 ≤ c k → c b ≤ c k ∧ (k < b → c b < c k)))
theorem BI_0 {z : Int → Int} : BI z (-1) 0 20 := ⟨by omega, fun _ => 0, fun k a b => by omega, Or.inl ⟨rfl, fun k a b => by omega⟩⟩
theorem BI_step {z : Int → Int} {b l s r : Int} (h : BI z b l s) (hs : 1 < s) (hg : growZ z s 7 r) : ((r < 0 ∨ (¬ b < 0 ∧ l < r)) → BI z b l (s - 1)) ∧ ((0 ≤ r ∧ (b < 0 ∨ r ≤ l)) → BI z s r (s - 1)) ∧ b ≠ s := by
  obtain ⟨h1, c, h2, h3⟩ := h
  have ext : ∀ k, s - 1 < k → k ≤ 20 → growZ z k 7 (uZ c s r k) := fun k a e => by
    by_cases w : k = s
    · rw [w, uZ_at]; exact hg
    · rw [uZ_ne w]; exact h2 k (by omega) e
  refine ⟨fun q => ⟨by omega, uZ c s r, ext, ?_⟩, fun q => ⟨by omega, uZ c s r, ext, Or.inr ⟨by omega, by rw [uZ_at]; exact q.1, by rw [uZ_at], fun k a e g => ?_⟩⟩, ?_⟩
  · rcases h3 with ⟨w, w1⟩ | ⟨w, w1, w2, w3⟩
    · refine Or.inl ⟨w, fun k a e => ?_⟩
      by_cases v : k = s
      · rw [v, uZ_at]; omega
      · rw [uZ_ne v]; exact w1 k (by omega) e
    · refine Or.inr ⟨by omega, by rw [uZ_ne (by omega)]; exact w1, by rw [uZ_ne (by omega)]; exact w2, fun k a e g => ?_⟩
      rw [uZ_ne (show b ≠ s by omega)]
      by_cases v : k = s
      · rw [v, uZ_at] at g ⊢; omega
      · rw [uZ_ne v] at g ⊢; exact w3 k (by omega) e g
  · rw [uZ_at]
    by_cases v : k = s
    · rw [v, uZ_at]; omega
    · rw [uZ_ne v] at g ⊢
      rcases h3 with ⟨w, w1⟩ | ⟨w, w1, w2, w3⟩
      · have := w1 k (by omega) e
        omega
      · have := w3 k (by omega) e g
        omega
  · rcases h3 with ⟨w, _⟩ | ⟨w, _⟩ <;> omega
theorem bsF_spec {c : Int → Int} : ∀ n : Nat, (bsF c n = -6 ∧ ∀ k, 2 ≤ k → k < 2 + (n : Int) → c k < 0) ∨ ((2 ≤ bsF c n ∧ bsF c n < 2 + (n : Int)) ∧ 0 ≤ c (bsF c n) ∧ ∀ k, 2 ≤ k → k < 2 + (n : Int) → 0 ≤ c k → c (bsF c n) ≤ c k ∧ (k < bsF c n → c (bsF c n) < c k))
  | 0 => Or.inl ⟨rfl, fun k a b => by omega⟩
  | n + 1 => by
    have e := bsF_S (c := c) (k := (n : Int) + 2) (r := c ((n : Int) + 2)) (b := bsF c n) (by omega) (by rw [show ((n : Int) + 2 - 2).toNat = n by omega])
    have e2 : uZ c ((n : Int) + 2) (c ((n : Int) + 2)) = c := by
      funext j
      unfold uZ
      by_cases w : j = (n : Int) + 2
      · rw [if_pos w, w]
      · rw [if_neg w]
    rw [e2, show ((n : Int) + 2 + 1 - 2).toNat = n + 1 by omega] at e
    have ih := bsF_spec (c := c) n
    rw [e]
    by_cases w : 0 ≤ c ((n : Int) + 2) ∧ (bsF c n = -6 ∨ c ((n : Int) + 2) < c (bsF c n))
    · rw [if_pos w]
      refine Or.inr ⟨by omega, w.1, fun k a b g => ?_⟩
      by_cases v : k = (n : Int) + 2
      · rw [v]; exact ⟨Int.le_refl _, fun q => by omega⟩
      · rcases ih with ⟨i1, i2⟩ | ⟨i1, i2, i3⟩
        · have := i2 k a (by omega)
          omega
        · have := i3 k a (by omega) g
          have w2 : c ((n : Int) + 2) < c (bsF c n) := w.2.resolve_left (by omega)
          omega
    · rw [if_neg w]
      rcases ih with ⟨i1, i2⟩ | ⟨i1, i2, i3⟩
      · refine Or.inl ⟨i1, fun k a b => ?_⟩
        by_cases v : k = (n : Int) + 2
        · rw [v]
          have : ¬ 0 ≤ c ((n : Int) + 2) := fun q => w ⟨q, Or.inl i1⟩
          omega
        · exact i2 k a (by omega)
      · refine Or.inr ⟨by omega, i2, fun k a b g => ?_⟩
        by_cases v : k = (n : Int) + 2
        · rw [v] at g ⊢
          have : ¬ c ((n : Int) + 2) < c (bsF c n) := fun q => w ⟨g, Or.inr q⟩
          omega
        · exact i3 k a (by omega) g
theorem BI_end {z c' : Int → Int} {b l r : Int} (hz : Vz z) (hB : Bd z 60000) (h : BI z b l 1) (hc : ∀ k, 2 ≤ k → k ≤ 20 → growZ z k 7 (c' k)) (hr : r = bsF c' 19) : r = b := by
  obtain ⟨b4, b7, b8, b9⟩ := hB
  obtain ⟨_, c, h2, h3⟩ := h
  have m1 := runs_rows (kind := 1) hz.1
  have h120 := hz.1.2.1
  have ec : ∀ k, 2 ≤ k → k ≤ 20 → c' k = c k := fun k a e => growZ_one (hc k a e) (h2 k (by omega) e)
  have c20 : 0 ≤ c 20 := by
    obtain ⟨a1, a2, a3, a4, a5, a6, a7, a8, a9, a10, a11⟩ := graZ_Vz (v := 20) hz (by omega) (by omega)
    have cr := gra_cr (v := 20) hz (by omega) (by omega)
    rcases h2 20 (by omega) (by omega) with ⟨hcr, y, A, e⟩ | ⟨w, _⟩
    · obtain ⟨y1, y2, y3, y4, y5, y6, y7⟩ := All_upd a1 (by omega) hcr A
      omega
    · exact absurd cr w
  rw [hr]
  rcases bsF_spec (c := c') 19 with ⟨_, w⟩ | ⟨w1, w2, w3⟩
  · have := w 20 (by omega) (by omega)
    rw [ec 20 (by omega) (by omega)] at this
    omega
  · generalize bsF c' 19 = r' at *
    rcases h3 with ⟨_, v⟩ | ⟨v, v1, v2, v3⟩
    · have := v 20 (by omega) (by omega)
      omega
    · have q1 := w3 b (by omega) (by omega) (by rw [ec b (by omega) (by omega)]; exact v1)
      rw [ec r' (by omega) (by omega)] at w2
      rw [ec r' (by omega) (by omega), ec b (by omega) (by omega)] at q1
      have q2 := v3 r' (by omega) (by omega) w2
      rcases Int.lt_trichotomy r' b with g | g | g
      · have := q2.2 g; omega
      · exact g
      · have := q1.2 g; omega
theorem LV_0 {f n l d m k t z : Int → Int} (ht : LSc t z) (t10 : t 10 = 0) (t11 : t 11 = 0) (z3 : z 3 = 0) (z5 : z 5 = 0) : LV f n l d m k t z := by
  refine ⟨ht, fun r a b => by omega, ⟨by omega, fun i a b => by omega, fun i j a b c => by omega, fun r a b => by omega⟩, ⟨fun i a b => by omega, fun i a b => by omega, fun i j a b c => by omega, fun r a b => by omega⟩, ⟨fun _ i a b => by omega, fun h => by omega⟩, by omega, by omega⟩
theorem JA_0 {cu sv : SS} {hs ol tt : Int} {s0 s1 s2 s3 : SS} {cs : Int → Int} {ln nn w : Int} {f n l d m k c t : Int → Int} (hw : w = 0 ∨ w = 1) (h : Rep6 cu sv hs ol tt s0 s1 s2 s3 cs ln (nx_combine initM w) nn) (ht : ∀ i, t i = 0) : JA cu sv hs ol tt s0 s1 s2 s3 cs ln (nx_combine initM w) nn f n l d m k c (uZ (uZ (uZ t 0 6) 1 w) 2 1) := by
  have e : (nx_combine initM w).2 0 = uZ (initM.2 0) 1 w := by
    unfold nx_combine
    rw [if_neg (show ¬ 0 < initM.2 0 3 by decide), nxM_0]
    rcases hw with rfl | rfl <;> rfl
  have z3 : uZ (initM.2 0) 1 w 3 = 0 := rfl
  have z5 : uZ (initM.2 0) 1 w 5 = 0 := rfl
  refine ⟨h, ?_, ?_, ?_⟩
  · rw [e]
    exact LV_0 ⟨rfl, rfl, rfl, ht 3, ht 4, ht 5, ht 7, ht 8, ht 9, fun q => by omega⟩ (ht 10) (ht 11) z3 z5
  · rw [e]
    intro r a b
    omega
  · rw [e]
    exact MW_5 z5
