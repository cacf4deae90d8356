/-! ===== predictions, texts, undone and saved states of the whole object ===== -/
theorem gra_cr {z : Int → Int} {v : Int} (hz : Vz z) (hv : 3 ≤ v ∧ v ≤ 20) (h : z 4 + 1 + manyZ z 1 ≤ 900000000) : crZ (graZ z v) := by
  have g := graZ_Vz hz (by omega : 2 ≤ v ∧ v ≤ 20) h
  refine Or.inr ?_
  rw [g.2.2.2.2.2.2.2.2.2.1]
  unfold waysZ
  omega
/-- the sizes above the ninth cost what the ninth costs -/
theorem grow_top {z : Int → Int} {r v : Int} (hz : Vz z) (h : z 4 + 1 + manyZ z 1 ≤ 900000000) (hv : 9 ≤ v ∧ v ≤ 20) (hg : growZ z 9 7 r) : growZ z v 7 r := by
  rcases hg with ⟨_, y, hA, e⟩ | ⟨hn, _⟩
  · refine Or.inl ⟨gra_cr hz (by omega) h, uZ y 0 v, ?_, by rw [uZ_ne (by omega)]; exact e⟩
    have g := graZ_Vz hz (by omega : 2 ≤ (9 : Int) ∧ (9 : Int) ≤ 20) h
    have e0 : finZ (graZ z 9) 0 = 9 := by
      unfold finZ
      rw [uZ_ne (by omega), wriZ_lo (by omega) (by omega) (by omega)]
      exact g.2.2.2.2.2.2.2.2.2.1
    have ew : waysZ v = waysZ 9 := by unfold waysZ; omega
    rw [gra_same hz ew]
    exact AllZ_u0 hA (by rw [e0]; exact ew)
  · exact absurd (gra_cr hz (by omega) h) hn
theorem best_top {z c : Int → Int} (hz : Vz z) (hB : Bd z 60000) (hc : ∀ j, 2 ≤ j → j < 10 → growZ z j 7 (c j)) : ∃ d : Int → Int, (∀ k, 2 ≤ k → k ≤ 20 → growZ z k 7 (d k)) ∧ bsF c 8 = bsF d 19 := by
  obtain ⟨b4, b7, b8, b9⟩ := hB
  obtain ⟨q1, q2, q3, q4, q5, q6⟩ := pubF hz (⟨by omega, by omega, by omega, by omega⟩ : Bd z 50000)
  have h9 := hc 9 (by omega) (by omega)
  have hd : ∀ k, 2 ≤ k → k ≤ 20 → growZ z k 7 ((fun j => if 10 ≤ j then c 9 else c j) k) := fun k k2 k20 => by
    show growZ z k 7 (if 10 ≤ k then c 9 else c k)
    by_cases w : 10 ≤ k
    · rw [if_pos w]; exact grow_top hz q3 (by omega) h9
    · rw [if_neg w]; exact hc k k2 (by omega)
  refine ⟨_, hd, ?_⟩
  have pos : 0 ≤ c 9 := by
    rcases h9 with ⟨h1, y, hA, e⟩ | ⟨hn, _⟩
    · have g := graZ_Vz hz (by omega : 2 ≤ (9 : Int) ∧ (9 : Int) ≤ 20) q3
      obtain ⟨g1, g2, g3, g4, g5, g6, g7, g8, _⟩ := g
      have a := All_upd g1 (by omega) h1 hA
      omega
    · exact absurd (gra_cr hz (by omega) q3) hn
  rw [bsF_top (c := fun j => if 10 ≤ j then c 9 else c j) (by show 0 ≤ (if (10 : Int) ≤ 9 then c 9 else c 9); rw [if_neg (by omega)]; exact pos) (fun j j1 j2 => by
    show (if 10 ≤ j then c 9 else c j) = (if (10 : Int) ≤ 9 then c 9 else c 9)
    by_cases w : 10 ≤ j
    · rw [if_pos w, if_neg (by omega)]
    · rw [if_neg w, if_neg (by omega), show j = 9 by omega])]
  exact (bsF_cong (fun j j1 j2 => if_neg (by omega))).symm
theorem bsF_S {c : Int → Int} {k r b : Int} (hk : 2 ≤ k) (hb : b = bsF c (k - 2).toNat) : bsF (uZ c k r) (k + 1 - 2).toNat = if 0 ≤ r ∧ (b = -6 ∨ r < c b) then k else b := by
  have bg := bsF_rng c (k - 2).toNat
  rw [show (k + 1 - 2).toNat = (k - 2).toNat + 1 by omega, bsF, bsF_u hk, ← hb, show (2 + (((k - 2).toNat : Nat) : Int)) = k by omega, uZ_at]
  by_cases w : b = -6
  · rw [w]; simp
  · rw [uZ_ne (i := k) (j := b) (by omega)]
theorem RA_wh {kd fk hd va le mo : Int} {a : AT} (h : RA kd fk hd va le mo a) : whA a ↔ hd = 1 ∧ va ≤ mo ∧ le ≤ va := by
  obtain ⟨k, f, h', v⟩ := a
  obtain ⟨⟨e1, e2, e3, e4, e5, e6⟩, e7, e8⟩ := h
  have e1' : kd = k := e1
  have e4' : hd = h' := e4
  have e5' : va = v := e5
  subst e1'
  subst e4'
  subst e5'
  have em : mnQ kd f = le := by
    rw [e7]
    by_cases w : kd = 0
    · rw [w, mnQ_0, mnQ_0]
    · rw [e3 w]
  show whQ kd f hd va ↔ _
  unfold whQ
  rw [em, ← e8]
theorem RA_va {cs : Int → Int} {x kd fk hd va le mo : Int} {a : AT} (hs : StA cs x a) (h : RA kd fk hd va le mo a) : (0 ≤ va ∧ va ≤ 999) ∧ (hd = 0 ∨ hd = 1) := by
  have q := va_g hs x.toNat (by have := hs.1; omega)
  rw [hs.2.2] at q
  have e : va = a.2.2.2 := h.1.2.2.2.2.1
  exact ⟨by omega, h.1.2.2.2.2.2⟩
/-- what the class takes from its reader is the item -/
theorem RA_item {kd fk hd va le mo : Int} {a : AT} (h : RA kd fk hd va le mo a) (v : itV (itK a) (itN a) (itS a)) : ((-1000 ≤ va ∧ va ≤ 1000 ∧ -1000 ≤ fk ∧ fk ≤ 1000) ∨ kd = 0) ∧ (if kd = 1 then va else if kd = 2 then va - fk + 1 else 1) = itN a ∧ ∀ i, 0 ≤ i → i < itN a → (rg (fk + i) ∨ ¬ kd = 2) ∧ (if kd = 1 then fk else if kd = 2 then fk + i else va) = itK a + i * itS a := by
  obtain ⟨k, f, h', w⟩ := a
  obtain ⟨⟨e1, e2, e3, e4, e5, e6⟩, e7, e8⟩ := h
  have e1' : kd = k := e1
  have e5' : va = w := e5
  subst e1'
  subst e5'
  have eK : itK (kd, f, h', va) = if kd = 0 then va else f := rfl
  have eN : itN (kd, f, h', va) = if kd = 0 then 1 else if kd = 1 then va else va - f + 1 := rfl
  have eS : itS (kd, f, h', va) = if kd = 2 then 1 else 0 := rfl
  rw [eK, eN, eS] at v ⊢
  obtain ⟨v1, v2, v3⟩ := v
  rcases e2 with q | q | q
  · subst q
    rw [if_pos rfl] at v1 v2
    refine ⟨Or.inr rfl, by rw [if_neg (by omega), if_neg (by omega), if_pos rfl], fun i i0 i1 => ⟨Or.inr (by omega), ?_⟩⟩
    rw [if_pos rfl] at i1
    rw [if_neg (by omega), if_neg (by omega), if_pos rfl, if_neg (by omega)]
    omega
  · subst q
    have ef : fk = f := e3 (by omega)
    subst ef
    rw [if_neg (by omega)] at v1 v2
    rw [if_pos rfl] at v2
    refine ⟨Or.inl (by omega), by rw [if_pos rfl, if_neg (by omega), if_pos rfl], fun i i0 i1 => ⟨Or.inr (by omega), ?_⟩⟩
    rw [if_pos rfl, if_neg (by omega), if_neg (by omega)]
    omega
  · subst q
    have ef : fk = f := e3 (by omega)
    subst ef
    rw [if_neg (by omega)] at v1 v2
    rw [if_neg (by omega)] at v2
    rw [if_neg (show ¬ (2 : Int) = 0 by omega), if_neg (show ¬ (2 : Int) = 0 by omega), if_neg (show ¬ (2 : Int) = 1 by omega), if_pos rfl] at v3
    refine ⟨Or.inl (by omega), by rw [if_neg (by omega), if_pos rfl, if_neg (by omega), if_neg (by omega)], fun i i0 i1 => ?_⟩
    rw [if_neg (by omega), if_neg (by omega)] at i1
    refine ⟨Or.inl (by unfold rg; omega), ?_⟩
    rw [if_neg (by omega), if_pos rfl, if_neg (by omega), if_pos rfl]
    omega
theorem rdP_grow {cs z : Int → Int} {n : Int} (hz : Vz z) (h2 : z 2 = 1) (hB : z 4 + 400 ≤ 900000000) (hO : OkA cs n) : ∀ i : Nat, (i : Int) ≤ n → GrowI z (rdP cs z i)
  | 0, _ => GrowI_0 hz h2
  | i + 1, hi => by
    have g := rdP_grow hz h2 hB hO i (by omega)
    rw [rdP]
    by_cases c : cs i = 44
    · rw [if_pos c]
      have hg := g
      obtain ⟨a1, a2, a3, a4, a5, a6, a7, a8, a9⟩ := hg
      have z3 := hz.1.1
      have y3 := a1.1.2.1
      have v := item_ok hO (j := i) (by omega) (Or.inr ⟨by omega, c⟩)
      rw [Int.toNat_natCast] at v
      exact GrowI_t g (itm_grow a1 a2 v (by omega))
    · rw [if_neg c]; exact g
theorem rdZ_grow {cs z : Int → Int} {n : Int} (hz : Vz z) (h2 : z 2 = 1) (hB : z 4 + 400 ≤ 900000000) (hn : 0 ≤ n) (hO : OkA cs n) : GrowI z (rdZ cs z n) := by
  have g := rdP_grow hz h2 hB hO n.toNat (by omega)
  have hg := g
  obtain ⟨a1, a2, a3, a4, a5, a6, a7, a8, a9⟩ := hg
  have z3 := hz.1.1
  have y3 := a1.1.2.1
  have v := item_ok hO (j := n) hn (Or.inl rfl)
  exact GrowI_t g (itm_grow a1 a2 v (by omega))
theorem sameM_rf (m : SS) : sameM m m := ⟨rfl, rfl, rfl, rfl, rfl, rfl, rfl⟩
