/-! ===== a run to the end: what holds of it, whatever the size; what it leaves alone ===== -/
theorem AllZ_ind {P : (Int → Int) → Prop} {z y : Int → Int} (h : AllZ z y) (h0 : P z) (hs : ∀ x, P x → goOn x → P (oneZ x)) : P y := by
  obtain ⟨_, w, n, e0, en, hw⟩ := h
  have key : ∀ i, i ≤ n → P (w i) := by
    intro i
    induction i with
    | zero => intro _; rw [e0]; exact h0
    | succ i ih =>
      intro hi
      obtain ⟨g, e⟩ := hw i (by omega)
      rw [e]
      exact hs _ (ih (by omega)) g
  rw [← en]
  exact key n (Nat.le_refl _)
theorem frZ_ge {z : Int → Int} (n : Nat) : -6 ≤ frZ z n ∧ frZ z n < n := by
  have := frZ_spec (z := z) n
  omega
theorem loZ_ge {z : Int → Int} (n : Nat) : -6 ≤ loZ z n ∧ loZ z n < n := by
  have := loZ_spec (z := z) n
  omega
theorem frV_ge {z : Int → Int} (h : 0 ≤ z 3) : -6 ≤ frV z ∧ (frV z < z 3 ∨ frV z = -6) := by
  have := frZ_spec (z := z) (z 3).toNat
  unfold frV
  omega
theorem loV_ge {z : Int → Int} (h : 0 ≤ z 3) : -6 ≤ loV z ∧ (loV z < z 3 ∨ loV z = -6) := by
  have := loZ_spec (z := z) (z 3).toNat
  unfold loV
  omega
theorem bgI_lo {z : Int → Int} {i : Int} (h : i < 250) : ∀ n : Nat, bgI z n i = z i
  | 0 => rfl
  | n + 1 => by rw [bgI, mvZ_lo h, bgI_lo h n]
theorem stp0_w {z : Int → Int} {i : Int} (h : i < 100) (h7 : i ≠ 7) : stp0 z i = z i := by
  have h1 : -6 ≤ frV z := (frZ_ge _).1
  have h2 : -6 ≤ loV z := (loZ_ge _).1
  unfold stp0
  split
  · rw [uZ_ne (by omega), uZ_ne (by omega), uZ_ne (by omega), uZ_ne h7]
  · rw [uZ_ne (by omega), uZ_ne h7]
theorem stp0_w7 {z : Int → Int} : z 7 + 1 ≤ stp0 z 7 ∧ stp0 z 7 ≤ z 7 + 2 := by
  have h1 : -6 ≤ frV z := (frZ_ge _).1
  have h2 : -6 ≤ loV z := (loZ_ge _).1
  unfold stp0
  split
  · rw [uZ_ne (by omega), uZ_ne (by omega), uZ_ne (by omega), uZ_at]; omega
  · rw [uZ_ne (by omega), uZ_at]; omega
theorem stpZ_w {z : Int → Int} {i : Int} (h : i < 100) (h7 : i ≠ 7) (h4 : i ≠ 4) (h5 : i ≠ 5) : stpZ z i = z i := by
  unfold stpZ
  split
  · rw [uZ_ne h5, becm_lo (by omega) h4, stp0_w h h7]
  · exact stp0_w h h7
theorem stpZ_w7 {z : Int → Int} : z 7 + 1 ≤ stpZ z 7 ∧ stpZ z 7 ≤ z 7 + 2 := by
  unfold stpZ
  split
  · rw [uZ_ne (by omega), becm_lo (by omega) (by omega)]; exact stp0_w7
  · exact stp0_w7
theorem begZ_w {z : Int → Int} {i : Int} (h : i < 250) (h5 : i ≠ 5) (h6 : i ≠ 6) (h8 : i ≠ 8) : begZ z i = z i := by
  unfold begZ
  rw [uZ_ne h8, uZ_ne h5, bgI_lo h, uZ_ne h6]
theorem oneZ_w {z : Int → Int} {i : Int} (h : i < 100) (h7 : i ≠ 7) (h4 : i ≠ 4) (h5 : i ≠ 5) (h6 : i ≠ 6) (h8 : i ≠ 8) : oneZ z i = z i := by
  unfold oneZ
  rw [stpZ_w h h7 h4 h5]
  split
  · exact begZ_w (by omega) h5 h6 h8
  · rfl
theorem oneZ_w7 {z : Int → Int} : z 7 + 1 ≤ oneZ z 7 := by
  unfold oneZ
  have := (stpZ_w7 (z := if z 5 = 0 then begZ z else z)).1
  have e : (if z 5 = 0 then begZ z else z) 7 = z 7 := by
    split
    · exact begZ_w (by omega) (by omega) (by omega) (by omega)
    · rfl
  omega
theorem phi_le {z : Int → Int} (hz : Vz z) : phiZ z ≤ 24520 := by
  have h1 := (riZ_le hz.1.1).2
  have h5 : z 5 = 0 ∨ z 5 = 1 := hz.2.1.2.2.2.1
  have h6 := runs_rows (kind := 0) hz.1
  have h7 := hz.1.2.1
  unfold phiZ
  omega
theorem All_inv {z y : Int → Int} (hz : Vz z) (hc : goC z) (hB : z 4 + phiZ z + 1 ≤ 900000000) (h : AllZ z y) : Vz y ∧ goC y ∧ z 7 ≤ y 7 ∧ z 8 ≤ y 8 ∧ y 9 = z 9 ∧ z 4 ≤ y 4 ∧ y 4 + phiZ y ≤ z 4 + phiZ z ∧ y 7 + 2 * phiZ y ≤ z 7 + 2 * phiZ z ∧ y 8 + phiZ y ≤ z 8 + phiZ z ∧ y 3 = z 3 ∧ y 0 = z 0 := by
  refine AllZ_ind (P := fun y => Vz y ∧ goC y ∧ z 7 ≤ y 7 ∧ z 8 ≤ y 8 ∧ y 9 = z 9 ∧ z 4 ≤ y 4 ∧ y 4 + phiZ y ≤ z 4 + phiZ z ∧ y 7 + 2 * phiZ y ≤ z 7 + 2 * phiZ z ∧ y 8 + phiZ y ≤ z 8 + phiZ z ∧ y 3 = z 3 ∧ y 0 = z 0) h ⟨hz, hc, by omega, by omega, rfl, by omega, by omega, by omega, by omega, rfl, rfl⟩ ?_
  intro x ⟨g1, g2, g3, g4, g5, g6, g7, g8, g9, g10, g11⟩ hg
  have hn := phi_nn g1
  obtain ⟨w1, w2⟩ := goC_one g1 hg g2 (by omega)
  obtain ⟨k1, k2, k3, k4, k5, k6, k7, k8, k9, k10⟩ := oneZ_all g1 g2.1 w1 hg (by omega)
  have k7' := oneZ_w7 (z := x)
  have k3' : oneZ x 3 = x 3 := oneZ_w (by omega) (by omega) (by omega) (by omega) (by omega) (by omega)
  exact ⟨k1, w2, by omega, by omega, by omega, by omega, by omega, by omega, by omega, by omega, by omega⟩
/-! the size, where it gives the same ways -/
section U0
variable {z : Int → Int} {v : Int}
theorem u0_e : ∀ j, j ≠ 0 → uZ z 0 v j = z j := fun j h => uZ_ne h
theorem frZ_u0 : ∀ n : Nat, frZ (uZ z 0 v) n = frZ z n
  | 0 => rfl
  | n + 1 => by
    have := frZ_ge (z := z) n
    rw [frZ, frZ, frZ_u0 n, u0_e (250 + (n : Int)) (by omega), u0_e (10 + (n : Int)) (by omega), u0_e (10 + frZ z n) (by omega)]
theorem loZ_u0 : ∀ n : Nat, loZ (uZ z 0 v) n = loZ z n
  | 0 => rfl
  | n + 1 => by
    have := loZ_ge (z := z) n
    rw [loZ, loZ, loZ_u0 n, u0_e (250 + (n : Int)) (by omega), u0_e (10 + (n : Int)) (by omega), u0_e (10 + loZ z n) (by omega)]
theorem smK_u0 : ∀ n : Nat, smK (uZ z 0 v) n = smK z n
  | 0 => rfl
  | n + 1 => by rw [smK, smK, smK_u0 n]; simp only [rowsAt_u0]
theorem smlZ_u0 : smlZ (uZ z 0 v) = smlZ z := by unfold smlZ; rw [u0_e 4 (by omega), smK_u0]
theorem mvZ_u0 {p : Int} : mvZ (uZ z 0 v) p = uZ (mvZ z p) 0 v := by
  funext k
  by_cases a : k = 0
  · rw [a, uZ_at, mvZ_lo (by omega), uZ_at]
  · rw [uZ_ne a]
    unfold mvZ
    rw [u0_e 3 (by omega), u0_e k a]
theorem bgI_u0 : ∀ n : Nat, bgI (uZ z 0 v) n = uZ (bgI z n) 0 v
  | 0 => rfl
  | n + 1 => by rw [bgI, bgI, bgI_u0 n, smlZ_u0, mvZ_u0]
theorem begN_u0 (hw : waysZ v = waysZ (z 0)) : begN (uZ z 0 v) = begN z := by unfold begN; rw [manyZ_u0, uZ_at, hw]
theorem begZ_u0 (hw : waysZ v = waysZ (z 0)) : begZ (uZ z 0 v) = uZ (begZ z) 0 v := by
  unfold begZ
  rw [begN_u0 hw, u0_e 8 (by omega), uZ_comm (i := 0) (j := 6) (by omega), bgI_u0, uZ_comm (i := 0) (j := 5) (by omega), uZ_comm (i := 0) (j := 8) (by omega)]
theorem riZ_u0 : riZ (uZ z 0 v) = riZ z := riZ_cong (u0_e 3 (by omega)) (fun r _ _ => by rw [u0_e _ (by omega)])
theorem frV_u0 : frV (uZ z 0 v) = frV z := by unfold frV; rw [u0_e 3 (by omega), frZ_u0]
theorem loV_u0 : loV (uZ z 0 v) = loV z := by unfold loV; rw [u0_e 3 (by omega), loZ_u0]
theorem stp0_u0 : stp0 (uZ z 0 v) = uZ (stp0 z) 0 v := by
  have h1 : -6 ≤ frV z := (frZ_ge _).1
  have h2 : -6 ≤ loV z := (loZ_ge _).1
  unfold stp0
  rw [frV_u0, loV_u0, u0_e 1 (by omega), u0_e 7 (by omega), u0_e (10 + loV z) (by omega), u0_e (10 + frV z) (by omega), u0_e (130 + loV z) (by omega), u0_e (130 + frV z) (by omega)]
  by_cases c : z 1 = 1 ∧ loV z ≠ -6 ∧ z (10 + loV z) = z (10 + frV z)
  · rw [if_pos c, if_pos c, uZ_comm (i := 0) (j := 7) (by omega), uZ_comm (i := 0) (j := 130 + loV z) (by omega), uZ_comm (i := 0) (j := 130 + frV z) (by omega), uZ_comm (i := 0) (j := 250 + frV z) (by omega)]
  · rw [if_neg c, if_neg c, uZ_comm (i := 0) (j := 7) (by omega), uZ_comm (i := 0) (j := 250 + frV z) (by omega)]
theorem stpZ_u0 : stpZ (uZ z 0 v) = uZ (stpZ z) 0 v := by
  unfold stpZ
  rw [stp0_u0, riZ_u0, becm_u0]
  by_cases c : riZ (stp0 z) = 0
  · rw [if_pos c, if_pos c, uZ_comm (i := 0) (j := 5) (by omega)]
  · rw [if_neg c, if_neg c]
theorem oneZ_u0 (hw : waysZ v = waysZ (z 0)) : oneZ (uZ z 0 v) = uZ (oneZ z) 0 v := by
  unfold oneZ
  rw [u0_e 5 (by omega)]
  by_cases c : z 5 = 0
  · rw [if_pos c, if_pos c, begZ_u0 hw, stpZ_u0]
  · rw [if_neg c, if_neg c, stpZ_u0]
theorem goOn_u0 : goOn (uZ z 0 v) ↔ goOn z := by
  unfold goOn
  rw [u0_e 5 (by omega), manyZ_u0]
end U0
theorem AllZ_u0 {z y : Int → Int} {v : Int} (h : AllZ z y) (hw : waysZ v = waysZ (z 0)) : AllZ (uZ z 0 v) (uZ y 0 v) := by
  obtain ⟨hn, w, n, e0, en, hs⟩ := h
  have key : ∀ i, i ≤ n → (w i) 0 = z 0 := by
    intro i
    induction i with
    | zero => intro _; rw [e0]
    | succ i ih =>
      intro hi
      rw [(hs i (by omega)).2, oneZ_w (by omega) (by omega) (by omega) (by omega) (by omega) (by omega)]
      exact ih (by omega)
  refine ⟨fun q => hn (goOn_u0.mp q), fun i => uZ (w i) 0 v, n, by show uZ (w 0) 0 v = _; rw [e0], by show uZ (w n) 0 v = _; rw [en], fun i hi => ⟨goOn_u0.mpr (hs i hi).1, ?_⟩⟩
  show uZ (w (i + 1)) 0 v = oneZ (uZ (w i) 0 v)
  rw [oneZ_u0 (by rw [key i (by omega)]; exact hw), (hs i hi).2]
theorem finZ_u0 {z : Int → Int} {v : Int} : finZ (uZ z 0 v) = uZ (finZ z) 0 v := by
  unfold finZ
  rw [wriZ_u0, uZ_comm (by omega)]
theorem cutZ_u0 {z : Int → Int} {v : Int} : cutZ (uZ z 0 v) = uZ (cutZ z) 0 v := by
  funext k
  by_cases a : k = 0
  · rw [a, uZ_at, cutZ_lo (by omega) (by omega) (by omega) (by omega), uZ_at]
  · rw [uZ_ne a]
    unfold cutZ rnkZ
    simp only [rowsAt_u0, manyZ_u0]
    rw [u0_e 4 (by omega), u0_e 9 (by omega), u0_e 3 (by omega), u0_e k a]
theorem uZ_0 {z : Int → Int} {v w : Int} : uZ (uZ z 0 v) 0 w = uZ z 0 w := uZ_uZ
/-- sizes that give the same ways lead to the same end -/
theorem gra_same {z : Int → Int} {v w : Int} (hV : Vz z) (h : waysZ v = waysZ w) : finZ (graZ z v) = uZ (finZ (graZ z w)) 0 v := by
  have hz := hV.1
  have hr := rowsAt_le (z := z) (p := 1) hz.1
  have h1 : ∀ a : Int, z 2 = 1 ∧ a < rowsAt z 1 → finZ (graZ z a) = uZ (finZ z) 0 a := fun a c => by
    unfold graZ
    rw [if_pos c, wriZ_u0, finZ_u0]
    congr 1
    unfold finZ
    congr 1
    have : rowsAt (wriZ z) 1 = 0 := (rowsAt_0 (by rw [wriZ_lo (by omega) (by omega) (by omega)]; exact hz.1)).mpr (fun r a b e => by
      rw [wriZ_lo (by omega) (by omega) (by omega)] at b
      rw [wriZ_pl hz.1 a b] at e
      have := hz.2.2.1
      split at e <;> omega)
    have e : ∀ x : Int → Int, rowsAt x 1 = 0 → wriZ x = x := fun x hx => by unfold wriZ; rw [if_pos hx]
    exact e _ this
  have h2 : ∀ a : Int, ¬ (z 2 = 1 ∧ a < rowsAt z 1) → finZ (graZ z a) = uZ (if z 5 = 1 ∧ waysZ a < manyZ z 1 then finZ (cutZ z) else finZ z) 0 a := fun a c => by
    unfold graZ
    rw [if_neg c]
    by_cases d : z 5 = 1 ∧ waysZ a < manyZ z 1
    · rw [if_pos d, if_pos d, cutZ_u0, finZ_u0]
    · rw [if_neg d, if_neg d, finZ_u0]
  by_cases c : z 2 = 1
  · have k : ∀ a : Int, finZ (graZ z a) = uZ (finZ z) 0 a := fun a => by
      by_cases d : a < rowsAt z 1
      · exact h1 a ⟨c, d⟩
      · rw [h2 a (fun q => d q.2), if_neg (fun q => by have := (hV.2.2.2.2.1 c).1; omega)]
    rw [k v, k w, uZ_0]
  · rw [h2 v (fun q => c q.1), h2 w (fun q => c q.1), uZ_0, h]
theorem wriZ_out {z : Int → Int} (h3 : z 3 ≤ 120) {k : Int} (hk : k < 0 ∨ 370 ≤ k) : wriZ z k = z k := by
  unfold wriZ
  split
  · rfl
  · unfold becm
    rw [if_neg (by omega), uZ_ne (i := 7) (by omega), if_neg (by omega), uZ_ne (by omega)]
theorem cutZ_out {z : Int → Int} (h3 : z 3 ≤ 120) {k : Int} (hk : k < 0 ∨ 370 ≤ k) : cutZ z k = z k := by
  unfold cutZ
  rw [if_neg (by omega), if_neg (by omega), if_neg (by omega), if_neg (by omega)]
theorem graZ_out {z : Int → Int} {v : Int} (h3 : z 3 ≤ 120) {k : Int} (hk : k < 0 ∨ 370 ≤ k) : graZ z v k = z k := by
  have e : uZ z 0 v k = z k := uZ_ne (by omega)
  have e3 : uZ z 0 v 3 ≤ 120 := by rw [uZ_ne (by omega)]; exact h3
  unfold graZ
  split
  · rw [wriZ_out e3 hk, e]
  · split
    · rw [cutZ_out e3 hk, e]
    · exact e
theorem finZ_out {z : Int → Int} (h3 : z 3 ≤ 120) {k : Int} (hk : k < 0 ∨ 370 ≤ k) : finZ z k = z k := by
  unfold finZ
  rw [uZ_ne (by omega), wriZ_out h3 hk]
theorem bgI_out {z : Int → Int} (h3 : z 3 ≤ 120) {k : Int} (hk : k < 0 ∨ 370 ≤ k) : ∀ n : Nat, bgI z n k = z k
  | 0 => rfl
  | n + 1 => by
    have e3 : bgI z n 3 = z 3 := bgI_lo (by omega) n
    rw [bgI]
    unfold mvZ
    rw [if_neg (by omega)]
    exact bgI_out h3 hk n
theorem stp0_out {z : Int → Int} (h0 : 0 ≤ z 3) (h3 : z 3 ≤ 120) {k : Int} (hk : k < 0 ∨ 370 ≤ k) : stp0 z k = z k := by
  have h1 := frV_ge h0
  have h2 := loV_ge h0
  unfold stp0
  split
  · rw [uZ_ne (by omega), uZ_ne (by omega), uZ_ne (by omega), uZ_ne (by omega)]
  · rw [uZ_ne (by omega), uZ_ne (by omega)]
theorem oneZ_out {z : Int → Int} (h0 : 0 ≤ z 3) (h3 : z 3 ≤ 120) {k : Int} (hk : k < 0 ∨ 370 ≤ k) : oneZ z k = z k := by
  have key : ∀ x : Int → Int, x 3 = z 3 → x k = z k → stpZ x k = z k := fun x e3 e => by
    have q := stp0_out (z := x) (by omega) (by omega) hk
    have q3 : stp0 x 3 = x 3 := stp0_w (by omega) (by omega)
    unfold stpZ
    split
    · rw [uZ_ne (by omega)]
      unfold becm
      rw [if_neg (by omega), if_neg (by omega), q, e]
    · rw [q, e]
  unfold oneZ
  split
  · refine key _ (begZ_w (by omega) (by omega) (by omega) (by omega)) ?_
    unfold begZ
    rw [uZ_ne (by omega), uZ_ne (by omega), bgI_out (by rw [uZ_ne (by omega)]; exact h3) hk, uZ_ne (by omega)]
  · exact key z rfl rfl
theorem AllZ_out {z y : Int → Int} (h0 : 0 ≤ z 3) (h3 : z 3 ≤ 120) (h : AllZ z y) {k : Int} (hk : k < 0 ∨ 370 ≤ k) : y k = z k := by
  refine (AllZ_ind (P := fun x => x 3 = z 3 ∧ x k = z k) h ⟨rfl, rfl⟩ ?_).2
  intro x ⟨e3, e⟩ _
  exact ⟨by rw [oneZ_w (by omega) (by omega) (by omega) (by omega) (by omega) (by omega)]; exact e3, by rw [oneZ_out (by omega) (by omega) hk]; exact e⟩

def StepsZ (z : Int → Int) (steps n : Int) : Prop := 0 ≤ n ∧ n ≤ steps ∧ (∀ i : Nat, (i : Int) < n → (wSq z i) 5 = 1) ∧ (n < steps → (wSq z n.toNat) 5 = 0)
theorem StepsZ_one {z : Int → Int} {steps a b : Int} (ha : StepsZ z steps a) (hb : StepsZ z steps b) : a = b := by
  obtain ⟨a0, a1, a2, a3⟩ := ha
  obtain ⟨b0, b1, b2, b3⟩ := hb
  rcases Int.lt_trichotomy a b with c | c | c
  · have q := b2 a.toNat (by omega)
    rw [a3 (by omega)] at q; omega
  · exact c
  · have q := a2 b.toNat (by omega)
    rw [b3 (by omega)] at q; omega
def rl_step (m : SS) (steps r : Int) (m' : SS) : Prop := (¬ (1 ≤ steps ∧ steps ≤ 200) ∧ r = -2 ∧ m' = m) ∨ ((1 ≤ steps ∧ steps ≤ 200) ∧ m.2 0 5 = 0 ∧ r = -3 ∧ m' = m) ∨ ((1 ≤ steps ∧ steps ≤ 200) ∧ ¬ m.2 0 5 = 0 ∧ StepsZ (m.2 0) steps r ∧ m' = nxM m (wSq (m.2 0) r.toNat))
def rl_run (m : SS) (r : Int) (m' : SS) : Prop := (¬ crZ (m.2 0) ∧ r = -3 ∧ m' = m) ∨ (crZ (m.2 0) ∧ ∃ y, AllZ (finZ (m.2 0)) y ∧ r = y 8 - m.2 0 8 ∧ m' = nxM m y)
theorem rl_step_one {m m1 m2 : SS} {steps a b : Int} (h1 : rl_step m steps a m1) (h2 : rl_step m steps b m2) : a = b ∧ m1 = m2 := by
  rcases h1 with ⟨x, e1, e2⟩ | ⟨x, y, e1, e2⟩ | ⟨x, y, e1, e2⟩ <;> rcases h2 with ⟨x', e1', e2'⟩ | ⟨x', y', e1', e2'⟩ | ⟨x', y', e1', e2'⟩
  · exact ⟨e1.trans e1'.symm, e2.trans e2'.symm⟩
  · exact absurd x' x
  · exact absurd x' x
  · exact absurd x x'
  · exact ⟨e1.trans e1'.symm, e2.trans e2'.symm⟩
  · exact absurd y y'
  · exact absurd x x'
  · exact absurd y' y
  · have e := StepsZ_one e1 e1'
    subst e
    exact ⟨rfl, e2.trans e2'.symm⟩
theorem rl_run_one {m m1 m2 : SS} {a b : Int} (h1 : rl_run m a m1) (h2 : rl_run m b m2) : a = b ∧ m1 = m2 := by
  rcases h1 with ⟨x, e1, e2⟩ | ⟨x, y, ha, e1, e2⟩ <;> rcases h2 with ⟨x', e1', e2'⟩ | ⟨x', y', ha', e1', e2'⟩
  · exact ⟨e1.trans e1'.symm, e2.trans e2'.symm⟩
  · exact absurd x' x
  · exact absurd x x'
  · have e := AllZ_one ha ha'
    subst e
    exact ⟨e1.trans e1'.symm, e2.trans e2'.symm⟩
/-- the steps of a merge keep what holds of the row -/
theorem wSq_inv {z : Int → Int} {steps n : Int} (hz : Vz z) (hB : z 4 + 1 + steps ≤ 900000000) (h : StepsZ z steps n) : ∀ i : Nat, (i : Int) ≤ n → Vz (wSq z i) ∧ (wSq z i) 4 ≤ z 4 + i ∧ z 4 ≤ (wSq z i) 4 ∧ (wSq z i) 7 ≤ z 7 + 2 * i ∧ (wSq z i) 8 = z 8 ∧ (wSq z i) 9 = z 9 ∧ (wSq z i) 3 = z 3
  | 0, _ => ⟨hz, by show z 4 ≤ z 4 + 0; omega, Int.le_refl _, by show z 7 ≤ z 7 + 2 * 0; omega, rfl, rfl, rfl⟩
  | i + 1, hi => by
    obtain ⟨g1, g2, g3, g4, g5, g6, g7⟩ := wSq_inv hz hB h i (by omega)
    have e5 := h.2.2.1 i (by omega)
    have hr : 0 < riZ (wSq z i) := by obtain ⟨_, _, _, _, _, _, _, vr, _⟩ := g1; exact vr.mp e5
    have hn := h.2.1
    obtain ⟨s1, s2, s3, s4, s5, s6, s7, s8, s9⟩ := stpZ_all g1 hr (by omega)
    have w3 : stpZ (wSq z i) 3 = (wSq z i) 3 := stpZ_w (by omega) (by omega) (by omega) (by omega)
    rw [wSq]
    exact ⟨s1, by omega, by omega, by omega, by omega, by omega, by omega⟩
theorem fdZ_S {z : Int → Int} {run index r : Int} (h : 0 ≤ r) : fdZ z run index (r + 1).toNat = if z (250 + r) = 10 + 2 * run ∧ befZ z r = index then r else fdZ z run index r.toNat := by
  rw [show (r + 1).toNat = r.toNat + 1 by omega, fdZ, show ((r.toNat : Nat) : Int) = r by omega]
theorem cpP_back {z y : Int → Int} {f : Int → Int} (ho : ∀ k, k < 0 ∨ 370 ≤ k → y k = z k) : cpP (cpP z f 0 370) y 0 370 = z := by
  funext k
  unfold cpP
  by_cases c : 0 ≤ k ∧ k < 370
  · rw [if_pos c, Int.zero_add, if_pos c, Int.zero_add]
  · rw [if_neg c, ho k (by omega)]
theorem bsF_rng (c : Int → Int) : ∀ n : Nat, bsF c n = -6 ∨ (2 ≤ bsF c n ∧ bsF c n < 2 + n ∧ 0 ≤ c (bsF c n))
  | 0 => Or.inl rfl
  | n + 1 => by
    have h := bsF_rng c n
    rw [bsF]
    split
    · rename_i w
      exact Or.inr ⟨by omega, by omega, w.1⟩
    · rcases h with h | h
      · exact Or.inl h
      · exact Or.inr ⟨h.1, by omega, h.2.2⟩
theorem bsF_cong {c d : Int → Int} : ∀ {n : Nat}, (∀ j : Int, 2 ≤ j → j < 2 + n → d j = c j) → bsF d n = bsF c n
  | 0, _ => rfl
  | n + 1, h => by
    have e := bsF_cong (n := n) (fun j h1 h2 => h j h1 (by omega))
    have hr := bsF_rng c n
    rw [bsF, bsF, e, h (2 + n) (by omega) (by omega)]
    rcases hr with q | q
    · rw [q]; simp
    · rw [h (bsF c n) q.1 (by omega)]
theorem bsF_u {c : Int → Int} {k r : Int} (hk : 2 ≤ k) : bsF (uZ c k r) (k - 2).toNat = bsF c (k - 2).toNat := bsF_cong (fun j h1 h2 => uZ_ne (by omega))
/-- the largest sizes do not count: they cost as much as the ninth -/
theorem bsF_top {c : Int → Int} (h9 : 0 ≤ c 9) (h : ∀ j, 9 ≤ j → j ≤ 20 → c j = c 9) : bsF c 19 = bsF c 8 := by
  have key : ∀ d : Nat, d ≤ 11 → bsF c (8 + d) = bsF c 8 ∧ c (bsF c 8) ≤ c 9 ∧ bsF c 8 ≠ -6 := by
    have b8 : bsF c 8 ≠ -6 ∧ c (bsF c 8) ≤ c 9 := by
      have hr := bsF_rng c 7
      have e : bsF c 8 = if 0 ≤ c (2 + ((7 : Nat) : Int)) ∧ (bsF c 7 = -6 ∨ c (2 + ((7 : Nat) : Int)) < c (bsF c 7)) then (2 + ((7 : Nat) : Int)) else bsF c 7 := by rw [bsF]
      have e9 : (2 + ((7 : Nat) : Int)) = 9 := by omega
      rw [e9] at e
      rw [e]
      split
      · exact ⟨by omega, Int.le_refl _⟩
      · rename_i w
        have : bsF c 7 ≠ -6 ∧ ¬ c 9 < c (bsF c 7) := ⟨fun q => w ⟨h9, Or.inl q⟩, fun q => w ⟨h9, Or.inr q⟩⟩
        exact ⟨this.1, by omega⟩
    intro d
    induction d with
    | zero => intro _; exact ⟨rfl, b8.2, b8.1⟩
    | succ d ih =>
      intro hd
      obtain ⟨i1, i2, i3⟩ := ih (by omega)
      refine ⟨?_, i2, i3⟩
      rw [show 8 + (d + 1) = (8 + d) + 1 by omega, bsF, i1, h (2 + ((8 + d : Nat) : Int)) (by omega) (by omega), if_neg (fun w => by rcases w.2 with q | q; exact i3 q; omega)]
  exact (key 11 (by omega)).1
