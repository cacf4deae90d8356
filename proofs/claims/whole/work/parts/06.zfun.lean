/-! ===== the pure side: sums and counts; the reference's row z and what its methods make of it ===== -/
theorem sumI_cong {f g : Int → Int} : ∀ {n : Nat}, (∀ r : Nat, r < n → f r = g r) → sumI f n = sumI g n
  | 0, _ => rfl
  | n + 1, h => by rw [sumI, sumI, sumI_cong (fun r hr => h r (by omega)), h n (by omega)]
theorem sumI_0 {f : Int → Int} : ∀ {n : Nat}, (∀ r : Nat, r < n → f r = 0) → sumI f n = 0
  | 0, _ => rfl
  | n + 1, h => by rw [sumI, sumI_0 (fun r hr => h r (by omega)), h n (by omega)]; rfl
theorem sumI_nn {f : Int → Int} : ∀ {n : Nat}, (∀ r : Nat, r < n → 0 ≤ f r) → 0 ≤ sumI f n
  | 0, _ => Int.le_refl 0
  | n + 1, h => by
    have h1 := sumI_nn (n := n) (fun r hr => h r (by omega))
    have h2 := h n (by omega)
    rw [sumI]; omega
theorem sumI_le {f g : Int → Int} : ∀ {n : Nat}, (∀ r : Nat, r < n → f r ≤ g r) → sumI f n ≤ sumI g n
  | 0, _ => Int.le_refl 0
  | n + 1, h => by
    have h1 := sumI_le (n := n) (fun r hr => h r (by omega))
    have h2 := h n (by omega)
    rw [sumI, sumI]; omega
theorem sumI_part {f : Int → Int} {i : Nat} : ∀ {n : Nat}, (∀ r : Nat, r < n → 0 ≤ f r) → i < n → f i ≤ sumI f n
  | 0, _, hi => absurd hi (Nat.not_lt_zero _)
  | n + 1, h, hi => by
    have h2 := h n (by omega)
    have h3 := sumI_nn (f := f) (n := n) (fun r hr => h r (by omega))
    rw [sumI]
    rcases Nat.lt_or_ge i n with q | q
    · have h1 := sumI_part (n := n) (fun r hr => h r (by omega)) q; omega
    · have e : i = n := by omega
      subst e; omega
theorem sumI_eq0 {f : Int → Int} {n : Nat} (h : ∀ r : Nat, r < n → 0 ≤ f r) (e : sumI f n = 0) : ∀ r : Nat, r < n → f r = 0 := by
  intro r hr
  have h1 := sumI_part h hr
  have h2 := h r hr
  omega
theorem sumI_upd {f : Int → Int} {i : Nat} {v : Int} : ∀ {n : Nat}, i < n → sumI (uZ f i v) n = sumI f n - f i + v
  | 0, hi => absurd hi (Nat.not_lt_zero _)
  | n + 1, hi => by
    rw [sumI, sumI]
    rcases Nat.lt_or_ge i n with q | q
    · have e : uZ f i v n = f n := by unfold uZ; rw [if_neg (by omega)]
      rw [sumI_upd q, e]; omega
    · have e : i = n := by omega
      subst e
      have e2 : sumI (uZ f i v) i = sumI f i := sumI_cong (fun r hr => by unfold uZ; rw [if_neg (by omega)])
      have e3 : uZ f i v i = v := by unfold uZ; rw [if_pos rfl]
      rw [e2, e3]; omega
theorem sumI_add {f g : Int → Int} : ∀ {n : Nat}, sumI (fun r => f r + g r) n = sumI f n + sumI g n
  | 0 => rfl
  | n + 1 => by rw [sumI, sumI, sumI, sumI_add]; omega
theorem sumI_split {f : Int → Int} {m : Nat} : ∀ {n : Nat}, m ≤ n → (∀ r : Nat, m ≤ r → r < n → f r = 0) → sumI f n = sumI f m
  | 0, h, _ => by rw [show m = 0 by omega]
  | n + 1, h, h2 => by
    rcases Nat.lt_or_ge m (n + 1) with q | q
    · rw [sumI, sumI_split (n := n) (by omega) (fun r h3 h4 => h2 r h3 (by omega)), h2 n (by omega) (by omega)]; omega
    · rw [show m = n + 1 by omega]
theorem pz_nn (c : Prop) [Decidable c] : 0 ≤ pz c := by rcases pz_01 c with h | h <;> omega
theorem pz_cong {c d : Prop} [Decidable c] [Decidable d] (h : c ↔ d) : pz c = pz d := by
  by_cases q : c
  · rw [pz_t q, pz_t (h.mp q)]
  · rw [pz_f q, pz_f (fun x => q (h.mpr x))]
theorem pz_1 {c : Prop} [Decidable c] (h : pz c = 1) : c := by
  by_cases q : c
  · exact q
  · rw [pz_f q] at h; omega
theorem pz_0 {c : Prop} [Decidable c] (h : pz c = 0) : ¬ c := fun q => by rw [pz_t q] at h; omega
/-- how many of the numbers below n have a property -/
theorem cnt_pos {P : Int → Prop} [DecidablePred P] {n : Nat} : 0 < sumI (fun r => pz (P r)) n ↔ ∃ r : Nat, r < n ∧ P r := by
  refine ⟨fun h => ?_, fun ⟨r, h1, h2⟩ => ?_⟩
  · by_cases q : ∃ r : Nat, r < n ∧ P r
    · exact q
    · rw [sumI_0 (fun r hr => pz_f (fun h3 => q ⟨r, hr, h3⟩))] at h; omega
  · have h3 := sumI_part (f := fun r => pz (P r)) (i := r) (n := n) (fun r _ => pz_nn _) h1
    have h4 : pz (P r) = 1 := pz_t h2
    have h5 : (fun r => pz (P r)) (r : Int) = pz (P r) := rfl
    omega
theorem cnt_bij {c : Nat → Int} {n : Nat} : ∀ {len : Nat} {P : Int → Prop} [DecidablePred P], (∀ j, j < len → 0 ≤ c j ∧ c j < n ∧ P (c j)) → (∀ j k, j < k → k < len → c j ≠ c k) → (∀ r : Nat, r < n → P r → ∃ j, j < len ∧ c j = r) → sumI (fun r => pz (P r)) n = len
  | 0, P, _, _, _, h3 => by
    rw [sumI_0 (fun r hr => pz_f (fun q => by obtain ⟨j, hj, _⟩ := h3 r hr q; omega))]; rfl
  | len + 1, P, _, h1, h2, h3 => by
    have ih := cnt_bij (len := len) (P := fun r => P r ∧ r ≠ c len) (fun j hj => ⟨(h1 j (by omega)).1, (h1 j (by omega)).2.1, (h1 j (by omega)).2.2, h2 j len hj (by omega)⟩) (fun j k hjk hk => h2 j k hjk (by omega)) (fun r hr hq => by
      obtain ⟨j, hj, e⟩ := h3 r hr hq.1
      rcases Nat.lt_or_ge j len with q | q
      · exact ⟨j, q, e⟩
      · rw [show j = len by omega] at e
        exact absurd e.symm hq.2)
    obtain ⟨a1, a2, a3⟩ := h1 len (by omega)
    obtain ⟨i, hi⟩ : ∃ i : Nat, c len = (i : Int) := ⟨(c len).toNat, by omega⟩
    have e : sumI (fun r => pz (P r)) n = sumI (uZ (fun r => pz (P r ∧ r ≠ c len)) i 1) n := sumI_cong (fun r hr => by
      unfold uZ
      by_cases q : (r : Int) = i
      · rw [if_pos q]
        exact pz_t (by rw [q, ← hi]; exact a3)
      · rw [if_neg q]
        exact pz_cong ⟨fun x => ⟨x, by rw [hi]; exact q⟩, fun x => x.1⟩)
    have e2 : pz (P (i : Int) ∧ (i : Int) ≠ c len) = 0 := pz_f (fun x => x.2 hi.symm)
    rw [e, sumI_upd (by omega), ih, e2]
    omega
def rowsAt (z : Int → Int) (p : Int) : Int := sumI (fun r => pz (z (250 + r) = p)) (z 3).toNat
def becm (z : Int → Int) (p : Int) : Int → Int := fun i => if i = 4 then z 4 + 1 else if 250 ≤ i ∧ i < 250 + z 3 ∧ z i = p then 10 + 2 * z 4 else z i
def wriZ (z : Int → Int) : Int → Int := if rowsAt z 1 = 0 then z else becm (uZ z 7 (z 7 + rowsAt z 1)) 1
def samZ (z : Int → Int) (key : Int) : Nat → Int
  | 0 => -6
  | n + 1 => if z (250 + n) = 1 ∧ z (10 + n) = key then n else samZ z key n
def samV (z : Int → Int) (key : Int) : Int := if z 1 = 1 then samZ z key (z 3).toNat else -6
def addW (z : Int → Int) (key : Int) : Int → Int := if samV z key = -6 ∧ rowsAt z 1 = z 0 then wriZ z else z
def addZ (z : Int → Int) (key : Int) : Int → Int :=
  if samV z key = -6 then uZ (uZ (uZ (uZ (addW z key) 3 (z 3 + 1)) (10 + z 3) key) (130 + z 3) 1) (250 + z 3) 1
  else uZ (uZ (uZ (uZ (uZ (addW z key) 3 (z 3 + 1)) (10 + z 3) key) (130 + z 3) 0) (250 + z 3) 0) (130 + samV z key) (z (130 + samV z key) + 1)
def nxP (z : Int → Int) (b k : Int) : Nat → Int
  | 0 => -6
  | n + 1 => if 10 ≤ z (250 + n) ∧ b < z (250 + n) ∧ z (250 + n) % 2 = k ∧ (nxP z b k n = -6 ∨ z (250 + n) < nxP z b k n) then z (250 + n) else nxP z b k n
def manyZ (z : Int → Int) (kind : Int) : Int := sumI (fun k => pz (0 < rowsAt z (10 + 2 * k + kind))) (z 4).toNat
def waysZ (size : Int) : Int := min (size - 1) 8
def rnkZ (z : Int → Int) (p : Int) : Int := sumI (fun k => pz (0 < rowsAt z (10 + 2 * k + 1))) ((p - 11) / 2).toNat
def cutZ (z : Int → Int) : Int → Int := fun i =>
  if i = 4 then z 4 + pz (0 < rowsAt z 2) + manyZ z 1 else if i = 5 then 0 else if i = 9 then z 9 + 1
  else if 250 ≤ i ∧ i < 250 + z 3 then (if z i = 2 then 10 + 2 * z 4 else if 11 ≤ z i ∧ z i % 2 = 1 then 10 + 2 * (z 4 + pz (0 < rowsAt z 2) + rnkZ z (z i)) else z i) else z i
def graZ (z : Int → Int) (size : Int) : Int → Int := if z 2 = 1 ∧ size < rowsAt z 1 then wriZ (uZ z 0 size) else if z 5 = 1 ∧ waysZ size < manyZ z 1 then cutZ (uZ z 0 size) else uZ z 0 size
def graA (z : Int → Int) (size : Int) : Int := if z 2 = 1 ∧ size < rowsAt z 1 then 1 else if z 5 = 1 ∧ waysZ size < manyZ z 1 then pz (0 < rowsAt z 2) + manyZ z 1 else 0
def mvZ (z : Int → Int) (p : Int) : Int → Int := fun i => if 250 ≤ i ∧ i < 250 + z 3 ∧ z i = p then p + 1 else z i
def smK (z : Int → Int) : Nat → Int
  | 0 => -1
  | n + 1 => if 0 < rowsAt z (10 + 2 * n) ∧ (smK z n = -1 ∨ rowsAt z (10 + 2 * n) < rowsAt z (10 + 2 * smK z n)) then n else smK z n
def smlZ (z : Int → Int) : Int := 10 + 2 * smK z (z 4).toNat
def bgI (z : Int → Int) : Nat → Int → Int
  | 0 => z
  | n + 1 => mvZ (bgI z n) (smlZ (bgI z n))
def begN (z : Int → Int) : Int := min (manyZ z 0) (waysZ (z 0))
def begZ (z : Int → Int) : Int → Int := uZ (uZ (bgI (uZ z 6 (begN z)) (begN z).toNat) 5 1) 8 (z 8 + 1)
def isIn (p : Int) : Prop := 11 ≤ p ∧ p % 2 = 1
def frZ (z : Int → Int) : Nat → Int
  | 0 => -6
  | n + 1 => if (11 ≤ z (250 + n) ∧ z (250 + n) % 2 = 1) ∧ (frZ z n = -6 ∨ z (10 + n) < z (10 + frZ z n)) then n else frZ z n
def loZ (z : Int → Int) : Nat → Int
  | 0 => -6
  | n + 1 => if z (250 + n) = 2 ∧ (loZ z n = -6 ∨ z (10 + loZ z n) ≤ z (10 + n)) then n else loZ z n
def riZ (z : Int → Int) : Int := sumI (fun r => pz (11 ≤ z (250 + r) ∧ z (250 + r) % 2 = 1)) (z 3).toNat
def frV (z : Int → Int) : Int := frZ z (z 3).toNat
def loV (z : Int → Int) : Int := loZ z (z 3).toNat
def stp0 (z : Int → Int) : Int → Int :=
  if z 1 = 1 ∧ loV z ≠ -6 ∧ z (10 + loV z) = z (10 + frV z) then uZ (uZ (uZ (uZ z 7 (z 7 + 1)) (130 + loV z) (z (130 + loV z) + z (130 + frV z))) (130 + frV z) 0) (250 + frV z) 0
  else uZ (uZ z 7 (z 7 + 2)) (250 + frV z) 2
def stpZ (z : Int → Int) : Int → Int := if riZ (stp0 z) = 0 then uZ (becm (stp0 z) 2) 5 0 else stp0 z
def goOn (z : Int → Int) : Prop := z 5 = 1 ∨ 1 < manyZ z 0
def oneZ (z : Int → Int) : Int → Int := stpZ (if z 5 = 0 then begZ z else z)
def AllZ (z z' : Int → Int) : Prop := ¬ goOn z' ∧ ∃ w : Nat → Int → Int, ∃ n : Nat, w 0 = z ∧ w n = z' ∧ ∀ i, i < n → goOn (w i) ∧ w (i + 1) = oneZ (w i)
theorem AllZ_0 {z : Int → Int} (h : ¬ goOn z) : AllZ z z := ⟨h, fun _ => z, 0, rfl, rfl, fun i hi => absurd hi (Nat.not_lt_zero _)⟩
theorem AllZ_step {z z' : Int → Int} (h : goOn z) (h2 : AllZ (oneZ z) z') : AllZ z z' := by
  obtain ⟨h3, w, n, e1, e2, e3⟩ := h2
  refine ⟨h3, fun i => if i = 0 then z else w (i - 1), n + 1, rfl, ?_, fun i hi => ?_⟩
  · show (if n + 1 = 0 then z else w (n + 1 - 1)) = z'
    rw [if_neg (by omega)]; exact e2
  · show goOn (if i = 0 then z else w (i - 1)) ∧ (if i + 1 = 0 then z else w (i + 1 - 1)) = oneZ (if i = 0 then z else w (i - 1))
    rw [if_neg (show ¬ i + 1 = 0 by omega)]
    by_cases q : i = 0
    · subst q
      rw [if_pos rfl]
      exact ⟨h, e1⟩
    · rw [if_neg q]
      have := e3 (i - 1) (by omega)
      rw [show i - 1 + 1 = i by omega] at this
      exact this
theorem AllZ_one {z a b : Int → Int} (ha : AllZ z a) (hb : AllZ z b) : a = b := by
  obtain ⟨h1, w, n, e1, e2, e3⟩ := ha
  obtain ⟨g1, v, k, f1, f2, f3⟩ := hb
  have key : ∀ i, i ≤ n → i ≤ k → w i = v i := by
    intro i
    induction i with
    | zero => intro _ _; rw [e1, f1]
    | succ i ih => intro h2 h3; rw [(e3 i (by omega)).2, (f3 i (by omega)).2, ih (by omega) (by omega)]
  rcases Nat.lt_trichotomy n k with q | q | q
  · have h4 := (f3 n q).1
    rw [← key n (Nat.le_refl _) (by omega), e2] at h4
    exact absurd h4 h1
  · subst q
    rw [← e2, ← f2]; exact key n (Nat.le_refl _) (Nat.le_refl _)
  · have h4 := (e3 k q).1
    rw [key k (by omega) (Nat.le_refl _), f2] at h4
    exact absurd h4 g1
def Vb (z : Int → Int) : Prop := 0 ≤ z 3 ∧ z 3 ≤ 120 ∧ 0 ≤ z 4 ∧ z 4 ≤ 900000000 ∧ ∀ r, 0 ≤ r → r < z 3 → 0 ≤ z (250 + r) ∧ (z (250 + r) ≤ 2 ∨ 10 ≤ z (250 + r) ∧ z (250 + r) < 10 + 2 * z 4)
theorem sumI_S {f : Int → Int} {r : Int} (h : 0 ≤ r) : sumI f (r + 1).toNat = sumI f r.toNat + f r := by
  rw [show (r + 1).toNat = r.toNat + 1 by omega, sumI, show ((r.toNat : Nat) : Int) = r by omega]
theorem nxP_S {z : Int → Int} {b k r : Int} (h : 0 ≤ r) : nxP z b k (r + 1).toNat = if 10 ≤ z (250 + r) ∧ b < z (250 + r) ∧ z (250 + r) % 2 = k ∧ (nxP z b k r.toNat = -6 ∨ z (250 + r) < nxP z b k r.toNat) then z (250 + r) else nxP z b k r.toNat := by
  rw [show (r + 1).toNat = r.toNat + 1 by omega, nxP, show ((r.toNat : Nat) : Int) = r by omega]
theorem samZ_S {z : Int → Int} {k r : Int} (h : 0 ≤ r) : samZ z k (r + 1).toNat = if z (250 + r) = 1 ∧ z (10 + r) = k then r else samZ z k r.toNat := by
  rw [show (r + 1).toNat = r.toNat + 1 by omega, samZ, show ((r.toNat : Nat) : Int) = r by omega]
theorem sA_sA {s : SS} {k : Nat} {f g : Int → Int} : sA (sA s k f) k g = sA s k g := by
  unfold sA
  congr 1
  funext j
  by_cases q : j = k
  · rw [if_pos q, if_pos q]
  · rw [if_neg q, if_neg q]
    show (if j = k then f else s.2 j) = s.2 j
    rw [if_neg q]
theorem sA_at {s : SS} {k : Nat} {f : Int → Int} : (sA s k f).2 k = f := by
  show (if k = k then f else s.2 k) = f
  rw [if_pos rfl]
def bcF (z : Int → Int) (p r : Int) : Int → Int := fun i => if 250 ≤ i ∧ i < 250 + r ∧ z i = p then 10 + 2 * z 4 else z i
theorem bcF_lo {z : Int → Int} {p r i : Int} (h : i < 250) : bcF z p r i = z i := by unfold bcF; rw [if_neg (by omega)]
theorem bcF_hi {z : Int → Int} {p r i : Int} (h : 250 + r ≤ i) : bcF z p r i = z i := by unfold bcF; rw [if_neg (by omega)]
theorem bcF_S {z : Int → Int} {p r v : Int} (h : 0 ≤ r) (hv : v = if z (250 + r) = p then 10 + 2 * z 4 else z (250 + r)) : uZ (bcF z p r) (250 + r) v = bcF z p (r + 1) := by
  funext i
  unfold uZ bcF
  by_cases q : i = 250 + r
  · subst q
    rw [if_pos rfl, hv]
    by_cases q2 : z (250 + r) = p
    · rw [if_pos q2, if_pos ⟨by omega, by omega, q2⟩]
    · rw [if_neg q2, if_neg (fun x => q2 x.2.2)]
  · rw [if_neg q]
    by_cases q2 : 250 ≤ i ∧ i < 250 + r ∧ z i = p
    · rw [if_pos q2, if_pos ⟨q2.1, by omega, q2.2.2⟩]
    · rw [if_neg q2, if_neg (fun x => q2 ⟨x.1, by omega, x.2.2⟩)]
theorem bcF_0 {z : Int → Int} {p : Int} : bcF z p 0 = z := by
  funext i
  unfold bcF
  rw [if_neg (by omega)]
theorem becm_eq {z : Int → Int} {p : Int} : uZ (bcF z p (z 3)) 4 (z 4 + 1) = becm z p := by
  funext i
  unfold uZ bcF becm
  by_cases q : i = 4
  · rw [if_pos q]
  · rw [if_neg q]
theorem rowsAt_le {z : Int → Int} {p : Int} (h : 0 ≤ z 3) : 0 ≤ rowsAt z p ∧ rowsAt z p ≤ z 3 := by
  have h1 := sumI_01 (f := fun r => pz (z (250 + r) = p)) (fun r => pz_01 _) (z 3).toNat
  unfold rowsAt
  omega
theorem rowsAt_pos {z : Int → Int} {p : Int} : 0 < rowsAt z p ↔ ∃ r, 0 ≤ r ∧ r < z 3 ∧ z (250 + r) = p := by
  unfold rowsAt
  rw [cnt_pos (P := fun r => z (250 + r) = p)]
  refine ⟨fun ⟨r, h1, h2⟩ => ⟨r, by omega, by omega, h2⟩, fun ⟨r, h1, h2, h3⟩ => ⟨r.toNat, by omega, ?_⟩⟩
  rw [show ((r.toNat : Nat) : Int) = r by omega]; exact h3
theorem rowsAt_0 {z : Int → Int} {p : Int} (h : 0 ≤ z 3) : rowsAt z p = 0 ↔ ∀ r, 0 ≤ r → r < z 3 → z (250 + r) ≠ p := by
  have h1 := (rowsAt_le (p := p) h).1
  refine ⟨fun e r h2 h3 h4 => ?_, fun e => ?_⟩
  · have := rowsAt_pos.mpr ⟨r, h2, h3, h4⟩; omega
  · rcases Int.lt_or_eq_of_le h1 with q | q
    · obtain ⟨r, h2, h3, h4⟩ := rowsAt_pos.mp q
      exact absurd h4 (e r h2 h3)
    · exact q.symm
/-- the least place of a kind behind one -/
theorem nxP_spec {z : Int → Int} {b k : Int} : ∀ n : Nat, (nxP z b k n = -6 ∧ ∀ r : Nat, r < n → ¬ (10 ≤ z (250 + r) ∧ b < z (250 + r) ∧ z (250 + r) % 2 = k)) ∨ (10 ≤ nxP z b k n ∧ b < nxP z b k n ∧ nxP z b k n % 2 = k ∧ (∃ r : Nat, r < n ∧ z (250 + r) = nxP z b k n) ∧ ∀ r : Nat, r < n → 10 ≤ z (250 + r) → b < z (250 + r) → z (250 + r) % 2 = k → nxP z b k n ≤ z (250 + r))
  | 0 => Or.inl ⟨rfl, fun r hr => absurd hr (Nat.not_lt_zero _)⟩
  | n + 1 => by
    rw [nxP]
    rcases nxP_spec (z := z) (b := b) (k := k) n with ⟨h1, h2⟩ | ⟨h1, h2, h3, ⟨r0, h4, h5⟩, h6⟩
    · by_cases c : 10 ≤ z (250 + n) ∧ b < z (250 + n) ∧ z (250 + n) % 2 = k
      · rw [if_pos ⟨c.1, c.2.1, c.2.2, Or.inl h1⟩]
        refine Or.inr ⟨c.1, c.2.1, c.2.2, ⟨n, by omega, rfl⟩, fun r hr g1 g2 g3 => ?_⟩
        rcases Nat.lt_or_ge r n with q | q
        · exact absurd ⟨g1, g2, g3⟩ (h2 r q)
        · rw [show r = n by omega]; exact Int.le_refl _
      · rw [if_neg (fun x => c ⟨x.1, x.2.1, x.2.2.1⟩)]
        refine Or.inl ⟨h1, fun r hr => ?_⟩
        rcases Nat.lt_or_ge r n with q | q
        · exact h2 r q
        · rw [show r = n by omega]; exact c
    · by_cases c : 10 ≤ z (250 + n) ∧ b < z (250 + n) ∧ z (250 + n) % 2 = k ∧ (nxP z b k n = -6 ∨ z (250 + n) < nxP z b k n)
      · rw [if_pos c]
        refine Or.inr ⟨c.1, c.2.1, c.2.2.1, ⟨n, by omega, rfl⟩, fun r hr g1 g2 g3 => ?_⟩
        rcases Nat.lt_or_ge r n with q | q
        · have := h6 r q g1 g2 g3; omega
        · rw [show r = n by omega]; exact Int.le_refl _
      · rw [if_neg c]
        refine Or.inr ⟨h1, h2, h3, ⟨r0, by omega, h5⟩, fun r hr g1 g2 g3 => ?_⟩
        rcases Nat.lt_or_ge r n with q | q
        · exact h6 r q g1 g2 g3
        · rw [show r = n by omega] at g1 g2 g3 ⊢
          by_cases d : nxP z b k n ≤ z (250 + n)
          · exact d
          · exact absurd ⟨g1, g2, g3, Or.inr (by omega)⟩ c
theorem uZ_ne {f : Int → Int} {i j v : Int} (h : j ≠ i) : uZ f i v j = f j := if_neg h
theorem uZ_at {f : Int → Int} {i v : Int} : uZ f i v i = v := if_pos rfl
theorem sA_self {s : SS} {k : Nat} : sA s k (s.2 k) = s := by
  refine Prod.ext rfl (funext fun j => ?_)
  show (if j = k then s.2 k else s.2 j) = s.2 j
  by_cases q : j = k
  · rw [if_pos q, q]
  · rw [if_neg q]
theorem Vb_lo {z : Int → Int} {i v : Int} (h : Vb z) (h3 : i ≠ 3) (h4 : i ≠ 4) (hi : i < 250) : Vb (uZ z i v) := by
  obtain ⟨h1, h2, h3', h4', h5⟩ := h
  unfold Vb
  rw [uZ_ne (Ne.symm h3), uZ_ne (Ne.symm h4)]
  refine ⟨h1, h2, h3', h4', fun r g1 g2 => ?_⟩
  rw [uZ_ne (by omega)]
  exact h5 r g1 g2
theorem wriZ_lo {z : Int → Int} {i : Int} (h : i < 250) (h4 : i ≠ 4) (h7 : i ≠ 7) : wriZ z i = z i := by
  unfold wriZ
  by_cases c : rowsAt z 1 = 0
  · rw [if_pos c]
  · rw [if_neg c]
    unfold becm
    rw [if_neg h4, if_neg (by omega), uZ_ne h7]
theorem samZ_spec {z : Int → Int} {k : Int} : ∀ n : Nat, (samZ z k n = -6 ∧ ∀ r : Nat, r < n → ¬ (z (250 + r) = 1 ∧ z (10 + r) = k)) ∨ (0 ≤ samZ z k n ∧ samZ z k n < n ∧ z (250 + samZ z k n) = 1 ∧ z (10 + samZ z k n) = k)
  | 0 => Or.inl ⟨rfl, fun r hr => absurd hr (Nat.not_lt_zero _)⟩
  | n + 1 => by
    rw [samZ]
    by_cases c : z (250 + n) = 1 ∧ z (10 + n) = k
    · rw [if_pos c]
      exact Or.inr ⟨by omega, by omega, c.1, c.2⟩
    · rw [if_neg c]
      rcases samZ_spec (z := z) (k := k) n with ⟨h1, h2⟩ | ⟨h1, h2, h3, h4⟩
      · refine Or.inl ⟨h1, fun r hr => ?_⟩
        rcases Nat.lt_or_ge r n with q | q
        · exact h2 r q
        · rw [show r = n by omega]; exact c
      · exact Or.inr ⟨h1, by omega, h3, h4⟩
theorem samV_spec {z : Int → Int} {k : Int} (h : 0 ≤ z 3) : samV z k = -6 ∨ (z 1 = 1 ∧ 0 ≤ samV z k ∧ samV z k < z 3 ∧ z (250 + samV z k) = 1 ∧ z (10 + samV z k) = k) := by
  unfold samV
  by_cases c : z 1 = 1
  · rw [if_pos c]
    rcases samZ_spec (z := z) (k := k) (z 3).toNat with ⟨h1, _⟩ | ⟨h1, h2, h3, h4⟩
    · exact Or.inl h1
    · exact Or.inr ⟨c, h1, by omega, h3, h4⟩
  · rw [if_neg c]; exact Or.inl rfl
theorem addZ_1 {z : Int → Int} {k : Int} (h : samV z k = -6) (h2 : rowsAt z 1 = z 0) : addZ z k = uZ (uZ (uZ (uZ (wriZ z) 3 (z 3 + 1)) (10 + z 3) k) (130 + z 3) 1) (250 + z 3) 1 := by
  unfold addZ addW
  rw [if_pos h, if_pos ⟨h, h2⟩]
theorem addZ_2 {z : Int → Int} {k : Int} (h : samV z k = -6) (h2 : ¬ rowsAt z 1 = z 0) : addZ z k = uZ (uZ (uZ (uZ z 3 (z 3 + 1)) (10 + z 3) k) (130 + z 3) 1) (250 + z 3) 1 := by
  unfold addZ addW
  rw [if_pos h, if_neg (fun x => h2 x.2)]
theorem addZ_3 {z : Int → Int} {k : Int} (h : ¬ samV z k = -6) : addZ z k = uZ (uZ (uZ (uZ (uZ z 3 (z 3 + 1)) (10 + z 3) k) (130 + z 3) 0) (250 + z 3) 0) (130 + samV z k) (z (130 + samV z k) + 1) := by
  unfold addZ addW
  rw [if_neg h, if_neg (fun x => h x.1)]
/-- the next place of a kind, told by run numbers -/
theorem many_step {z : Int → Int} {kind : Int} (hk : kind = 0 ∨ kind = 1) (hz : Vb z) (b K : Int) (h0 : 0 ≤ K) (h1 : K ≤ z 4) (h2 : b = 10 + 2 * (K - 1) + kind ∨ K = 0 ∧ b = 0) :
    (nxP z b kind (z 3).toNat = -6 ∧ sumI (fun k => pz (0 < rowsAt z (10 + 2 * k + kind))) K.toNat = manyZ z kind) ∨ ∃ K' : Int, K ≤ K' ∧ K' < z 4 ∧ nxP z b kind (z 3).toNat = 10 + 2 * K' + kind ∧ 0 < rowsAt z (10 + 2 * K' + kind) ∧ (∀ k, K ≤ k → k < K' → rowsAt z (10 + 2 * k + kind) = 0) ∧ sumI (fun k => pz (0 < rowsAt z (10 + 2 * k + kind))) K.toNat = sumI (fun k => pz (0 < rowsAt z (10 + 2 * k + kind))) K'.toNat ∧ sumI (fun k => pz (0 < rowsAt z (10 + 2 * k + kind))) (K' + 1).toNat = sumI (fun k => pz (0 < rowsAt z (10 + 2 * k + kind))) K.toNat + 1 := by
  obtain ⟨v1, v2, v3, v4, v5⟩ := hz
  rcases nxP_spec (z := z) (b := b) (k := kind) (z 3).toNat with ⟨g1, g2⟩ | ⟨g1, g2, g3, ⟨r0, g4, g5⟩, g6⟩
  · refine Or.inl ⟨g1, ?_⟩
    unfold manyZ
    refine (sumI_split (by omega) (fun r h3 h4 => pz_f (fun q => ?_))).symm
    obtain ⟨r1, q1, q2, q3⟩ := rowsAt_pos.mp q
    have := g2 r1.toNat (by omega)
    rw [show ((r1.toNat : Nat) : Int) = r1 by omega] at this
    omega
  · have hr := v5 r0 (by omega) (by omega)
    obtain ⟨K', hK'⟩ : ∃ K' : Int, nxP z b kind (z 3).toNat = 10 + 2 * K' + kind := ⟨(nxP z b kind (z 3).toNat - 10 - kind) / 2, by omega⟩
    have zero : ∀ k, K ≤ k → k < K' → rowsAt z (10 + 2 * k + kind) = 0 := by
      intro k h3 h4
      rw [rowsAt_0 v1]
      intro r q1 q2 q3
      have := g6 r.toNat (by omega)
      rw [show ((r.toNat : Nat) : Int) = r by omega] at this
      omega
    have pos : 0 < rowsAt z (10 + 2 * K' + kind) := rowsAt_pos.mpr ⟨r0, by omega, by omega, by omega⟩
    have e1 : sumI (fun k => pz (0 < rowsAt z (10 + 2 * k + kind))) K'.toNat = sumI (fun k => pz (0 < rowsAt z (10 + 2 * k + kind))) K.toNat :=
      sumI_split (by omega) (fun r h3 h4 => pz_f (fun q => by have := zero r (by omega) (by omega); omega))
    refine Or.inr ⟨K', by omega, by omega, hK', pos, zero, e1.symm, ?_⟩
    have e2 : sumI (fun k => pz (0 < rowsAt z (10 + 2 * k + kind))) (K' + 1).toNat = sumI (fun k => pz (0 < rowsAt z (10 + 2 * k + kind))) K'.toNat + pz (0 < rowsAt z (10 + 2 * K' + kind)) := sumI_S (by omega)
    rw [e2, e1, pz_t pos]
theorem sum_rng {z : Int → Int} {kind K : Int} (h : 0 ≤ K) : 0 ≤ sumI (fun k => pz (0 < rowsAt z (10 + 2 * k + kind))) K.toNat ∧ sumI (fun k => pz (0 < rowsAt z (10 + 2 * k + kind))) K.toNat ≤ K := by
  have := sumI_01 (f := fun k => pz (0 < rowsAt z (10 + 2 * k + kind))) (fun r => pz_01 _) K.toNat
  omega
theorem ins_ok {f f1 : Int → Int} {q v j : Int} (g1 : j < q → f1 j = f j) (g2 : q < j → f1 j = f (j - 1)) : uZ f1 q v j = insI f q v j := by
  unfold uZ insI
  by_cases a : j = q
  · rw [if_pos a, if_neg (by omega), if_pos a]
  · rw [if_neg a]
    by_cases b : j < q
    · rw [if_pos b]; exact g1 b
    · rw [if_neg b, if_neg a]; exact g2 (by omega)
theorem shf_ok {f f1 : Int → Int} {q j : Int} (k1 : f1 (q - 1) = f (q - 1)) (g1 : j < q → f1 j = f j) (g2 : q < j → f1 j = f (j - 1)) : (j < q - 1 → uZ f1 q (f1 (q - 1)) j = f j) ∧ (q - 1 < j → uZ f1 q (f1 (q - 1)) j = f (j - 1)) := by
  unfold uZ
  refine ⟨fun a => ?_, fun a => ?_⟩
  · rw [if_neg (by omega)]; exact g1 (by omega)
  · by_cases b : j = q
    · rw [if_pos b, b]; exact k1
    · rw [if_neg b]; exact g2 (by omega)
