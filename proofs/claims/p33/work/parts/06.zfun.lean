/-! ===== the pure side: sums and counts; the reference's row z and what its methods make of it ===== -/
theorem sumI_cong {f g : Int → Int} : ∀ {n : Nat}, (∀ r : Nat, r < n → f r = g r) → sumI f n = sumI g n
  | 0, _ => rfl
  | n + 1, h => by rw [sumI, sumI, sumI_cong (fun r hr => h r (by omega)), h n (by omega)]
theorem sumI_0 {f : Int → Int} : ∀ {n : Nat}, (∀ r : Nat, r < n → f r = 0) → sumI f n = 0
  | 0, _ => rfl
  | n + 1, h => by rw [sumI, sumI_0 (fun r hr => h r (by omega)), h n (by omega)]; rfl
theorem sumI_nn {f : Int → Int} : ∀ {n : Nat}, (∀ r : Nat, r < n → 0 ≤ f r) → 0 ≤ sumI f n
  | 0, _ => Int.le_refl 0
  | n + 1, h => by
    have h1 := sumI_nn (n := n) (fun r hr => h r (by omega))
    have h2 := h n (by omega)
    rw [sumI]; omega
theorem sumI_le {f g : Int → Int} : ∀ {n : Nat}, (∀ r : Nat, r < n → f r ≤ g r) → sumI f n ≤ sumI g n
  | 0, _ => Int.le_refl 0
  | n + 1, h => by
    have h1 := sumI_le (n := n) (fun r hr => h r (by omega))
    have h2 := h n (by omega)
    rw [sumI, sumI]; omega
theorem sumI_part {f : Int → Int} {i : Nat} : ∀ {n : Nat}, (∀ r : Nat, r < n → 0 ≤ f r) → i < n → f i ≤ sumI f n
  | 0, _, hi => absurd hi (Nat.not_lt_zero _)
  | n + 1, h, hi => by
    have h2 := h n (by omega)
    have h3 := sumI_nn (f := f) (n := n) (fun r hr => h r (by omega))
    rw [sumI]
    rcases Nat.lt_or_ge i n with q | q
    · have h1 := sumI_part (n := n) (fun r hr => h r (by omega)) q; omega
    · have e : i = n := by omega
      subst e; omega
theorem sumI_eq0 {f : Int → Int} {n : Nat} (h : ∀ r : Nat, r < n → 0 ≤ f r) (e : sumI f n = 0) : ∀ r : Nat, r < n → f r = 0 := by
  intro r hr
  have h1 := sumI_part h hr
  have h2 := h r hr
  omega
theorem sumI_upd {f : Int → Int} {i : Nat} {v : Int} : ∀ {n : Nat}, i < n → sumI (uZ f i v) n = sumI f n - f i + v
  | 0, hi => absurd hi (Nat.not_lt_zero _)
  | n + 1, hi => by
    rw [sumI, sumI]
    rcases Nat.lt_or_ge i n with q | q
    · have e : uZ f i v n = f n := by unfold uZ; rw [if_neg (by omega)]
      rw [sumI_upd q, e]; omega
    · have e : i = n := by omega
      subst e
      have e2 : sumI (uZ f i v) i = sumI f i := sumI_cong (fun r hr => by unfold uZ; rw [if_neg (by omega)])
      have e3 : uZ f i v i = v := by unfold uZ; rw [if_pos rfl]
      rw [e2, e3]; omega
theorem sumI_add {f g : Int → Int} : ∀ {n : Nat}, sumI (fun r => f r + g r) n = sumI f n + sumI g n
  | 0 => rfl
  | n + 1 => by rw [sumI, sumI, sumI, sumI_add]; omega
theorem sumI_split {f : Int → Int} {m : Nat} : ∀ {n : Nat}, m ≤ n → (∀ r : Nat, m ≤ r → r < n → f r = 0) → sumI f n = sumI f m
  | 0, h, _ => by rw [show m = 0 by omega]
  | n + 1, h, h2 => by
    rcases Nat.lt_or_ge m (n + 1) with q | q
    · rw [sumI, sumI_split (n := n) (by omega) (fun r h3 h4 => h2 r h3 (by omega)), h2 n (by omega) (by omega)]; omega
    · rw [show m = n + 1 by omega]
theorem sumI_mono {f : Int → Int} (h : ∀ r, 0 ≤ f r) {m : Nat} : ∀ {n : Nat}, m ≤ n → sumI f m ≤ sumI f n
  | 0, h2 => by rw [show m = 0 by omega]; exact Int.le_refl _
  | n + 1, h2 => by
    rcases Nat.lt_or_ge m (n + 1) with q | q
    · have h1 := sumI_mono h (m := m) (n := n) (by omega)
      have h3 := h (n : Int)
      rw [sumI]; omega
    · rw [show m = n + 1 by omega]; exact Int.le_refl _
theorem pz_nn (c : Prop) [Decidable c] : 0 ≤ pz c := by rcases pz_01 c with h | h <;> omega
theorem pz_cong {c d : Prop} [Decidable c] [Decidable d] (h : c ↔ d) : pz c = pz d := by
  by_cases q : c
  · rw [pz_t q, pz_t (h.mp q)]
  · rw [pz_f q, pz_f (fun x => q (h.mpr x))]
theorem pz_1 {c : Prop} [Decidable c] (h : pz c = 1) : c := by
  by_cases q : c
  · exact q
  · rw [pz_f q] at h; omega
theorem pz_0 {c : Prop} [Decidable c] (h : pz c = 0) : ¬ c := fun q => by rw [pz_t q] at h; omega
/-- how many of the numbers below n have a property -/
theorem cnt_pos {P : Int → Prop} [DecidablePred P] {n : Nat} : 0 < sumI (fun r => pz (P r)) n ↔ ∃ r : Nat, r < n ∧ P r := by
  refine ⟨fun h => ?_, fun ⟨r, h1, h2⟩ => ?_⟩
  · by_cases q : ∃ r : Nat, r < n ∧ P r
    · exact q
    · rw [sumI_0 (fun r hr => pz_f (fun h3 => q ⟨r, hr, h3⟩))] at h; omega
  · have h3 := sumI_part (f := fun r => pz (P r)) (i := r) (n := n) (fun r _ => pz_nn _) h1
    have h4 : pz (P r) = 1 := pz_t h2
    have h5 : (fun r => pz (P r)) (r : Int) = pz (P r) := rfl
    omega
theorem cnt_bij {c : Nat → Int} {n : Nat} : ∀ {len : Nat} {P : Int → Prop} [DecidablePred P], (∀ j, j < len → 0 ≤ c j ∧ c j < n ∧ P (c j)) → (∀ j k, j < k → k < len → c j ≠ c k) → (∀ r : Nat, r < n → P r → ∃ j, j < len ∧ c j = r) → sumI (fun r => pz (P r)) n = len
  | 0, P, _, _, _, h3 => by
    rw [sumI_0 (fun r hr => pz_f (fun q => by obtain ⟨j, hj, _⟩ := h3 r hr q; omega))]; rfl
  | len + 1, P, _, h1, h2, h3 => by
    have ih := cnt_bij (len := len) (P := fun r => P r ∧ r ≠ c len) (fun j hj => ⟨(h1 j (by omega)).1, (h1 j (by omega)).2.1, (h1 j (by omega)).2.2, h2 j len hj (by omega)⟩) (fun j k hjk hk => h2 j k hjk (by omega)) (fun r hr hq => by
      obtain ⟨j, hj, e⟩ := h3 r hr hq.1
      rcases Nat.lt_or_ge j len with q | q
      · exact ⟨j, q, e⟩
      · rw [show j = len by omega] at e
        exact absurd e.symm hq.2)
    obtain ⟨a1, a2, a3⟩ := h1 len (by omega)
    obtain ⟨i, hi⟩ : ∃ i : Nat, c len = (i : Int) := ⟨(c len).toNat, by omega⟩
    have e : sumI (fun r => pz (P r)) n = sumI (uZ (fun r => pz (P r ∧ r ≠ c len)) i 1) n := sumI_cong (fun r hr => by
      unfold uZ
      by_cases q : (r : Int) = i
      · rw [if_pos q]
        exact pz_t (by rw [q, ← hi]; exact a3)
      · rw [if_neg q]
        exact pz_cong ⟨fun x => ⟨x, by rw [hi]; exact q⟩, fun x => x.1⟩)
    have e2 : pz (P (i : Int) ∧ (i : Int) ≠ c len) = 0 := pz_f (fun x => x.2 hi.symm)
    rw [e, sumI_upd (by omega), ih, e2]
    omega
def bef (z : Int → Int) (a b : Int) : Prop := z (10 + a) < z (10 + b) ∨ z (10 + a) = z (10 + b) ∧ a < b
def rowsAt (z : Int → Int) (p : Int) : Int := sumI (fun r => pz (z (250 + r) = p)) (z 3).toNat
def becm (z : Int → Int) (p : Int) : Int → Int := fun i => if i = 4 then z 4 + 1 else if 250 ≤ i ∧ i < 250 + z 3 ∧ z i = p then 10 + 2 * z 4 else z i
def wriZ (z : Int → Int) : Int → Int := if rowsAt z 1 = 0 then z else becm (uZ z 7 (z 7 + rowsAt z 1)) 1
def samZ (z : Int → Int) (key : Int) : Nat → Int
  | 0 => -6
  | n + 1 => if z (250 + n) = 1 ∧ z (10 + n) = key then n else samZ z key n
def samV (z : Int → Int) (key : Int) : Int := if z 1 = 1 then samZ z key (z 3).toNat else -6
def addW (z : Int → Int) (key : Int) : Int → Int := if samV z key = -6 ∧ rowsAt z 1 = z 0 then wriZ z else z
def addZ (z : Int → Int) (key : Int) : Int → Int :=
  if samV z key = -6 then uZ (uZ (uZ (uZ (addW z key) 3 (z 3 + 1)) (10 + z 3) key) (130 + z 3) 1) (250 + z 3) 1
  else uZ (uZ (uZ (uZ (uZ (addW z key) 3 (z 3 + 1)) (10 + z 3) key) (130 + z 3) 0) (250 + z 3) 0) (130 + samV z key) (z (130 + samV z key) + 1)
def nxP (z : Int → Int) (b k : Int) : Nat → Int
  | 0 => -6
  | n + 1 => if 10 ≤ z (250 + n) ∧ b < z (250 + n) ∧ z (250 + n) % 2 = k ∧ (nxP z b k n = -6 ∨ z (250 + n) < nxP z b k n) then z (250 + n) else nxP z b k n
def manyZ (z : Int → Int) (kind : Int) : Int := sumI (fun k => pz (0 < rowsAt z (10 + 2 * k + kind))) (z 4).toNat
def waysZ (size : Int) : Int := min (size - 1) 8
def rnkZ (z : Int → Int) (p : Int) : Int := sumI (fun k => pz (0 < rowsAt z (10 + 2 * k + 1))) ((p - 11) / 2).toNat
def cutZ (z : Int → Int) : Int → Int := fun i =>
  if i = 4 then z 4 + pz (0 < rowsAt z 2) + manyZ z 1 else if i = 5 then 0 else if i = 9 then z 9 + 1
  else if 250 ≤ i ∧ i < 250 + z 3 then (if z i = 2 then 10 + 2 * z 4 else if 11 ≤ z i ∧ z i % 2 = 1 then 10 + 2 * (z 4 + pz (0 < rowsAt z 2) + rnkZ z (z i)) else z i) else z i
def graZ (z : Int → Int) (size : Int) : Int → Int := if z 2 = 1 ∧ size < rowsAt z 1 then wriZ (uZ z 0 size) else if z 5 = 1 ∧ waysZ size < manyZ z 1 then cutZ (uZ z 0 size) else uZ z 0 size
def graA (z : Int → Int) (size : Int) : Int := if z 2 = 1 ∧ size < rowsAt z 1 then 1 else if z 5 = 1 ∧ waysZ size < manyZ z 1 then pz (0 < rowsAt z 2) + manyZ z 1 else 0
def mvZ (z : Int → Int) (p : Int) : Int → Int := fun i => if 250 ≤ i ∧ i < 250 + z 3 ∧ z i = p then p + 1 else z i
def smK (z : Int → Int) : Nat → Int
  | 0 => -1
  | n + 1 => if 0 < rowsAt z (10 + 2 * n) ∧ (smK z n = -1 ∨ rowsAt z (10 + 2 * n) < rowsAt z (10 + 2 * smK z n)) then n else smK z n
def smlZ (z : Int → Int) : Int := 10 + 2 * smK z (z 4).toNat
def bgI (z : Int → Int) : Nat → Int → Int
  | 0 => z
  | n + 1 => mvZ (bgI z n) (smlZ (bgI z n))
def begN (z : Int → Int) : Int := min (manyZ z 0) (waysZ (z 0))
def begZ (z : Int → Int) : Int → Int := uZ (uZ (bgI (uZ z 6 (begN z)) (begN z).toNat) 5 1) 8 (z 8 + 1)
def isIn (p : Int) : Prop := 11 ≤ p ∧ p % 2 = 1
def frZ (z : Int → Int) : Nat → Int
  | 0 => -6
  | n + 1 => if (11 ≤ z (250 + n) ∧ z (250 + n) % 2 = 1) ∧ (frZ z n = -6 ∨ z (10 + n) < z (10 + frZ z n)) then n else frZ z n
def loZ (z : Int → Int) : Nat → Int
  | 0 => -6
  | n + 1 => if z (250 + n) = 2 ∧ (loZ z n = -6 ∨ z (10 + loZ z n) ≤ z (10 + n)) then n else loZ z n
def riZ (z : Int → Int) : Int := sumI (fun r => pz (11 ≤ z (250 + r) ∧ z (250 + r) % 2 = 1)) (z 3).toNat
def frV (z : Int → Int) : Int := frZ z (z 3).toNat
def loV (z : Int → Int) : Int := loZ z (z 3).toNat
def stp0 (z : Int → Int) : Int → Int :=
  if z 1 = 1 ∧ loV z ≠ -6 ∧ z (10 + loV z) = z (10 + frV z) then uZ (uZ (uZ (uZ z 7 (z 7 + 1)) (130 + loV z) (z (130 + loV z) + z (130 + frV z))) (130 + frV z) 0) (250 + frV z) 0
  else uZ (uZ z 7 (z 7 + 2)) (250 + frV z) 2
def stpZ (z : Int → Int) : Int → Int := if riZ (stp0 z) = 0 then uZ (becm (stp0 z) 2) 5 0 else stp0 z
def goOn (z : Int → Int) : Prop := z 5 = 1 ∨ 1 < manyZ z 0
def oneZ (z : Int → Int) : Int → Int := stpZ (if z 5 = 0 then begZ z else z)
def AllZ (z z' : Int → Int) : Prop := ¬ goOn z' ∧ ∃ w : Nat → Int → Int, ∃ n : Nat, w 0 = z ∧ w n = z' ∧ ∀ i, i < n → goOn (w i) ∧ w (i + 1) = oneZ (w i)
theorem AllZ_0 {z : Int → Int} (h : ¬ goOn z) : AllZ z z := ⟨h, fun _ => z, 0, rfl, rfl, fun i hi => absurd hi (Nat.not_lt_zero _)⟩
theorem AllZ_step {z z' : Int → Int} (h : goOn z) (h2 : AllZ (oneZ z) z') : AllZ z z' := by
  obtain ⟨h3, w, n, e1, e2, e3⟩ := h2
  refine ⟨h3, fun i => if i = 0 then z else w (i - 1), n + 1, rfl, ?_, fun i hi => ?_⟩
  · show (if n + 1 = 0 then z else w (n + 1 - 1)) = z'
    rw [if_neg (by omega)]; exact e2
  · show goOn (if i = 0 then z else w (i - 1)) ∧ (if i + 1 = 0 then z else w (i + 1 - 1)) = oneZ (if i = 0 then z else w (i - 1))
    rw [if_neg (show ¬ i + 1 = 0 by omega)]
    by_cases q : i = 0
    · subst q
      rw [if_pos rfl]
      exact ⟨h, e1⟩
    · rw [if_neg q]
      have := e3 (i - 1) (by omega)
      rw [show i - 1 + 1 = i by omega] at this
      exact this
theorem AllZ_one {z a b : Int → Int} (ha : AllZ z a) (hb : AllZ z b) : a = b := by
  obtain ⟨h1, w, n, e1, e2, e3⟩ := ha
  obtain ⟨g1, v, k, f1, f2, f3⟩ := hb
  have key : ∀ i, i ≤ n → i ≤ k → w i = v i := by
    intro i
    induction i with
    | zero => intro _ _; rw [e1, f1]
    | succ i ih => intro h2 h3; rw [(e3 i (by omega)).2, (f3 i (by omega)).2, ih (by omega) (by omega)]
  rcases Nat.lt_trichotomy n k with q | q | q
  · have h4 := (f3 n q).1
    rw [← key n (Nat.le_refl _) (by omega), e2] at h4
    exact absurd h4 h1
  · subst q
    rw [← e2, ← f2]; exact key n (Nat.le_refl _) (Nat.le_refl _)
  · have h4 := (e3 k q).1
    rw [key k (by omega) (Nat.le_refl _), f2] at h4
    exact absurd h4 g1
def Vb (z : Int → Int) : Prop := 0 ≤ z 3 ∧ z 3 ≤ 120 ∧ 0 ≤ z 4 ∧ z 4 ≤ 900000000 ∧ ∀ r, 0 ≤ r → r < z 3 → 0 ≤ z (250 + r) ∧ (z (250 + r) ≤ 2 ∨ 10 ≤ z (250 + r) ∧ z (250 + r) < 10 + 2 * z 4)
theorem sumI_S {f : Int → Int} {r : Int} (h : 0 ≤ r) : sumI f (r + 1).toNat = sumI f r.toNat + f r := by
  rw [show (r + 1).toNat = r.toNat + 1 by omega, sumI, show ((r.toNat : Nat) : Int) = r by omega]
theorem nxP_S {z : Int → Int} {b k r : Int} (h : 0 ≤ r) : nxP z b k (r + 1).toNat = if 10 ≤ z (250 + r) ∧ b < z (250 + r) ∧ z (250 + r) % 2 = k ∧ (nxP z b k r.toNat = -6 ∨ z (250 + r) < nxP z b k r.toNat) then z (250 + r) else nxP z b k r.toNat := by
  rw [show (r + 1).toNat = r.toNat + 1 by omega, nxP, show ((r.toNat : Nat) : Int) = r by omega]
theorem samZ_S {z : Int → Int} {k r : Int} (h : 0 ≤ r) : samZ z k (r + 1).toNat = if z (250 + r) = 1 ∧ z (10 + r) = k then r else samZ z k r.toNat := by
  rw [show (r + 1).toNat = r.toNat + 1 by omega, samZ, show ((r.toNat : Nat) : Int) = r by omega]
theorem sA_sA {s : SS} {k : Nat} {f g : Int → Int} : sA (sA s k f) k g = sA s k g := by
  unfold sA
  congr 1
  funext j
  by_cases q : j = k
  · rw [if_pos q, if_pos q]
  · rw [if_neg q, if_neg q]
    show (if j = k then f else s.2 j) = s.2 j
    rw [if_neg q]
theorem sA_at {s : SS} {k : Nat} {f : Int → Int} : (sA s k f).2 k = f := by
  show (if k = k then f else s.2 k) = f
  rw [if_pos rfl]
def bcF (z : Int → Int) (p r : Int) : Int → Int := fun i => if 250 ≤ i ∧ i < 250 + r ∧ z i = p then 10 + 2 * z 4 else z i
theorem bcF_lo {z : Int → Int} {p r i : Int} (h : i < 250) : bcF z p r i = z i := by unfold bcF; rw [if_neg (by omega)]
theorem bcF_hi {z : Int → Int} {p r i : Int} (h : 250 + r ≤ i) : bcF z p r i = z i := by unfold bcF; rw [if_neg (by omega)]
theorem bcF_S {z : Int → Int} {p r v : Int} (h : 0 ≤ r) (hv : v = if z (250 + r) = p then 10 + 2 * z 4 else z (250 + r)) : uZ (bcF z p r) (250 + r) v = bcF z p (r + 1) := by
  funext i
  unfold uZ bcF
  by_cases q : i = 250 + r
  · subst q
    rw [if_pos rfl, hv]
    by_cases q2 : z (250 + r) = p
    · rw [if_pos q2, if_pos ⟨by omega, by omega, q2⟩]
    · rw [if_neg q2, if_neg (fun x => q2 x.2.2)]
  · rw [if_neg q]
    by_cases q2 : 250 ≤ i ∧ i < 250 + r ∧ z i = p
    · rw [if_pos q2, if_pos ⟨q2.1, by omega, q2.2.2⟩]
    · rw [if_neg q2, if_neg (fun x => q2 ⟨x.1, by omega, x.2.2⟩)]
theorem bcF_0 {z : Int → Int} {p : Int} : bcF z p 0 = z := by
  funext i
  unfold bcF
  rw [if_neg (by omega)]
theorem becm_eq {z : Int → Int} {p : Int} : uZ (bcF z p (z 3)) 4 (z 4 + 1) = becm z p := by
  funext i
  unfold uZ bcF becm
  by_cases q : i = 4
  · rw [if_pos q]
  · rw [if_neg q]
theorem rowsAt_le {z : Int → Int} {p : Int} (h : 0 ≤ z 3) : 0 ≤ rowsAt z p ∧ rowsAt z p ≤ z 3 := by
  have h1 := sumI_01 (f := fun r => pz (z (250 + r) = p)) (fun r => pz_01 _) (z 3).toNat
  unfold rowsAt
  omega
theorem rowsAt_pos {z : Int → Int} {p : Int} : 0 < rowsAt z p ↔ ∃ r, 0 ≤ r ∧ r < z 3 ∧ z (250 + r) = p := by
  unfold rowsAt
  rw [cnt_pos (P := fun r => z (250 + r) = p)]
  refine ⟨fun ⟨r, h1, h2⟩ => ⟨r, by omega, by omega, h2⟩, fun ⟨r, h1, h2, h3⟩ => ⟨r.toNat, by omega, ?_⟩⟩
  rw [show ((r.toNat : Nat) : Int) = r by omega]; exact h3
theorem rowsAt_0 {z : Int → Int} {p : Int} (h : 0 ≤ z 3) : rowsAt z p = 0 ↔ ∀ r, 0 ≤ r → r < z 3 → z (250 + r) ≠ p := by
  have h1 := (rowsAt_le (p := p) h).1
  refine ⟨fun e r h2 h3 h4 => ?_, fun e => ?_⟩
  · have := rowsAt_pos.mpr ⟨r, h2, h3, h4⟩; omega
  · rcases Int.lt_or_eq_of_le h1 with q | q
    · obtain ⟨r, h2, h3, h4⟩ := rowsAt_pos.mp q
      exact absurd h4 (e r h2 h3)
    · exact q.symm
/-- the least place of a kind behind one -/
theorem nxP_spec {z : Int → Int} {b k : Int} : ∀ n : Nat, (nxP z b k n = -6 ∧ ∀ r : Nat, r < n → ¬ (10 ≤ z (250 + r) ∧ b < z (250 + r) ∧ z (250 + r) % 2 = k)) ∨ (10 ≤ nxP z b k n ∧ b < nxP z b k n ∧ nxP z b k n % 2 = k ∧ (∃ r : Nat, r < n ∧ z (250 + r) = nxP z b k n) ∧ ∀ r : Nat, r < n → 10 ≤ z (250 + r) → b < z (250 + r) → z (250 + r) % 2 = k → nxP z b k n ≤ z (250 + r))
  | 0 => Or.inl ⟨rfl, fun r hr => absurd hr (Nat.not_lt_zero _)⟩
  | n + 1 => by
    rw [nxP]
    rcases nxP_spec (z := z) (b := b) (k := k) n with ⟨h1, h2⟩ | ⟨h1, h2, h3, ⟨r0, h4, h5⟩, h6⟩
    · by_cases c : 10 ≤ z (250 + n) ∧ b < z (250 + n) ∧ z (250 + n) % 2 = k
      · rw [if_pos ⟨c.1, c.2.1, c.2.2, Or.inl h1⟩]
        refine Or.inr ⟨c.1, c.2.1, c.2.2, ⟨n, by omega, rfl⟩, fun r hr g1 g2 g3 => ?_⟩
        rcases Nat.lt_or_ge r n with q | q
        · exact absurd ⟨g1, g2, g3⟩ (h2 r q)
        · rw [show r = n by omega]; exact Int.le_refl _
      · rw [if_neg (fun x => c ⟨x.1, x.2.1, x.2.2.1⟩)]
        refine Or.inl ⟨h1, fun r hr => ?_⟩
        rcases Nat.lt_or_ge r n with q | q
        · exact h2 r q
        · rw [show r = n by omega]; exact c
    · by_cases c : 10 ≤ z (250 + n) ∧ b < z (250 + n) ∧ z (250 + n) % 2 = k ∧ (nxP z b k n = -6 ∨ z (250 + n) < nxP z b k n)
      · rw [if_pos c]
        refine Or.inr ⟨c.1, c.2.1, c.2.2.1, ⟨n, by omega, rfl⟩, fun r hr g1 g2 g3 => ?_⟩
        rcases Nat.lt_or_ge r n with q | q
        · have := h6 r q g1 g2 g3; omega
        · rw [show r = n by omega]; exact Int.le_refl _
      · rw [if_neg c]
        refine Or.inr ⟨h1, h2, h3, ⟨r0, by omega, h5⟩, fun r hr g1 g2 g3 => ?_⟩
        rcases Nat.lt_or_ge r n with q | q
        · exact h6 r q g1 g2 g3
        · rw [show r = n by omega] at g1 g2 g3 ⊢
          by_cases d : nxP z b k n ≤ z (250 + n)
          · exact d
          · exact absurd ⟨g1, g2, g3, Or.inr (by omega)⟩ c
theorem uZ_ne {f : Int → Int} {i j v : Int} (h : j ≠ i) : uZ f i v j = f j := if_neg h
theorem uZ_at {f : Int → Int} {i v : Int} : uZ f i v i = v := if_pos rfl
theorem sA_self {s : SS} {k : Nat} : sA s k (s.2 k) = s := by
  refine Prod.ext rfl (funext fun j => ?_)
  show (if j = k then s.2 k else s.2 j) = s.2 j
  by_cases q : j = k
  · rw [if_pos q, q]
  · rw [if_neg q]
theorem Vb_lo {z : Int → Int} {i v : Int} (h : Vb z) (h3 : i ≠ 3) (h4 : i ≠ 4) (hi : i < 250) : Vb (uZ z i v) := by
  obtain ⟨h1, h2, h3', h4', h5⟩ := h
  unfold Vb
  rw [uZ_ne (Ne.symm h3), uZ_ne (Ne.symm h4)]
  refine ⟨h1, h2, h3', h4', fun r g1 g2 => ?_⟩
  rw [uZ_ne (by omega)]
  exact h5 r g1 g2
theorem wriZ_lo {z : Int → Int} {i : Int} (h : i < 250) (h4 : i ≠ 4) (h7 : i ≠ 7) : wriZ z i = z i := by
  unfold wriZ
  by_cases c : rowsAt z 1 = 0
  · rw [if_pos c]
  · rw [if_neg c]
    unfold becm
    rw [if_neg h4, if_neg (by omega), uZ_ne h7]
theorem samZ_spec {z : Int → Int} {k : Int} : ∀ n : Nat, (samZ z k n = -6 ∧ ∀ r : Nat, r < n → ¬ (z (250 + r) = 1 ∧ z (10 + r) = k)) ∨ (0 ≤ samZ z k n ∧ samZ z k n < n ∧ z (250 + samZ z k n) = 1 ∧ z (10 + samZ z k n) = k)
  | 0 => Or.inl ⟨rfl, fun r hr => absurd hr (Nat.not_lt_zero _)⟩
  | n + 1 => by
    rw [samZ]
    by_cases c : z (250 + n) = 1 ∧ z (10 + n) = k
    · rw [if_pos c]
      exact Or.inr ⟨by omega, by omega, c.1, c.2⟩
    · rw [if_neg c]
      rcases samZ_spec (z := z) (k := k) n with ⟨h1, h2⟩ | ⟨h1, h2, h3, h4⟩
      · refine Or.inl ⟨h1, fun r hr => ?_⟩
        rcases Nat.lt_or_ge r n with q | q
        · exact h2 r q
        · rw [show r = n by omega]; exact c
      · exact Or.inr ⟨h1, by omega, h3, h4⟩
theorem samV_spec {z : Int → Int} {k : Int} (h : 0 ≤ z 3) : samV z k = -6 ∨ (z 1 = 1 ∧ 0 ≤ samV z k ∧ samV z k < z 3 ∧ z (250 + samV z k) = 1 ∧ z (10 + samV z k) = k) := by
  unfold samV
  by_cases c : z 1 = 1
  · rw [if_pos c]
    rcases samZ_spec (z := z) (k := k) (z 3).toNat with ⟨h1, _⟩ | ⟨h1, h2, h3, h4⟩
    · exact Or.inl h1
    · exact Or.inr ⟨c, h1, by omega, h3, h4⟩
  · rw [if_neg c]; exact Or.inl rfl
theorem addZ_1 {z : Int → Int} {k : Int} (h : samV z k = -6) (h2 : rowsAt z 1 = z 0) : addZ z k = uZ (uZ (uZ (uZ (wriZ z) 3 (z 3 + 1)) (10 + z 3) k) (130 + z 3) 1) (250 + z 3) 1 := by
  unfold addZ addW
  rw [if_pos h, if_pos ⟨h, h2⟩]
theorem addZ_2 {z : Int → Int} {k : Int} (h : samV z k = -6) (h2 : ¬ rowsAt z 1 = z 0) : addZ z k = uZ (uZ (uZ (uZ z 3 (z 3 + 1)) (10 + z 3) k) (130 + z 3) 1) (250 + z 3) 1 := by
  unfold addZ addW
  rw [if_pos h, if_neg (fun x => h2 x.2)]
theorem addZ_3 {z : Int → Int} {k : Int} (h : ¬ samV z k = -6) : addZ z k = uZ (uZ (uZ (uZ (uZ z 3 (z 3 + 1)) (10 + z 3) k) (130 + z 3) 0) (250 + z 3) 0) (130 + samV z k) (z (130 + samV z k) + 1) := by
  unfold addZ addW
  rw [if_neg h, if_neg (fun x => h x.1)]
/-- the next place of a kind, told by run numbers -/
theorem many_step {z : Int → Int} {kind : Int} (hk : kind = 0 ∨ kind = 1) (hz : Vb z) (b K : Int) (h0 : 0 ≤ K) (h1 : K ≤ z 4) (h2 : b = 10 + 2 * (K - 1) + kind ∨ K = 0 ∧ b = 0) :
    (nxP z b kind (z 3).toNat = -6 ∧ sumI (fun k => pz (0 < rowsAt z (10 + 2 * k + kind))) K.toNat = manyZ z kind ∧ ∀ k, K ≤ k → k < z 4 → rowsAt z (10 + 2 * k + kind) = 0) ∨ ∃ K' : Int, K ≤ K' ∧ K' < z 4 ∧ nxP z b kind (z 3).toNat = 10 + 2 * K' + kind ∧ 0 < rowsAt z (10 + 2 * K' + kind) ∧ (∀ k, K ≤ k → k < K' → rowsAt z (10 + 2 * k + kind) = 0) ∧ sumI (fun k => pz (0 < rowsAt z (10 + 2 * k + kind))) K.toNat = sumI (fun k => pz (0 < rowsAt z (10 + 2 * k + kind))) K'.toNat ∧ sumI (fun k => pz (0 < rowsAt z (10 + 2 * k + kind))) (K' + 1).toNat = sumI (fun k => pz (0 < rowsAt z (10 + 2 * k + kind))) K.toNat + 1 := by
  obtain ⟨v1, v2, v3, v4, v5⟩ := hz
  rcases nxP_spec (z := z) (b := b) (k := kind) (z 3).toNat with ⟨g1, g2⟩ | ⟨g1, g2, g3, ⟨r0, g4, g5⟩, g6⟩
  · have zero : ∀ k, K ≤ k → k < z 4 → rowsAt z (10 + 2 * k + kind) = 0 := by
      intro k h3 h4
      rw [rowsAt_0 v1]
      intro r1 q1 q2 q3
      have := g2 r1.toNat (by omega)
      rw [show ((r1.toNat : Nat) : Int) = r1 by omega] at this
      omega
    refine Or.inl ⟨g1, ?_, zero⟩
    unfold manyZ
    exact (sumI_split (by omega) (fun r h3 h4 => pz_f (fun q => by have := zero r (by omega) (by omega); omega))).symm
  · have hr := v5 r0 (by omega) (by omega)
    obtain ⟨K', hK'⟩ : ∃ K' : Int, nxP z b kind (z 3).toNat = 10 + 2 * K' + kind := ⟨(nxP z b kind (z 3).toNat - 10 - kind) / 2, by omega⟩
    have zero : ∀ k, K ≤ k → k < K' → rowsAt z (10 + 2 * k + kind) = 0 := by
      intro k h3 h4
      rw [rowsAt_0 v1]
      intro r q1 q2 q3
      have := g6 r.toNat (by omega)
      rw [show ((r.toNat : Nat) : Int) = r by omega] at this
      omega
    have pos : 0 < rowsAt z (10 + 2 * K' + kind) := rowsAt_pos.mpr ⟨r0, by omega, by omega, by omega⟩
    have e1 : sumI (fun k => pz (0 < rowsAt z (10 + 2 * k + kind))) K'.toNat = sumI (fun k => pz (0 < rowsAt z (10 + 2 * k + kind))) K.toNat :=
      sumI_split (by omega) (fun r h3 h4 => pz_f (fun q => by have := zero r (by omega) (by omega); omega))
    refine Or.inr ⟨K', by omega, by omega, hK', pos, zero, e1.symm, ?_⟩
    have e2 : sumI (fun k => pz (0 < rowsAt z (10 + 2 * k + kind))) (K' + 1).toNat = sumI (fun k => pz (0 < rowsAt z (10 + 2 * k + kind))) K'.toNat + pz (0 < rowsAt z (10 + 2 * K' + kind)) := sumI_S (by omega)
    rw [e2, e1, pz_t pos]
theorem sum_rng {z : Int → Int} {kind K : Int} (h : 0 ≤ K) : 0 ≤ sumI (fun k => pz (0 < rowsAt z (10 + 2 * k + kind))) K.toNat ∧ sumI (fun k => pz (0 < rowsAt z (10 + 2 * k + kind))) K.toNat ≤ K := by
  have := sumI_01 (f := fun k => pz (0 < rowsAt z (10 + 2 * k + kind))) (fun r => pz_01 _) K.toNat
  omega
theorem ins_ok {f f1 : Int → Int} {q v j : Int} (g1 : j < q → f1 j = f j) (g2 : q < j → f1 j = f (j - 1)) : uZ f1 q v j = insI f q v j := by
  unfold uZ insI
  by_cases a : j = q
  · rw [if_pos a, if_neg (by omega), if_pos a]
  · rw [if_neg a]
    by_cases b : j < q
    · rw [if_pos b]; exact g1 b
    · rw [if_neg b, if_neg a]; exact g2 (by omega)
theorem shf_ok {f f1 : Int → Int} {q j : Int} (k1 : f1 (q - 1) = f (q - 1)) (g1 : j < q → f1 j = f j) (g2 : q < j → f1 j = f (j - 1)) : (j < q - 1 → uZ f1 q (f1 (q - 1)) j = f j) ∧ (q - 1 < j → uZ f1 q (f1 (q - 1)) j = f (j - 1)) := by
  unfold uZ
  refine ⟨fun a => ?_, fun a => ?_⟩
  · rw [if_neg (by omega)]; exact g1 (by omega)
  · by_cases b : j = q
    · rw [if_pos b, b]; exact k1
    · rw [if_neg b]; exact g2 (by omega)
theorem frZ_S {z : Int → Int} {r : Int} (h : 0 ≤ r) : frZ z (r + 1).toNat = if (11 ≤ z (250 + r) ∧ z (250 + r) % 2 = 1) ∧ (frZ z r.toNat = -6 ∨ z (10 + r) < z (10 + frZ z r.toNat)) then r else frZ z r.toNat := by
  rw [show (r + 1).toNat = r.toNat + 1 by omega, frZ, show ((r.toNat : Nat) : Int) = r by omega]
theorem loZ_S {z : Int → Int} {r : Int} (h : 0 ≤ r) : loZ z (r + 1).toNat = if z (250 + r) = 2 ∧ (loZ z r.toNat = -6 ∨ z (10 + loZ z r.toNat) ≤ z (10 + r)) then r else loZ z r.toNat := by
  rw [show (r + 1).toNat = r.toNat + 1 by omega, loZ, show ((r.toNat : Nat) : Int) = r by omega]
theorem smK_S {z : Int → Int} {K : Int} (h : 0 ≤ K) : smK z (K + 1).toNat = if 0 < rowsAt z (10 + 2 * K) ∧ (smK z K.toNat = -1 ∨ rowsAt z (10 + 2 * K) < rowsAt z (10 + 2 * smK z K.toNat)) then K else smK z K.toNat := by
  rw [show (K + 1).toNat = K.toNat + 1 by omega, smK, show ((K.toNat : Nat) : Int) = K by omega]
/-- the first row of the inputs: the least key, of several the lowest number -/
theorem frZ_spec {z : Int → Int} : ∀ n : Nat, (frZ z n = -6 ∧ ∀ r : Nat, r < n → ¬ (11 ≤ z (250 + r) ∧ z (250 + r) % 2 = 1)) ∨ (0 ≤ frZ z n ∧ frZ z n < n ∧ (11 ≤ z (250 + frZ z n) ∧ z (250 + frZ z n) % 2 = 1) ∧ ∀ r : Nat, r < n → (11 ≤ z (250 + r) ∧ z (250 + r) % 2 = 1) → z (10 + frZ z n) < z (10 + r) ∨ z (10 + frZ z n) = z (10 + r) ∧ frZ z n ≤ r)
  | 0 => Or.inl ⟨rfl, fun r hr => absurd hr (Nat.not_lt_zero _)⟩
  | n + 1 => by
    rw [frZ]
    by_cases c : (11 ≤ z (250 + n) ∧ z (250 + n) % 2 = 1) ∧ (frZ z n = -6 ∨ z (10 + n) < z (10 + frZ z n))
    · rw [if_pos c]
      refine Or.inr ⟨by omega, by omega, c.1, fun r hr h2 => ?_⟩
      rcases Nat.lt_or_ge r n with q | q
      · rcases frZ_spec (z := z) n with ⟨h1, h3⟩ | ⟨h1, h3, h4, h5⟩
        · exact absurd h2 (h3 r q)
        · have := h5 r q h2
          have := c.2
          omega
      · rw [show r = n by omega]; omega
    · rw [if_neg c]
      rcases frZ_spec (z := z) n with ⟨h1, h3⟩ | ⟨h1, h3, h4, h5⟩
      · refine Or.inl ⟨h1, fun r hr h2 => ?_⟩
        rcases Nat.lt_or_ge r n with q | q
        · exact h3 r q h2
        · rw [show r = n by omega] at h2
          exact c ⟨h2, Or.inl h1⟩
      · refine Or.inr ⟨h1, by omega, h4, fun r hr h2 => ?_⟩
        rcases Nat.lt_or_ge r n with q | q
        · exact h5 r q h2
        · rw [show r = n by omega] at h2 ⊢
          by_cases d : z (10 + n) < z (10 + frZ z n)
          · exact absurd ⟨h2, Or.inr d⟩ c
          · omega
/-- the last row of the output: the greatest key, of several the greatest number -/
theorem loZ_spec {z : Int → Int} : ∀ n : Nat, (loZ z n = -6 ∧ ∀ r : Nat, r < n → ¬ z (250 + r) = 2) ∨ (0 ≤ loZ z n ∧ loZ z n < n ∧ z (250 + loZ z n) = 2 ∧ ∀ r : Nat, r < n → z (250 + r) = 2 → z (10 + r) < z (10 + loZ z n) ∨ z (10 + r) = z (10 + loZ z n) ∧ r ≤ loZ z n)
  | 0 => Or.inl ⟨rfl, fun r hr => absurd hr (Nat.not_lt_zero _)⟩
  | n + 1 => by
    rw [loZ]
    by_cases c : z (250 + n) = 2 ∧ (loZ z n = -6 ∨ z (10 + loZ z n) ≤ z (10 + n))
    · rw [if_pos c]
      refine Or.inr ⟨by omega, by omega, c.1, fun r hr h2 => ?_⟩
      rcases Nat.lt_or_ge r n with q | q
      · rcases loZ_spec (z := z) n with ⟨h1, h3⟩ | ⟨h1, h3, h4, h5⟩
        · exact absurd h2 (h3 r q)
        · have := h5 r q h2
          have := c.2
          omega
      · rw [show r = n by omega]; omega
    · rw [if_neg c]
      rcases loZ_spec (z := z) n with ⟨h1, h3⟩ | ⟨h1, h3, h4, h5⟩
      · refine Or.inl ⟨h1, fun r hr h2 => ?_⟩
        rcases Nat.lt_or_ge r n with q | q
        · exact h3 r q h2
        · rw [show r = n by omega] at h2
          exact c ⟨h2, Or.inl h1⟩
      · refine Or.inr ⟨h1, by omega, h4, fun r hr h2 => ?_⟩
        rcases Nat.lt_or_ge r n with q | q
        · exact h5 r q h2
        · rw [show r = n by omega] at h2 ⊢
          by_cases d : z (10 + loZ z n) ≤ z (10 + n)
          · exact absurd ⟨h2, Or.inr d⟩ c
          · omega
/-- the smallest run: the least number of rows, of several the lowest number -/
theorem smK_spec {z : Int → Int} : ∀ n : Nat, (smK z n = -1 ∧ ∀ k : Nat, k < n → ¬ 0 < rowsAt z (10 + 2 * k)) ∨ (0 ≤ smK z n ∧ smK z n < n ∧ 0 < rowsAt z (10 + 2 * smK z n) ∧ ∀ k : Nat, k < n → 0 < rowsAt z (10 + 2 * k) → rowsAt z (10 + 2 * smK z n) ≤ rowsAt z (10 + 2 * k) ∧ ((k : Int) < smK z n → rowsAt z (10 + 2 * smK z n) < rowsAt z (10 + 2 * k)))
  | 0 => Or.inl ⟨rfl, fun r hr => absurd hr (Nat.not_lt_zero _)⟩
  | n + 1 => by
    rw [smK]
    by_cases c : 0 < rowsAt z (10 + 2 * n) ∧ (smK z n = -1 ∨ rowsAt z (10 + 2 * n) < rowsAt z (10 + 2 * smK z n))
    · rw [if_pos c]
      refine Or.inr ⟨by omega, by omega, c.1, fun r hr h2 => ?_⟩
      rcases Nat.lt_or_ge r n with q | q
      · rcases smK_spec (z := z) n with ⟨h1, h3⟩ | ⟨h1, h3, h4, h5⟩
        · exact absurd h2 (h3 r q)
        · have := h5 r q h2
          have := c.2
          omega
      · rw [show r = n by omega]; omega
    · rw [if_neg c]
      rcases smK_spec (z := z) n with ⟨h1, h3⟩ | ⟨h1, h3, h4, h5⟩
      · refine Or.inl ⟨h1, fun r hr h2 => ?_⟩
        rcases Nat.lt_or_ge r n with q | q
        · exact h3 r q h2
        · rw [show r = n by omega] at h2
          exact c ⟨h2, Or.inl h1⟩
      · refine Or.inr ⟨h1, by omega, h4, fun r hr h2 => ?_⟩
        rcases Nat.lt_or_ge r n with q | q
        · exact h5 r q h2
        · rw [show r = n by omega] at h2 ⊢
          by_cases d : rowsAt z (10 + 2 * n) < rowsAt z (10 + 2 * smK z n)
          · exact absurd ⟨h2, Or.inr d⟩ c
          · omega
theorem smK_skip {z : Int → Int} {K K' : Int} (h0 : 0 ≤ K) : K ≤ K' → (∀ k, K ≤ k → k < K' → rowsAt z (10 + 2 * k) = 0) → smK z K'.toNat = smK z K.toNat := by
  intro h1 h2
  obtain ⟨d, hd⟩ : ∃ d : Nat, K' = K + d := ⟨(K' - K).toNat, by omega⟩
  subst hd
  induction d with
  | zero => rw [show K + ((0 : Nat) : Int) = K by omega]
  | succ d ih =>
    rw [show (K + ((d + 1 : Nat) : Int)) = (K + d) + 1 by omega, smK_S (by omega), if_neg (fun x => by have := h2 (K + d) (by omega) (by omega); omega)]
    exact ih (by omega) (fun k h3 h4 => h2 k h3 (by omega))
theorem riZ_pos {z : Int → Int} : 0 < riZ z ↔ ∃ r, 0 ≤ r ∧ r < z 3 ∧ (11 ≤ z (250 + r) ∧ z (250 + r) % 2 = 1) := by
  unfold riZ
  rw [cnt_pos (P := fun r => 11 ≤ z (250 + r) ∧ z (250 + r) % 2 = 1)]
  refine ⟨fun ⟨r, h1, h2⟩ => ⟨r, by omega, by omega, h2⟩, fun ⟨r, h1, h2, h3⟩ => ⟨r.toNat, by omega, ?_⟩⟩
  rw [show ((r.toNat : Nat) : Int) = r by omega]; exact h3
theorem riZ_le {z : Int → Int} (h : 0 ≤ z 3) : 0 ≤ riZ z ∧ riZ z ≤ z 3 := by
  have h1 := sumI_01 (f := fun r => pz (11 ≤ z (250 + r) ∧ z (250 + r) % 2 = 1)) (fun r => pz_01 _) (z 3).toNat
  unfold riZ
  omega
theorem frV_spec {z : Int → Int} (h : 0 < riZ z) : 0 ≤ frV z ∧ frV z < z 3 ∧ (11 ≤ z (250 + frV z) ∧ z (250 + frV z) % 2 = 1) ∧ ∀ r, 0 ≤ r → r < z 3 → (11 ≤ z (250 + r) ∧ z (250 + r) % 2 = 1) → z (10 + frV z) < z (10 + r) ∨ z (10 + frV z) = z (10 + r) ∧ frV z ≤ r := by
  obtain ⟨r, h1, h2, h3⟩ := riZ_pos.mp h
  unfold frV
  rcases frZ_spec (z := z) (z 3).toNat with ⟨_, g⟩ | ⟨g1, g2, g3, g4⟩
  · have := g r.toNat (by omega)
    rw [show ((r.toNat : Nat) : Int) = r by omega] at this
    exact absurd h3 this
  · refine ⟨g1, by omega, g3, fun r h5 h6 h7 => ?_⟩
    have := g4 r.toNat (by omega)
    rw [show ((r.toNat : Nat) : Int) = r by omega] at this
    exact this h7
theorem loV_spec {z : Int → Int} (h : 0 ≤ z 3) : (loV z = -6 ∧ rowsAt z 2 = 0) ∨ (0 ≤ loV z ∧ loV z < z 3 ∧ z (250 + loV z) = 2 ∧ ∀ r, 0 ≤ r → r < z 3 → z (250 + r) = 2 → z (10 + r) < z (10 + loV z) ∨ z (10 + r) = z (10 + loV z) ∧ r ≤ loV z) := by
  unfold loV
  rcases loZ_spec (z := z) (z 3).toNat with ⟨g0, g⟩ | ⟨g1, g2, g3, g4⟩
  · refine Or.inl ⟨g0, (rowsAt_0 h).mpr (fun r h1 h2 h3 => ?_)⟩
    have := g r.toNat (by omega)
    rw [show ((r.toNat : Nat) : Int) = r by omega] at this
    exact this h3
  · refine Or.inr ⟨g1, by omega, g3, fun r h5 h6 h7 => ?_⟩
    have := g4 r.toNat (by omega)
    rw [show ((r.toNat : Nat) : Int) = r by omega] at this
    exact this h7
theorem many_step0 {z : Int → Int} (hz : Vb z) (b K : Int) (h0 : 0 ≤ K) (h1 : K ≤ z 4) (h2 : b = 10 + 2 * (K - 1) ∨ K = 0 ∧ b = 0) :
    (nxP z b 0 (z 3).toNat = -6 ∧ ∀ k, K ≤ k → k < z 4 → rowsAt z (10 + 2 * k) = 0) ∨ ∃ K' : Int, K ≤ K' ∧ K' < z 4 ∧ nxP z b 0 (z 3).toNat = 10 + 2 * K' ∧ 0 < rowsAt z (10 + 2 * K') ∧ (∀ k, K ≤ k → k < K' → rowsAt z (10 + 2 * k) = 0) := by
  have A : ∀ k : Int, 10 + 2 * k + 0 = 10 + 2 * k := fun k => by omega
  rcases many_step (Or.inl rfl) hz b K h0 h1 (by omega) with ⟨g1, _, g2⟩ | ⟨K', g1, g2, g3, g4, g5, _⟩
  · exact Or.inl ⟨g1, fun k h3 h4 => by have := g2 k h3 h4; rw [A] at this; exact this⟩
  · rw [A] at g3 g4
    exact Or.inr ⟨K', g1, g2, g3, g4, fun k h3 h4 => by have := g5 k h3 h4; rw [A] at this; exact this⟩
def bstZ (k : Int) : Int := if k = -1 then -6 else 10 + 2 * k
theorem rowsAt_lo {z : Int → Int} {i v p : Int} (hi : i < 250) (h3 : i ≠ 3) : rowsAt (uZ z i v) p = rowsAt z p := by
  unfold rowsAt
  rw [uZ_ne (Ne.symm h3)]
  exact sumI_cong (fun r hr => by rw [uZ_ne (by omega)])
theorem manyZ_lo {z : Int → Int} {i v k : Int} (hi : i < 250) (h3 : i ≠ 3) (h4 : i ≠ 4) : manyZ (uZ z i v) k = manyZ z k := by
  unfold manyZ
  rw [uZ_ne (Ne.symm h4)]
  exact sumI_cong (fun r hr => by rw [rowsAt_lo hi h3])
theorem manyZ_nn {z : Int → Int} {k : Int} (h : 0 ≤ z 4) : 0 ≤ manyZ z k ∧ manyZ z k ≤ z 4 := sum_rng h
theorem sml_spec {z : Int → Int} (h4 : 0 ≤ z 4) (h : 0 < manyZ z 0) : 0 ≤ smK z (z 4).toNat ∧ smK z (z 4).toNat < z 4 ∧ 0 < rowsAt z (smlZ z) ∧ ∀ k, 0 ≤ k → k < z 4 → 0 < rowsAt z (10 + 2 * k) → rowsAt z (smlZ z) ≤ rowsAt z (10 + 2 * k) ∧ (k < smK z (z 4).toNat → rowsAt z (smlZ z) < rowsAt z (10 + 2 * k)) := by
  unfold manyZ at h
  obtain ⟨r, h1, h2⟩ := (cnt_pos (P := fun k => 0 < rowsAt z (10 + 2 * k + 0))).mp h
  rw [show (10 + 2 * (r : Int) + 0) = 10 + 2 * (r : Int) by omega] at h2
  unfold smlZ
  rcases smK_spec (z := z) (z 4).toNat with ⟨_, g⟩ | ⟨g1, g2, g3, g4⟩
  · exact absurd h2 (g r h1)
  · refine ⟨g1, by omega, g3, fun k h5 h6 h7 => ?_⟩
    have := g4 k.toNat (by omega)
    rw [show ((k.toNat : Nat) : Int) = k by omega] at this
    exact this h7
def mvF (z : Int → Int) (p r : Int) : Int → Int := fun i => if 250 ≤ i ∧ i < 250 + r ∧ z i = p then p + 1 else z i
theorem mvF_lo {z : Int → Int} {p r i : Int} (h : i < 250) : mvF z p r i = z i := by unfold mvF; rw [if_neg (by omega)]
theorem mvF_hi {z : Int → Int} {p r i : Int} (h : 250 + r ≤ i) : mvF z p r i = z i := by unfold mvF; rw [if_neg (by omega)]
theorem mvF_S {z : Int → Int} {p r v : Int} (h : 0 ≤ r) (hv : v = if z (250 + r) = p then p + 1 else z (250 + r)) : uZ (mvF z p r) (250 + r) v = mvF z p (r + 1) := by
  funext i
  unfold uZ mvF
  by_cases q : i = 250 + r
  · subst q
    rw [if_pos rfl, hv]
    by_cases q2 : z (250 + r) = p
    · rw [if_pos q2, if_pos ⟨by omega, by omega, q2⟩]
    · rw [if_neg q2, if_neg (fun x => q2 x.2.2)]
  · rw [if_neg q]
    by_cases q2 : 250 ≤ i ∧ i < 250 + r ∧ z i = p
    · rw [if_pos q2, if_pos ⟨q2.1, by omega, q2.2.2⟩]
    · rw [if_neg q2, if_neg (fun x => q2 ⟨x.1, by omega, x.2.2⟩)]
theorem mvF_0 {z : Int → Int} {p : Int} : mvF z p 0 = z := by
  funext i
  unfold mvF
  rw [if_neg (by omega)]
theorem mvZ_lo {z : Int → Int} {p i : Int} (h : i < 250) : mvZ z p i = z i := by unfold mvZ; rw [if_neg (by omega)]
theorem mvZ_pl {z : Int → Int} {p r : Int} (h0 : 0 ≤ r) (h : r < z 3) : mvZ z p (250 + r) = if z (250 + r) = p then p + 1 else z (250 + r) := by
  unfold mvZ
  by_cases q : z (250 + r) = p
  · rw [if_pos q, if_pos ⟨by omega, by omega, q⟩]
  · rw [if_neg q, if_neg (fun x => q x.2.2)]
theorem mvZ_Vb {z : Int → Int} {K : Int} (hz : Vb z) (h0 : 0 ≤ K) (h1 : K < z 4) : Vb (mvZ z (10 + 2 * K)) := by
  obtain ⟨v1, v2, v3, v4, v5⟩ := hz
  unfold Vb
  rw [mvZ_lo (by omega), mvZ_lo (by omega)]
  refine ⟨v1, v2, v3, v4, fun r g1 g2 => ?_⟩
  have := v5 r g1 g2
  rw [mvZ_pl g1 g2]
  split <;> omega
theorem rowsAt_cong {z z' : Int → Int} {p p' : Int} (h3 : z' 3 = z 3) (h : ∀ r, 0 ≤ r → r < z 3 → (z' (250 + r) = p' ↔ z (250 + r) = p)) : rowsAt z' p' = rowsAt z p := by
  unfold rowsAt
  rw [h3]
  exact sumI_cong (fun r hr => pz_cong (h r (by omega) (by omega)))
theorem mvZ_rows {z : Int → Int} {p q : Int} (hp : q ≠ p) (hq : q ≠ p + 1) : rowsAt (mvZ z p) q = rowsAt z q := by
  refine rowsAt_cong (mvZ_lo (by omega)) (fun r h1 h2 => ?_)
  rw [mvZ_pl h1 h2]
  split <;> omega
theorem mvZ_rows0 {z : Int → Int} {p : Int} (h : 0 ≤ z 3) : rowsAt (mvZ z p) p = 0 := by
  refine (rowsAt_0 (by rw [mvZ_lo (by omega)]; exact h)).mpr (fun r h1 h2 => ?_)
  rw [mvZ_lo (by omega)] at h2
  rw [mvZ_pl h1 h2]
  split <;> omega
/-- a run becomes an input: one run less -/
theorem mvZ_many {z : Int → Int} {K : Int} (hz : Vb z) (h0 : 0 ≤ K) (h1 : K < z 4) (h2 : 0 < rowsAt z (10 + 2 * K)) : manyZ (mvZ z (10 + 2 * K)) 0 = manyZ z 0 - 1 := by
  obtain ⟨v1, v2, v3, v4, v5⟩ := hz
  unfold manyZ
  rw [mvZ_lo (by omega)]
  have e : sumI (fun k => pz (0 < rowsAt (mvZ z (10 + 2 * K)) (10 + 2 * k + 0))) (z 4).toNat = sumI (uZ (fun k => pz (0 < rowsAt z (10 + 2 * k + 0))) ((K.toNat : Nat) : Int) 0) (z 4).toNat := sumI_cong (fun r hr => by
    unfold uZ
    by_cases q : (r : Int) = ((K.toNat : Nat) : Int)
    · rw [if_pos q, show (10 + 2 * (r : Int) + 0) = 10 + 2 * K by omega, mvZ_rows0 v1]
      exact pz_f (by omega)
    · rw [if_neg q, mvZ_rows (by omega) (by omega)])
  have e2 : pz (0 < rowsAt z (10 + 2 * ((K.toNat : Nat) : Int) + 0)) = 1 := pz_t (by rw [show (10 + 2 * ((K.toNat : Nat) : Int) + 0) = 10 + 2 * K by omega]; exact h2)
  rw [e, sumI_upd (by omega), e2]
  omega
theorem bg_inv {z : Int → Int} (hz : Vb z) : ∀ k : Nat, (k : Int) ≤ manyZ z 0 → Vb (bgI z k) ∧ (∀ i, i < 250 → bgI z k i = z i) ∧ manyZ (bgI z k) 0 = manyZ z 0 - k
  | 0, _ => ⟨hz, fun _ _ => rfl, by rw [bgI]; omega⟩
  | k + 1, h => by
    obtain ⟨g1, g2, g3⟩ := bg_inv hz k (by omega)
    have h4 : bgI z k 4 = z 4 := g2 4 (by omega)
    have g1' := g1
    obtain ⟨v1, v2, v3, v4, v5⟩ := g1'
    obtain ⟨s1, s2, s3, _⟩ := sml_spec v3 (by omega : 0 < manyZ (bgI z k) 0)
    rw [bgI]
    refine ⟨mvZ_Vb g1 s1 s2, fun i hi => by rw [mvZ_lo hi]; exact g2 i hi, ?_⟩
    show manyZ (mvZ (bgI z k) (10 + 2 * smK (bgI z k) (bgI z k 4).toNat)) 0 = _
    rw [mvZ_many g1 s1 s2 s3, g3]
    omega
theorem becm_lo {z : Int → Int} {p i : Int} (h : i < 250) (h4 : i ≠ 4) : becm z p i = z i := by unfold becm; rw [if_neg h4, if_neg (by omega)]
theorem becm_4 {z : Int → Int} {p : Int} : becm z p 4 = z 4 + 1 := if_pos rfl
theorem becm_pl {z : Int → Int} {p r : Int} (h0 : 0 ≤ r) (h : r < z 3) : becm z p (250 + r) = if z (250 + r) = p then 10 + 2 * z 4 else z (250 + r) := by
  unfold becm
  rw [if_neg (by omega)]
  by_cases q : z (250 + r) = p
  · rw [if_pos q, if_pos ⟨by omega, by omega, q⟩]
  · rw [if_neg q, if_neg (fun x => q x.2.2)]
theorem becm_Vb {z : Int → Int} {p : Int} (hz : Vb z) (h : z 4 + 1 ≤ 900000000) : Vb (becm z p) := by
  obtain ⟨v1, v2, v3, v4, v5⟩ := hz
  unfold Vb
  rw [becm_4, becm_lo (by omega) (by omega)]
  refine ⟨v1, v2, by omega, h, fun r g1 g2 => ?_⟩
  have := v5 r g1 g2
  rw [becm_pl g1 g2]
  split <;> omega
/-- a merge that is cut short, as far as the inputs with numbers below K -/
def ctF (z : Int → Int) (K : Int) : Int → Int := fun i =>
  if i = 4 then z 4 + pz (0 < rowsAt z 2) + sumI (fun k => pz (0 < rowsAt z (10 + 2 * k + 1))) K.toNat
  else if 250 ≤ i ∧ i < 250 + z 3 then (if z i = 2 then 10 + 2 * z 4 else if (11 ≤ z i ∧ z i % 2 = 1) ∧ z i < 11 + 2 * K then 10 + 2 * (z 4 + pz (0 < rowsAt z 2) + rnkZ z (z i)) else z i) else z i
theorem ctF_lo {z : Int → Int} {K i : Int} (h : i < 250) (h4 : i ≠ 4) : ctF z K i = z i := by unfold ctF; rw [if_neg h4, if_neg (by omega)]
theorem ctF_4 {z : Int → Int} {K : Int} : ctF z K 4 = z 4 + pz (0 < rowsAt z 2) + sumI (fun k => pz (0 < rowsAt z (10 + 2 * k + 1))) K.toNat := if_pos rfl
theorem ctF_pl {z : Int → Int} {K r : Int} (h0 : 0 ≤ r) (h : r < z 3) : ctF z K (250 + r) = if z (250 + r) = 2 then 10 + 2 * z 4 else if (11 ≤ z (250 + r) ∧ z (250 + r) % 2 = 1) ∧ z (250 + r) < 11 + 2 * K then 10 + 2 * (z 4 + pz (0 < rowsAt z 2) + rnkZ z (z (250 + r))) else z (250 + r) := by
  unfold ctF
  rw [if_neg (by omega), if_pos (by omega)]
theorem ctF_0 {z : Int → Int} : ctF z 0 = if 0 < rowsAt z 2 then becm z 2 else z := by
  funext i
  have e0 : sumI (fun k => pz (0 < rowsAt z (10 + 2 * k + 1))) (0 : Int).toNat = 0 := rfl
  by_cases c : 0 < rowsAt z 2
  · rw [if_pos c]
    unfold ctF becm
    rw [pz_t c, e0]
    by_cases q : i = 4
    · rw [if_pos q, if_pos q]; omega
    · rw [if_neg q, if_neg q]
      by_cases q2 : 250 ≤ i ∧ i < 250 + z 3
      · rw [if_pos q2]
        by_cases q3 : z i = 2
        · rw [if_pos q3, if_pos ⟨q2.1, q2.2, q3⟩]
        · rw [if_neg q3, if_neg (show ¬ ((11 ≤ z i ∧ z i % 2 = 1) ∧ z i < 11 + 2 * 0) by omega), if_neg (fun x => q3 x.2.2)]
      · rw [if_neg q2, if_neg (fun x => q2 ⟨x.1, x.2.1⟩)]
  · rw [if_neg c]
    unfold ctF
    rw [pz_f c, e0]
    by_cases q : i = 4
    · rw [if_pos q, q]; omega
    · rw [if_neg q]
      by_cases q2 : 250 ≤ i ∧ i < 250 + z 3
      · rw [if_pos q2]
        by_cases q3 : z i = 2
        · exact absurd (rowsAt_pos.mpr ⟨i - 250, by omega, by omega, by rw [show 250 + (i - 250) = i by omega]; exact q3⟩) c
        · rw [if_neg q3, if_neg (by omega)]
      · rw [if_neg q2]
theorem ctF_skip {z : Int → Int} {K K' : Int} (h0 : 0 ≤ K) (h : K ≤ K') (hz : ∀ k, K ≤ k → k < K' → rowsAt z (10 + 2 * k + 1) = 0) : ctF z K' = ctF z K := by
  have e : sumI (fun k => pz (0 < rowsAt z (10 + 2 * k + 1))) K'.toNat = sumI (fun k => pz (0 < rowsAt z (10 + 2 * k + 1))) K.toNat := sumI_split (by omega) (fun r h3 h4 => pz_f (fun q => by have := hz r (by omega) (by omega); omega))
  funext i
  unfold ctF
  rw [e]
  by_cases q : i = 4
  · rw [if_pos q, if_pos q]
  · rw [if_neg q, if_neg q]
    by_cases q2 : 250 ≤ i ∧ i < 250 + z 3
    · rw [if_pos q2, if_pos q2]
      by_cases q3 : z i = 2
      · rw [if_pos q3, if_pos q3]
      · rw [if_neg q3, if_neg q3]
        by_cases q4 : (11 ≤ z i ∧ z i % 2 = 1) ∧ z i < 11 + 2 * K
        · rw [if_pos q4, if_pos ⟨q4.1, by omega⟩]
        · rw [if_neg q4]
          by_cases q5 : (11 ≤ z i ∧ z i % 2 = 1) ∧ z i < 11 + 2 * K'
          · have h6 : 0 < rowsAt z (z i) := rowsAt_pos.mpr ⟨i - 250, by omega, by omega, by rw [show 250 + (i - 250) = i by omega]⟩
            have h7 := hz ((z i - 11) / 2) (by omega) (by omega)
            rw [show 10 + 2 * ((z i - 11) / 2) + 1 = z i by omega] at h7
            omega
          · rw [if_neg q5]
    · rw [if_neg q2, if_neg q2]
theorem ctF_step {z : Int → Int} {K : Int} (h0 : 0 ≤ K) (h2 : 0 < rowsAt z (10 + 2 * K + 1)) : becm (ctF z K) (11 + 2 * K) = ctF z (K + 1) := by
  have e : sumI (fun k => pz (0 < rowsAt z (10 + 2 * k + 1))) (K + 1).toNat = sumI (fun k => pz (0 < rowsAt z (10 + 2 * k + 1))) K.toNat + pz (0 < rowsAt z (10 + 2 * K + 1)) := sumI_S h0
  rw [pz_t h2] at e
  funext i
  unfold becm
  rw [ctF_4, ctF_lo (by omega : (3 : Int) < 250) (by omega)]
  by_cases q : i = 4
  · rw [if_pos q, q, ctF_4, e]; omega
  · rw [if_neg q]
    by_cases q2 : 250 ≤ i ∧ i < 250 + z 3
    · obtain ⟨r, hr⟩ : ∃ r, i = 250 + r := ⟨i - 250, by omega⟩
      subst hr
      rw [ctF_pl (by omega) (by omega), ctF_pl (by omega) (by omega)]
      by_cases q3 : z (250 + r) = 2
      · rw [if_pos q3, if_pos q3, if_neg (by omega)]
      · rw [if_neg q3, if_neg q3]
        by_cases q4 : (11 ≤ z (250 + r) ∧ z (250 + r) % 2 = 1) ∧ z (250 + r) < 11 + 2 * K
        · rw [if_pos q4, if_neg (by omega), if_pos ⟨q4.1, by omega⟩]
        · rw [if_neg q4]
          by_cases q5 : z (250 + r) = 11 + 2 * K
          · rw [if_pos ⟨q2.1, q2.2, q5⟩, if_pos (by omega), q5]
            unfold rnkZ
            rw [show (11 + 2 * K - 11) / 2 = K by omega]
          · rw [if_neg (fun x => q5 x.2.2), if_neg (by omega)]
    · rw [if_neg (fun x => q2 ⟨x.1, x.2.1⟩)]
      unfold ctF
      rw [if_neg q, if_neg q2, if_neg q, if_neg q2]
theorem ctF_end {z : Int → Int} (hz : Vb z) : uZ (uZ (ctF z (z 4)) 5 0) 9 (z 9 + 1) = cutZ z := by
  funext i
  unfold uZ cutZ ctF
  by_cases q9 : i = 9
  · rw [if_pos q9, if_neg (by omega), if_neg (by omega), if_pos q9]
  · rw [if_neg q9]
    by_cases q5 : i = 5
    · rw [if_pos q5, if_neg (by omega), if_pos q5]
    · rw [if_neg q5]
      by_cases q4 : i = 4
      · rw [if_pos q4, if_pos q4]; rfl
      · rw [if_neg q4, if_neg q4, if_neg q5, if_neg q9]
        by_cases q : 250 ≤ i ∧ i < 250 + z 3
        · rw [if_pos q, if_pos q]
          by_cases q3 : z i = 2
          · rw [if_pos q3, if_pos q3]
          · rw [if_neg q3, if_neg q3]
            have := hz.2.2.2.2 (i - 250) (by omega) (by omega)
            rw [show 250 + (i - 250) = i by omega] at this
            by_cases q6 : 11 ≤ z i ∧ z i % 2 = 1
            · rw [if_pos q6, if_pos ⟨q6, by omega⟩]
            · rw [if_neg q6, if_neg (fun x => q6 x.1)]
        · rw [if_neg q, if_neg q]
theorem nxP_cong {z z' : Int → Int} {b k : Int} : ∀ {n : Nat}, (∀ r : Nat, r < n → (10 ≤ z' (250 + r) ∧ b < z' (250 + r) ∧ z' (250 + r) % 2 = k) ∨ (10 ≤ z (250 + r) ∧ b < z (250 + r) ∧ z (250 + r) % 2 = k) → z' (250 + r) = z (250 + r)) → nxP z' b k n = nxP z b k n
  | 0, _ => rfl
  | n + 1, h => by
    rw [nxP, nxP, nxP_cong (fun r hr => h r (by omega))]
    by_cases c : 10 ≤ z (250 + n) ∧ b < z (250 + n) ∧ z (250 + n) % 2 = k
    · rw [h n (by omega) (Or.inr c)]
    · by_cases c2 : 10 ≤ z' (250 + n) ∧ b < z' (250 + n) ∧ z' (250 + n) % 2 = k
      · rw [h n (by omega) (Or.inl c2)]
      · rw [if_neg (fun x => c2 ⟨x.1, x.2.1, x.2.2.1⟩), if_neg (fun x => c ⟨x.1, x.2.1, x.2.2.1⟩)]
theorem ctF_nx {z : Int → Int} {K b : Int} (hb : 11 + 2 * (K - 1) ≤ b ∨ K = 0) : nxP (ctF z K) b 1 (z 3).toNat = nxP z b 1 (z 3).toNat := by
  refine nxP_cong (fun r hr h => ?_)
  rw [ctF_pl (by omega) (by omega)] at h ⊢
  by_cases q3 : z (250 + r) = 2
  · rw [if_pos q3] at h; omega
  · rw [if_neg q3] at h ⊢
    by_cases q4 : (11 ≤ z (250 + r) ∧ z (250 + r) % 2 = 1) ∧ z (250 + r) < 11 + 2 * K
    · rw [if_pos q4] at h; omega
    · rw [if_neg q4]
theorem ctF_Vb {z : Int → Int} {K : Int} (hz : Vb z) (h0 : 0 ≤ K) (h : z 4 + pz (0 < rowsAt z 2) + sumI (fun k => pz (0 < rowsAt z (10 + 2 * k + 1))) K.toNat ≤ 900000000) : Vb (ctF z K) := by
  obtain ⟨v1, v2, v3, v4, v5⟩ := hz
  have hs := sum_rng (z := z) (kind := 1) h0
  have ho := pz_nn (0 < rowsAt z 2)
  unfold Vb
  rw [ctF_4, ctF_lo (by omega : (3 : Int) < 250) (by omega)]
  refine ⟨v1, v2, by omega, h, fun r g1 g2 => ?_⟩
  have hr := v5 r g1 g2
  rw [ctF_pl g1 g2]
  by_cases q3 : z (250 + r) = 2
  · have : pz (0 < rowsAt z 2) = 1 := pz_t (rowsAt_pos.mpr ⟨r, g1, g2, q3⟩)
    rw [if_pos q3]; omega
  · rw [if_neg q3]
    by_cases q4 : (11 ≤ z (250 + r) ∧ z (250 + r) % 2 = 1) ∧ z (250 + r) < 11 + 2 * K
    · rw [if_pos q4]
      have e1 : 0 < rowsAt z (z (250 + r)) := rowsAt_pos.mpr ⟨r, g1, g2, rfl⟩
      have e2 : sumI (fun k => pz (0 < rowsAt z (10 + 2 * k + 1))) ((z (250 + r) - 11) / 2 + 1).toNat = sumI (fun k => pz (0 < rowsAt z (10 + 2 * k + 1))) ((z (250 + r) - 11) / 2).toNat + pz (0 < rowsAt z (10 + 2 * ((z (250 + r) - 11) / 2) + 1)) := sumI_S (by omega)
      rw [show 10 + 2 * ((z (250 + r) - 11) / 2) + 1 = z (250 + r) by omega, pz_t e1] at e2
      have e3 := sum_rng (z := z) (kind := 1) (K := (z (250 + r) - 11) / 2) (by omega)
      have e4 : sumI (fun k => pz (0 < rowsAt z (10 + 2 * k + 1))) ((z (250 + r) - 11) / 2 + 1).toNat ≤ sumI (fun k => pz (0 < rowsAt z (10 + 2 * k + 1))) K.toNat := sumI_mono (fun k => pz_nn _) (by omega)
      unfold rnkZ
      omega
    · rw [if_neg q4]; omega
theorem stp_eq {z : Int → Int} {f : Int} (h : 0 ≤ f) : uZ (uZ (uZ z 7 (z 7 + 1)) (250 + f) 2) 7 (uZ (uZ z 7 (z 7 + 1)) (250 + f) 2 7 + 1) = uZ (uZ z 7 (z 7 + 2)) (250 + f) 2 := by
  funext i
  unfold uZ
  rw [if_neg (show ¬ (7 : Int) = 250 + f by omega), if_pos (show (7 : Int) = 7 from rfl)]
  by_cases a : i = 7
  · rw [if_pos a, if_neg (by omega), if_pos a]; omega
  · rw [if_neg a, if_neg a, if_neg a]
theorem uZ_Vb {z : Int → Int} {i v : Int} (h : Vb z) (hi : 250 ≤ i) (hv : 0 ≤ v ∧ v ≤ 2) : Vb (uZ z i v) := by
  obtain ⟨h1, h2, h3, h4, h5⟩ := h
  unfold Vb
  rw [uZ_ne (by omega), uZ_ne (by omega)]
  refine ⟨h1, h2, h3, h4, fun r g1 g2 => ?_⟩
  have := h5 r g1 g2
  unfold uZ
  split <;> omega
theorem stp0_Vb {z : Int → Int} (hz : Vb z) (h : 0 < riZ z) : Vb (stp0 z) := by
  obtain ⟨f1, f2, f3, _⟩ := frV_spec h
  have hl := loV_spec (z := z) hz.1
  unfold stp0
  by_cases c : z 1 = 1 ∧ loV z ≠ -6 ∧ z (10 + loV z) = z (10 + frV z)
  · rw [if_pos c]
    have hz3 := hz.2.1
    exact uZ_Vb (Vb_lo (Vb_lo (Vb_lo hz (by omega) (by omega) (by omega)) (by omega) (by omega) (by omega)) (by omega) (by omega) (by omega)) (by omega) (by omega)
  · rw [if_neg c]
    exact uZ_Vb (Vb_lo hz (by omega) (by omega) (by omega)) (by omega) (by omega)
