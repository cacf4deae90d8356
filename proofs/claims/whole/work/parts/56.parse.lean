/-! ===== texts: the automaton that the class is, and what the reference's methods say of it ===== -/
abbrev AT : Type := Int × Int × Int × Int
def mnQ (kd fk : Int) : Int := if kd = 0 then 0 else if kd = 1 then 2 else fk + 1
def mxQ (kd : Int) : Int := if kd = 1 then 20 else 999
def canQ (lo hi l : Int) : Prop := (l = 0 ∧ lo ≤ 0) ∨ (¬ l = 0 ∧ ((l ≤ hi ∧ lo ≤ l) ∨ (10 * l ≤ hi ∧ lo ≤ 10 * l + 9) ∨ (100 * l ≤ hi ∧ lo ≤ 100 * l + 99)))
def whQ (kd fk hd va : Int) : Prop := hd = 1 ∧ va ≤ mxQ kd ∧ mnQ kd fk ≤ va
def accQ (kd fk hd va c : Int) : Prop := ((48 ≤ c ∧ c ≤ 57) ∧ ¬ (hd = 1 ∧ va = 0) ∧ canQ (mnQ kd fk) (mxQ kd) (va * 10 + (c - 48))) ∨ (¬ (48 ≤ c ∧ c ≤ 57) ∧ whQ kd fk hd va ∧ (c = 44 ∨ (kd = 0 ∧ (c = 120 ∨ (c = 45 ∧ va < 999)))))
def nxQ (kd fk va c : Int) : AT := if 48 ≤ c ∧ c ≤ 57 then (kd, fk, 1, va * 10 + (c - 48)) else if c = 44 then (0, 0, 0, 0) else if c = 120 then (1, va, 0, 0) else (2, va, 0, 0)
def accA (a : AT) (c : Int) : Prop := accQ a.1 a.2.1 a.2.2.1 a.2.2.2 c
def whA (a : AT) : Prop := whQ a.1 a.2.1 a.2.2.1 a.2.2.2
def nxA (a : AT) (c : Int) : AT := nxQ a.1 a.2.1 a.2.2.2 c
/-- the state before each character -/
def gA (cs : Int → Int) : Nat → AT
  | 0 => (0, 0, 0, 0)
  | n + 1 => nxA (gA cs n) (cs n)
def StA (cs : Int → Int) (j : Int) (a : AT) : Prop := 0 ≤ j ∧ (∀ m : Nat, (m : Int) < j → accA (gA cs m) (cs m)) ∧ gA cs j.toNat = a
def FaA (cs : Int → Int) (n w : Int) : Prop := 0 ≤ w ∧ w ≤ n ∧ ∃ a, StA cs w a ∧ ((w < n ∧ ¬ accA a (cs w)) ∨ (w = n ∧ ¬ whA a))
/-- a whole text -/
def OkA (cs : Int → Int) (n : Int) : Prop := ∃ a, StA cs n a ∧ whA a
def cnA (cs : Int → Int) (j : Int) : Int := sumI (fun i => pz (cs i = 44)) j.toNat
theorem StA_0 {cs : Int → Int} : StA cs 0 (0, 0, 0, 0) := ⟨Int.le_refl _, fun m hm => by omega, rfl⟩
theorem StA_step {cs : Int → Int} {j : Int} {a a' : AT} (h : StA cs j a) (hc : accA a (cs j)) (e : nxA a (cs j) = a') : StA cs (j + 1) a' := by
  obtain ⟨h0, h1, h2⟩ := h
  refine ⟨by omega, fun m hm => ?_, ?_⟩
  · by_cases w : (m : Int) < j
    · exact h1 m w
    · have : m = j.toNat := by omega
      subst this
      rw [h2, show ((j.toNat : Nat) : Int) = j by omega]
      exact hc
  · rw [show (j + 1).toNat = j.toNat + 1 by omega, gA, h2, show ((j.toNat : Nat) : Int) = j by omega]
    exact e
theorem StA_dig {cs : Int → Int} {j kd fk hd va v : Int} (h : StA cs j (kd, fk, hd, va)) (hc : accQ kd fk hd va (cs j)) (hd2 : 48 ≤ cs j ∧ cs j ≤ 57) (hv : v = va * 10 + (cs j - 48)) : StA cs (j + 1) (kd, fk, 1, v) := by
  refine StA_step h hc ?_
  show nxQ kd fk va (cs j) = _
  unfold nxQ
  rw [if_pos hd2, hv]
theorem FaA_one {cs : Int → Int} {n w w' : Int} (h : FaA cs n w) (h' : FaA cs n w') : w = w' := by
  have key : ∀ w w' : Int, FaA cs n w → FaA cs n w' → ¬ w < w' := by
    intro w w' ⟨a0, a1, a, ⟨b0, b1, b2⟩, a3⟩ ⟨c0, c1, c, ⟨d0, d1, d2⟩, c3⟩ hlt
    have q := d1 w.toNat (by omega)
    rw [b2, show ((w.toNat : Nat) : Int) = w by omega] at q
    rcases a3 with ⟨e1, e2⟩ | ⟨e1, e2⟩
    · exact e2 q
    · omega
  rcases Int.lt_trichotomy w w' with q | q | q
  · exact absurd q (key w w' h h')
  · exact q
  · exact absurd q (key w' w h' h)
theorem FaA_no {cs : Int → Int} {n w : Int} (h : FaA cs n w) : ¬ OkA cs n := by
  intro ⟨a', ⟨d0, d1, d2⟩, hw⟩
  obtain ⟨a0, a1, a, ⟨b0, b1, b2⟩, a3⟩ := h
  rcases a3 with ⟨e1, e2⟩ | ⟨e1, e2⟩
  · have q := d1 w.toNat (by omega)
    rw [b2, show ((w.toNat : Nat) : Int) = w by omega] at q
    exact e2 q
  · subst e1
    rw [b2] at d2
    rw [d2] at e2
    exact e2 hw
theorem cnA_S {cs : Int → Int} {j : Int} (h : 0 ≤ j) (hc : ¬ cs j = 44) : cnA cs (j + 1) = cnA cs j := by
  unfold cnA
  rw [sumI_S h, pz_f hc, Int.add_zero]
theorem cnA_C {cs : Int → Int} {j : Int} (h : 0 ≤ j) (hc : cs j = 44) : cnA cs (j + 1) = cnA cs j + 1 := by
  unfold cnA
  rw [sumI_S h, pz_t hc]
/-- the item that a state tells: its key, how many rows, the step -/
def itK (a : AT) : Int := if a.1 = 0 then a.2.2.2 else a.2.1
def itN (a : AT) : Int := if a.1 = 0 then 1 else if a.1 = 1 then a.2.2.2 else a.2.2.2 - a.2.1 + 1
def itS (a : AT) : Int := if a.1 = 2 then 1 else 0
/-- the reference's words -/
def letZ (s : SS) : Int := if s.1 10 < s.1 7 then s.2 6 (s.1 10) else -6
def figZ (s : SS) : Int := if 48 ≤ letZ s ∧ letZ s ≤ 57 then letZ s - 48 else -6
def Bf (s : SS) : Prop := ∀ i, 0 ≤ i → i < s.1 7 → 33 ≤ s.2 6 i ∧ s.2 6 i ≤ 126
theorem figZ_c (s : SS) : (figZ s = -6 ∧ (s.1 10 < s.1 7 → ¬ (48 ≤ s.2 6 (s.1 10) ∧ s.2 6 (s.1 10) ≤ 57))) ∨ (0 ≤ figZ s ∧ figZ s ≤ 9 ∧ s.1 10 < s.1 7 ∧ s.2 6 (s.1 10) = 48 + figZ s) := by
  unfold figZ letZ
  by_cases c : s.1 10 < s.1 7
  · rw [if_pos c]
    by_cases d : 48 ≤ s.2 6 (s.1 10) ∧ s.2 6 (s.1 10) ≤ 57
    · rw [if_pos d]; exact Or.inr ⟨by omega, by omega, c, by omega⟩
    · rw [if_neg d]; exact Or.inl ⟨rfl, fun _ => d⟩
  · rw [if_neg c]
    exact Or.inl ⟨by rw [if_neg (by omega)], fun q => absurd q c⟩
def psA (s s' : SS) (kd fk r lo hi : Int) : Prop := ∃ p w : Int, s' = sS (sS s 10 p) 11 w ∧ ((w = -6 ∧ s.1 10 < p ∧ p ≤ s.1 7 ∧ (lo ≤ r ∧ r ≤ hi) ∧ StA (s.2 6) p (kd, fk, 1, r) ∧ (p < s.1 7 → 48 ≤ s.2 6 p ∧ s.2 6 p ≤ 57 → ¬ accQ kd fk 1 r (s.2 6 p)) ∧ cnA (s.2 6) p = cnA (s.2 6) (s.1 10)) ∨ (w ≠ -6 ∧ FaA (s.2 6) (s.1 7) w ∧ (0 ≤ p ∧ p ≤ 81) ∧ -6 ≤ r ∧ r ≤ 1000))
theorem sS2_10 {s : SS} {p w : Int} : (sS (sS s 10 p) 11 w).1 10 = p := rfl
theorem sS2_11 {s : SS} {p w : Int} : (sS (sS s 10 p) 11 w).1 11 = w := rfl
theorem sS2_7 {s : SS} {p w : Int} : (sS (sS s 10 p) 11 w).1 7 = s.1 7 := rfl
theorem sS2_6 {s : SS} {p w : Int} : (sS (sS s 10 p) 11 w).2 6 = s.2 6 := rfl
theorem sS_10b {s : SS} {p w q : Int} : sS (sS (sS s 10 p) 11 w) 10 q = sS (sS s 10 q) 11 w := by rw [sS_comm (k := 11) (by omega), sS_sS]
theorem sS_11b {s : SS} {p w q : Int} : sS (sS (sS s 10 p) 11 w) 11 q = sS (sS s 10 p) 11 q := sS_sS
theorem sS_1011 {s : SS} {p w q v : Int} : sS (sS (sS (sS s 10 p) 11 w) 10 q) 11 v = sS (sS s 10 q) 11 v := by rw [sS_10b, sS_11b]
theorem mnQ_0 {fk : Int} : mnQ 0 fk = 0 := if_pos rfl
theorem mnQ_1 {fk : Int} : mnQ 1 fk = 2 := by unfold mnQ; rw [if_neg (by omega), if_pos rfl]
theorem mnQ_2 {fk : Int} : mnQ 2 fk = fk + 1 := by unfold mnQ; rw [if_neg (by omega), if_neg (by omega)]
theorem mxQ_0 : mxQ 0 = 999 := if_neg (by omega)
theorem mxQ_1 : mxQ 1 = 20 := if_pos rfl
theorem mxQ_2 : mxQ 2 = 999 := if_neg (by omega)
theorem acc_dig {kd fk hd va c : Int} (h : 48 ≤ c ∧ c ≤ 57) : accQ kd fk hd va c ↔ ¬ (hd = 1 ∧ va = 0) ∧ canQ (mnQ kd fk) (mxQ kd) (va * 10 + (c - 48)) := by
  unfold accQ
  refine ⟨fun q => ?_, fun q => Or.inl ⟨h, q⟩⟩
  rcases q with ⟨_, q⟩ | ⟨q, _⟩
  · exact q
  · exact absurd h q
theorem acc0_dig {fk hd va c : Int} (h : 48 ≤ c ∧ c ≤ 57) (hv : 0 ≤ va) : accQ 0 fk hd va c ↔ ¬ (hd = 1 ∧ va = 0) ∧ va * 10 + (c - 48) ≤ 999 := by
  rw [acc_dig h, mnQ_0, mxQ_0]
  unfold canQ
  omega
theorem acc1_dig {fk hd va c : Int} (h : 48 ≤ c ∧ c ≤ 57) (hv : 0 ≤ va) : accQ 1 fk hd va c ↔ ¬ (hd = 1 ∧ va = 0) ∧ 1 ≤ va * 10 + (c - 48) ∧ va * 10 + (c - 48) ≤ 20 := by
  rw [acc_dig h, mnQ_1, mxQ_1]
  unfold canQ
  omega
theorem acc2_dig {fk hd va c : Int} (h : 48 ≤ c ∧ c ≤ 57) (hf : 0 ≤ fk) : accQ 2 fk hd va c ↔ ¬ (hd = 1 ∧ va = 0) ∧ ¬ va * 10 + (c - 48) = 0 ∧ ((va * 10 + (c - 48) ≤ 999 ∧ fk + 1 ≤ va * 10 + (c - 48)) ∨ (10 * (va * 10 + (c - 48)) ≤ 999 ∧ fk + 1 ≤ 10 * (va * 10 + (c - 48)) + 9) ∨ (100 * (va * 10 + (c - 48)) ≤ 999 ∧ fk + 1 ≤ 100 * (va * 10 + (c - 48)) + 99)) := by
  rw [acc_dig h, mnQ_2, mxQ_2]
  unfold canQ
  omega
theorem acc_non {kd fk hd va c : Int} (h : ¬ (48 ≤ c ∧ c ≤ 57)) : accQ kd fk hd va c ↔ whQ kd fk hd va ∧ (c = 44 ∨ (kd = 0 ∧ (c = 120 ∨ (c = 45 ∧ va < 999)))) := by
  unfold accQ
  refine ⟨fun q => ?_, fun q => Or.inr ⟨h, q⟩⟩
  rcases q with ⟨q, _⟩ | ⟨_, q⟩
  · exact absurd q h
  · exact q
/-- a text stops where neither a digit nor anything else is taken -/
theorem FaA_at {cs : Int → Int} {n p kd fk hd va : Int} (hp : p ≤ n) (h : StA cs p (kd, fk, hd, va)) (h1 : p < n → 48 ≤ cs p ∧ cs p ≤ 57 → ¬ accQ kd fk hd va (cs p)) (h2 : ¬ whQ kd fk hd va) : FaA cs n p := by
  refine ⟨h.1, hp, _, h, ?_⟩
  by_cases c : p < n
  · refine Or.inl ⟨c, fun q => ?_⟩
    by_cases d : 48 ≤ cs p ∧ cs p ≤ 57
    · exact h1 c d q
    · exact h2 ((acc_non d).mp q).1
  · exact Or.inr ⟨by omega, h2⟩
theorem cnA_mono {cs : Int → Int} {i j : Int} (h : i ≤ j) : cnA cs i ≤ cnA cs j := sumI_mono (fun r => pz_nn _) (by omega)
def itmA (f : Int → Int) (k : Int) (a : AT) : Prop := f (3 * k) = itK a ∧ f (3 * k + 1) = itN a ∧ f (3 * k + 2) = itS a
def rdA (s s' : SS) : Prop := ∃ (p w : Int) (f : Int → Int), s' = sS (sS (sS (sA s 8 f) 9 (s.1 9 + 1)) 10 p) 11 w ∧ (∀ i, i < 3 * s.1 9 → f i = s.2 8 i) ∧ ((w = -6 ∧ s.1 10 < p ∧ p ≤ s.1 7 ∧ (∃ a, StA (s.2 6) p a ∧ whA a ∧ itmA f (s.1 9) a ∧ (p < s.1 7 → ¬ s.2 6 p = 44 → ¬ accA a (s.2 6 p))) ∧ cnA (s.2 6) p = cnA (s.2 6) (s.1 10)) ∨ (w ≠ -6 ∧ FaA (s.2 6) (s.1 7) w ∧ (0 ≤ p ∧ p ≤ 81)))
def tldA (cs f : Int → Int) (n : Int) : Prop := (∀ j, 0 ≤ j → j < n → cs j = 44 → itmA f (cnA cs j) (gA cs j.toNat)) ∧ itmA f (cnA cs n) (gA cs n.toNat)
def epA (s s' : SS) (r : Int) : Prop := ∃ (k p w : Int) (f : Int → Int), s' = sS (sS (sS (sA s 8 f) 9 k) 10 p) 11 w ∧ r = w ∧ ((w = -6 ∧ OkA (s.2 6) (s.1 7) ∧ tldA (s.2 6) f (s.1 7) ∧ k = cnA (s.2 6) (s.1 7) + 1) ∨ (w ≠ -6 ∧ FaA (s.2 6) (s.1 7) w))
theorem sv_1 {s : SS} {k p w : Int} {f : Int → Int} : sS (sS (sS (sA s 8 f) 9 k) 10 p) 11 w = sS (sA (sS (sS s 10 p) 11 w) 8 f) 9 k := by
  refine Prod.ext (funext fun j => ?_) rfl
  simp only [sS, sA]
  (repeat' split) <;> first | rfl | omega
