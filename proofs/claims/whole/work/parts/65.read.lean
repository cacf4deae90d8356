theorem SS_ext3 {a b : SS} (h9 : a.1 9 = b.1 9) (h10 : a.1 10 = b.1 10) (h11 : a.1 11 = b.1 11) (h8 : a.2 8 = b.2 8) (ho : ∀ j, j ≠ 9 → j ≠ 10 → j ≠ 11 → a.1 j = b.1 j) (hp : ∀ j, j ≠ 8 → a.2 j = b.2 j) : a = b := by
  refine Prod.ext (funext fun j => ?_) (funext fun j => ?_)
  · by_cases x : j = 9
    · rw [x]; exact h9
    · by_cases y : j = 10
      · rw [y]; exact h10
      · by_cases w : j = 11
        · rw [w]; exact h11
        · exact ho j x y w
  · by_cases x : j = 8
    · rw [x]; exact h8
    · exact hp j x
/-! ===== what a text does ===== -/
def sameM (m m' : SS) : Prop := m'.2 0 = m.2 0 ∧ m'.2 1 = m.2 1 ∧ m'.1 2 = m.1 2 ∧ m'.2 3 = m.2 3 ∧ m'.1 4 = m.1 4 ∧ m'.2 6 = m.2 6 ∧ m'.1 7 = m.1 7
def rdI (z : Int → Int) (key stp : Int) : Nat → Int → Int
  | 0 => z
  | n + 1 => addZ (rdI z key stp n) (key + n * stp)
def itmZ (z : Int → Int) (key rows stp : Int) : Int → Int := rdI z key stp (min rows (120 - z 3)).toNat
def itmG (z : Int → Int) (a : AT) : Int → Int := itmZ z (itK a) (itN a) (itS a)
def rdP (cs z : Int → Int) : Nat → Int → Int
  | 0 => z
  | i + 1 => if cs i = 44 then itmG (rdP cs z i) (gA cs i) else rdP cs z i
def rdZ (cs z : Int → Int) (n : Int) : Int → Int := itmG (rdP cs z n.toNat) (gA cs n.toNat)
def rl_read (m : SS) (r : Int) (m' : SS) : Prop := (¬ OkA (m.2 6) (m.1 7) ∧ r = -5 ∧ sameM m m') ∨ (OkA (m.2 6) (m.1 7) ∧ m.2 0 2 = 0 ∧ r = -3 ∧ sameM m m') ∨ (OkA (m.2 6) (m.1 7) ∧ ¬ m.2 0 2 = 0 ∧ r = rdZ (m.2 6) (m.2 0) (m.1 7) 3 - m.2 0 3 ∧ sameM (sS (nxM m (rdZ (m.2 6) (m.2 0) (m.1 7))) 7 0) m')
