/-! the answers of the reference's methods, and its next states -/
def recM (m : SS) : SS := sS (sA m 1 (recP (m.2 1) (m.1 2) (m.2 0))) 2 (recN (m.1 2) + 1)
def nxM (m : SS) (z : Int → Int) : SS := sA (recM m) 0 z
theorem nxM_eq {m : SS} {z : Int → Int} : nxM m z = sS (sA (sA m 0 z) 1 (recP (m.2 1) (m.1 2) (m.2 0))) 2 (recN (m.1 2) + 1) := by
  unfold nxM recM sA sS
  refine Prod.ext rfl (funext fun j => ?_)
  show (if j = 0 then z else if j = 1 then recP (m.2 1) (m.1 2) (m.2 0) else m.2 j) = if j = 1 then recP (m.2 1) (m.1 2) (m.2 0) else if j = 0 then z else m.2 j
  by_cases q : j = 0
  · rw [if_pos q, if_neg (by omega), if_pos q]
  · rw [if_neg q, if_neg q]
def an_add (z : Int → Int) (key : Int) : Int := if ¬ (0 ≤ key ∧ key ≤ 999) then -2 else if z 2 = 0 then -3 else if z 3 = 120 then -4 else z 3
def nx_add (m : SS) (key : Int) : SS := if ¬ (0 ≤ key ∧ key ≤ 999) then m else if m.2 0 2 = 0 then m else if m.2 0 3 = 120 then m else nxM m (addZ (m.2 0) key)
def an_combine (z : Int → Int) : Int := if 0 < z 3 then -3 else z 1
def nx_combine (m : SS) (b : Int) : SS := if 0 < m.2 0 3 then m else nxM m (uZ (m.2 0) 1 (if b = 0 then 0 else 1))
def an_flush (z : Int → Int) : Int := if z 2 = 0 then -3 else if rowsAt z 1 = 0 then -6 else z 4
def nx_flush (m : SS) : SS := if m.2 0 2 = 0 then m else nxM m (wriZ (m.2 0))
def an_finish (z : Int → Int) : Int := if z 2 = 0 then -3 else manyZ (finZ z) 0
def nx_finish (m : SS) : SS := if m.2 0 2 = 0 then m else nxM m (finZ (m.2 0))
def an_grant (z : Int → Int) (size : Int) : Int := if ¬ (2 ≤ size ∧ size ≤ 20) then -2 else graA z size
def nx_grant (m : SS) (size : Int) : SS := if ¬ (2 ≤ size ∧ size ≤ 20) then m else nxM m (graZ (m.2 0) size)
def an_memory (z : Int → Int) (part : Int) : Int := if part = 0 then z 0 else if part = 1 then (if z 2 = 1 then rowsAt z 1 else if z 5 = 1 then manyZ z 1 + 1 else 0) else if part = 2 then waysZ (z 0) else -2
def noMerge (z : Int → Int) : Prop := z 2 = 1 ∨ z 5 = 1 ∨ manyZ z 0 < 2 ∨ waysZ (z 0) < 2
/-- the row in memory that has so many before it -/
def imZ (z : Int → Int) (index : Int) : Nat → Int
  | 0 => -6
  | n + 1 => if z (250 + n) = 1 ∧ sumI (fun r => pz (z (250 + r) = 1)) n = index then n else imZ z index n
def an_inMemory (z : Int → Int) (index : Int) : Int := if imZ z index (z 3).toNat = -6 then -1 else z (10 + imZ z index (z 3).toNat)
theorem imZ_spec {z : Int → Int} {index : Int} : ∀ n : Nat, (imZ z index n = -6 ∧ ∀ r : Nat, r < n → ¬ (z (250 + r) = 1 ∧ sumI (fun r => pz (z (250 + r) = 1)) r = index)) ∨ (0 ≤ imZ z index n ∧ imZ z index n < n ∧ z (250 + imZ z index n) = 1 ∧ sumI (fun r => pz (z (250 + r) = 1)) (imZ z index n).toNat = index)
  | 0 => Or.inl ⟨rfl, fun r hr => absurd hr (Nat.not_lt_zero _)⟩
  | n + 1 => by
    rw [imZ]
    by_cases c : z (250 + n) = 1 ∧ sumI (fun r => pz (z (250 + r) = 1)) n = index
    · rw [if_pos c]
      exact Or.inr ⟨by omega, by omega, c.1, c.2⟩
    · rw [if_neg c]
      rcases imZ_spec (z := z) (index := index) n with ⟨h1, h2⟩ | ⟨h1, h2, h3, h4⟩
      · refine Or.inl ⟨h1, fun r hr => ?_⟩
        rcases Nat.lt_or_ge r n with q | q
        · exact h2 r q
        · rw [show r = n by omega]; exact c
      · exact Or.inr ⟨h1, by omega, h3, h4⟩
/-- the run that has so many before it -/
def raZ (z : Int → Int) (index : Int) : Nat → Int
  | 0 => -1
  | n + 1 => if 0 < rowsAt z (10 + 2 * n + 0) ∧ sumI (fun k => pz (0 < rowsAt z (10 + 2 * k + 0))) n = index then n else raZ z index n
theorem raZ_spec {z : Int → Int} {index : Int} : ∀ n : Nat, (raZ z index n = -1 ∧ ∀ r : Nat, r < n → ¬ (0 < rowsAt z (10 + 2 * r + 0) ∧ sumI (fun k => pz (0 < rowsAt z (10 + 2 * k + 0))) r = index)) ∨ (0 ≤ raZ z index n ∧ raZ z index n < n ∧ 0 < rowsAt z (10 + 2 * raZ z index n + 0) ∧ sumI (fun k => pz (0 < rowsAt z (10 + 2 * k + 0))) (raZ z index n).toNat = index)
  | 0 => Or.inl ⟨rfl, fun r hr => absurd hr (Nat.not_lt_zero _)⟩
  | n + 1 => by
    rw [raZ]
    by_cases c : 0 < rowsAt z (10 + 2 * n + 0) ∧ sumI (fun k => pz (0 < rowsAt z (10 + 2 * k + 0))) n = index
    · rw [if_pos c]
      exact Or.inr ⟨by omega, by omega, c.1, c.2⟩
    · rw [if_neg c]
      rcases raZ_spec (z := z) (index := index) n with ⟨h1, h2⟩ | ⟨h1, h2, h3, h4⟩
      · refine Or.inl ⟨h1, fun r hr => ?_⟩
        rcases Nat.lt_or_ge r n with q | q
        · exact h2 r q
        · rw [show r = n by omega]; exact c
      · exact Or.inr ⟨h1, by omega, h3, h4⟩
def befZ (z : Int → Int) (row : Int) : Int := sumI (fun r => pz (z (250 + r) = z (250 + row) ∧ (z (10 + r) < z (10 + row) ∨ z (10 + r) = z (10 + row) ∧ r < row))) (z 3).toNat
def fdZ (z : Int → Int) (run index : Int) : Nat → Int
  | 0 => -6
  | n + 1 => if z (250 + n) = 10 + 2 * run ∧ befZ z n = index then n else fdZ z run index n
theorem fdZ_spec {z : Int → Int} {run index : Int} : ∀ n : Nat, (fdZ z run index n = -6 ∧ ∀ r : Nat, r < n → ¬ (z (250 + r) = 10 + 2 * run ∧ befZ z r = index)) ∨ (0 ≤ fdZ z run index n ∧ fdZ z run index n < n ∧ z (250 + fdZ z run index n) = 10 + 2 * run ∧ befZ z (fdZ z run index n) = index)
  | 0 => Or.inl ⟨rfl, fun r hr => absurd hr (Nat.not_lt_zero _)⟩
  | n + 1 => by
    rw [fdZ]
    by_cases c : z (250 + n) = 10 + 2 * run ∧ befZ z n = index
    · rw [if_pos c]
      exact Or.inr ⟨by omega, by omega, c.1, c.2⟩
    · rw [if_neg c]
      rcases fdZ_spec (z := z) (run := run) (index := index) n with ⟨h1, h2⟩ | ⟨h1, h2, h3, h4⟩
      · refine Or.inl ⟨h1, fun r hr => ?_⟩
        rcases Nat.lt_or_ge r n with q | q
        · exact h2 r q
        · rw [show r = n by omega]; exact c
      · exact Or.inr ⟨h1, by omega, h3, h4⟩
def isRunZ (z : Int → Int) (run : Int) : Prop := 0 ≤ run ∧ run ≤ z 4 - 1 ∧ 0 < rowsAt z (10 + 2 * run)
def an_size (z : Int → Int) (run : Int) : Int := if 0 ≤ run ∧ run ≤ z 4 - 1 ∧ 0 < rowsAt z (10 + 2 * run) then rowsAt z (10 + 2 * run) else -1
def an_row (z : Int → Int) (run index part : Int) : Int := if (0 ≤ run ∧ run ≤ z 4 - 1 ∧ 0 < rowsAt z (10 + 2 * run)) ∧ 0 ≤ index ∧ index ≤ rowsAt z (10 + 2 * run) - 1 then (if part = 0 then z (10 + fdZ z run index (z 3).toNat) else if part = 1 then fdZ z run index (z 3).toNat else if part = 2 then z (130 + fdZ z run index (z 3).toNat) else -2) else -1
def belZ (z : Int → Int) (key : Int) : Int := sumI (fun r => if z (10 + r) < key then z (130 + r) else 0) (z 3).toNat
def thrZ (z : Int → Int) : Int := sumI (fun r => pz (0 < z (250 + r))) (z 3).toNat
def an_count (z : Int → Int) (what : Int) : Int := if what = 0 then z 3 else if what = 1 then thrZ z else if what = 2 then belZ z 1000 else if what = 3 then z 7 else if what = 4 then z 8 else if what = 5 then z 9 else if what = 6 then z 4 else -2
def an_rank (z : Int → Int) (key : Int) : Int := if 0 ≤ key ∧ key ≤ 999 then belZ z key else -2
def an_isDone (z : Int → Int) : Int := pz (z 2 = 0 ∧ z 5 = 0 ∧ manyZ z 0 < 2)
def an_ofMerge (z : Int → Int) (part : Int) : Int := if ¬ (0 ≤ part ∧ part ≤ 3) then -2 else if z 5 = 0 then -6 else if part = 0 then z 6 else if part = 1 then manyZ z 1 else if part = 2 then rowsAt z 2 else riZ z
def nx_undo (m : SS) : SS := if m.1 2 = 0 then m else sS (sA m 0 (cpF (m.2 1) (m.2 0) ((m.1 2 - 1) * 370))) 2 (m.1 2 - 1)
def nx_save (m : SS) : SS := sS (sA m 3 (cpF (m.2 0) (m.2 3) 0)) 4 1
def nx_restore (m : SS) : SS := if m.1 4 = 0 then m else nxM m (cpF (m.2 3) (m.2 0) 0)
def an_append (m : SS) (code : Int) : Int := if ¬ (33 ≤ code ∧ code ≤ 126) then -2 else if m.1 7 = 80 then -4 else m.1 7 + 1
def nx_append (m : SS) (code : Int) : SS := if ¬ (33 ≤ code ∧ code ≤ 126) then m else if m.1 7 = 80 then m else sS (sA m 6 (uZ (m.2 6) (m.1 7) code)) 7 (m.1 7 + 1)
/-- what a number of the whole grows by, if a size is granted and all is run -/
def growZ (z : Int → Int) (size what r : Int) : Prop := (crZ (graZ z size) ∧ ∃ y, AllZ (finZ (graZ z size)) y ∧ r = y what - z what) ∨ (¬ crZ (graZ z size) ∧ r = -3)
/-- the best of the sizes 2 .. n + 1 by their costs -/
def bsF (c : Int → Int) : Nat → Int
  | 0 => -6
  | n + 1 => if 0 ≤ c (2 + n) ∧ (bsF c n = -6 ∨ c (2 + n) < c (bsF c n)) then 2 + n else bsF c n
/-- the same but for what the reference alone has -/
def coM (m m' : SS) : Prop := (∀ k, 0 ≤ k → k < 370 → m'.2 0 k = m.2 0 k) ∧ m'.2 1 = m.2 1 ∧ m'.1 2 = m.1 2 ∧ m'.2 3 = m.2 3 ∧ m'.1 4 = m.1 4 ∧ m'.2 6 = m.2 6 ∧ m'.1 7 = m.1 7
theorem pubF {z : Int → Int} (hz : Vz z) (hb : Bd z 50000) : Vb z ∧ rg (z 7 + rowsAt z 1) ∧ z 4 + 1 + manyZ z 1 ≤ 900000000 ∧ rg (z 9 + 1) ∧ rg (z 8 + 1) ∧ z 4 + 1 ≤ 900000000 := by
  obtain ⟨b4, b7, b8, b9⟩ := hb
  have h1 := rowsAt_le (z := z) (p := 1) hz.1.1
  have h2 := runs_rows (z := z) (kind := 1) hz.1
  have h3 := hz.1.2.1
  have s7 := hz.2.1.2.2.2.2.2.1
  have s8 := hz.2.1.2.2.2.2.2.2.1
  have s9 := hz.2.1.2.2.2.2.2.2.2
  exact ⟨hz.1, by unfold rg; omega, by omega, by unfold rg; omega, by unfold rg; omega, by omega⟩
theorem cnt_same {P : Int → Prop} [DecidablePred P] {i j : Nat} (hi : P i) (hj : P j) (h : sumI (fun r => pz (P r)) i = sumI (fun r => pz (P r)) j) : i = j := by
  rcases Nat.lt_trichotomy i j with q | q | q
  · have h1 := sumI_mono (f := fun r => pz (P r)) (fun r => pz_nn _) (m := i + 1) (n := j) (by omega)
    rw [sumI, pz_t hi] at h1
    omega
  · exact q
  · have h1 := sumI_mono (f := fun r => pz (P r)) (fun r => pz_nn _) (m := j + 1) (n := i) (by omega)
    rw [sumI, pz_t hj] at h1
    omega
