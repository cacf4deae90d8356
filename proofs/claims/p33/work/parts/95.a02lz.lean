/-! ===== the law's own files: what they stand for ===== -/
theorem cnt_map {Q : Int → Prop} [DecidablePred Q] {g : Int → Int} {K : Nat} : ∀ {T : Nat} {P : Int → Prop} [DecidablePred P], (∀ i : Nat, i < T → Q i → 0 ≤ g i ∧ g i < K ∧ P (g i)) → (∀ i j : Nat, i < j → j < T → Q i → Q j → g i ≠ g j) → (∀ k : Nat, k < K → P k → ∃ i : Nat, i < T ∧ Q i ∧ g i = k) → sumI (fun i => pz (Q i)) T = sumI (fun k => pz (P k)) K
  | 0, P, _, _, _, h3 => by
    rw [sumI_0 (f := fun k => pz (P k)) (fun r hr => pz_f (fun q => by obtain ⟨i, hi, _⟩ := h3 r hr q; omega))]; rfl
  | T + 1, P, _, h1, h2, h3 => by
    show sumI (fun i => pz (Q i)) T + pz (Q (T : Int)) = _
    by_cases q : Q (T : Int)
    · have ih := cnt_map (T := T) (P := fun k => P k ∧ k ≠ g T) (fun i hi hq => ⟨(h1 i (by omega) hq).1, (h1 i (by omega) hq).2.1, (h1 i (by omega) hq).2.2, h2 i T hi (by omega) hq q⟩) (fun i j hij hj => h2 i j hij (by omega)) (fun k hk hp => by
        obtain ⟨i, hi, hq, e⟩ := h3 k hk hp.1
        rcases Nat.lt_or_ge i T with w | w
        · exact ⟨i, w, hq, e⟩
        · rw [show i = T by omega] at e
          exact absurd e.symm hp.2)
      obtain ⟨a1, a2, a3⟩ := h1 T (by omega) q
      obtain ⟨i, hi⟩ : ∃ i : Nat, g T = (i : Int) := ⟨(g T).toNat, by omega⟩
      have e : sumI (fun k => pz (P k)) K = sumI (uZ (fun k => pz (P k ∧ k ≠ g T)) i 1) K := sumI_cong (fun r hr => by
        unfold uZ
        by_cases w : (r : Int) = i
        · rw [if_pos w]
          exact pz_t (by rw [w, ← hi]; exact a3)
        · rw [if_neg w]
          exact pz_cong ⟨fun x => ⟨x, by rw [hi]; exact w⟩, fun x => x.1⟩)
      have e2 : pz (P (i : Int) ∧ (i : Int) ≠ g T) = 0 := pz_f (fun x => x.2 hi.symm)
      rw [pz_t q, e, sumI_upd (by omega), ih, e2]
      omega
    · rw [pz_f q, cnt_map (T := T) (P := P) (fun i hi => h1 i (by omega)) (fun i j hij hj => h2 i j hij (by omega)) (fun k hk hp => by
        obtain ⟨i, hi, hq, e⟩ := h3 k hk hp
        rcases Nat.lt_or_ge i T with w | w
        · exact ⟨i, w, hq, e⟩
        · rw [show i = T by omega] at hq
          exact absurd hq q)]
      omega
theorem sumI_to {l : Int → Int} {i : Nat} : ∀ {T : Nat}, (∀ r : Nat, r < T → 0 ≤ l r) → i ≤ T → sumI l i ≤ sumI l T
  | 0, _, h2 => by rw [show i = 0 by omega]; exact Int.le_refl _
  | T + 1, h, h2 => by
    rcases Nat.lt_or_ge i (T + 1) with q | q
    · have h1 := sumI_to (i := i) (T := T) (fun r hr => h r (by omega)) (by omega)
      have h3 := h T (by omega)
      rw [sumI]; omega
    · rw [show i = T + 1 by omega]; exact Int.le_refl _
theorem sumI_pre {l : Int → Int} {i T : Int} (h : ∀ r, 0 ≤ r → r < T → 0 ≤ l r) (h0 : 0 ≤ i) (h1 : i < T) : sumI l i.toNat + l i ≤ sumI l T.toNat := by
  have e : sumI l (i + 1).toNat = sumI l i.toNat + l i := sumI_S h0
  have := sumI_to (l := l) (i := (i + 1).toNat) (T := T.toNat) (fun r hr => h r (by omega) (by omega)) (by omega)
  omega
theorem sumI_0n {l : Int → Int} {i T : Int} (h : ∀ r, 0 ≤ r → r < T → 0 ≤ l r) (h0 : 0 ≤ i) (h1 : i ≤ T) : 0 ≤ sumI l i.toNat ∧ sumI l i.toNat ≤ sumI l T.toNat := ⟨sumI_nn (fun r hr => h r (by omega) (by omega)), sumI_to (fun r hr => h r (by omega) (by omega)) (by omega)⟩
/-- each position lies in a file -/
theorem pos_in {l : Int → Int} : ∀ {T : Nat} {q : Int}, (∀ i : Nat, i < T → 0 ≤ l i) → 0 ≤ q → q < sumI l T → ∃ i : Nat, i < T ∧ 0 < l i ∧ sumI l i ≤ q ∧ q < sumI l i + l i
  | 0, q, _, h1, h2 => absurd h2 (by show ¬ q < 0; omega)
  | T + 1, q, h, h1, h2 => by
    by_cases c : q < sumI l T
    · obtain ⟨i, a, b⟩ := pos_in (T := T) (fun i hi => h i (by omega)) h1 c
      exact ⟨i, by omega, b⟩
    · rw [sumI] at h2
      exact ⟨T, by omega, by omega, by omega, h2⟩
theorem sumI_upd2 {l : Int → Int} {i v j : Int} (h0 : 0 ≤ i) (hj : 0 ≤ j) : sumI (uZ l i v) j.toNat = if i < j then sumI l j.toNat - l i + v else sumI l j.toNat := by
  by_cases c : i < j
  · rw [if_pos c]
    have := sumI_upd (f := l) (i := i.toNat) (v := v) (n := j.toNat) (by omega)
    rw [show ((i.toNat : Nat) : Int) = i by omega] at this
    exact this
  · rw [if_neg c]
    exact sumI_cong (fun r hr => uZ_ne (by omega))
/-- the rows f a .. f (a + len - 1) are those of the place p, in their order -/
def FL (f z : Int → Int) (p a len : Int) : Prop := (∀ q, a ≤ q → q < a + len → 0 ≤ f q ∧ f q < z 3 ∧ z (250 + f q) = p) ∧ (∀ q q', a ≤ q → q < q' → q' < a + len → bef z (f q) (f q')) ∧ ∀ r, 0 ≤ r → r < z 3 → z (250 + r) = p → ∃ q, a ≤ q ∧ q < a + len ∧ f q = r
def pF (n d : Int → Int) (i : Int) : Int := if d i = 2 then 2 else 10 + 2 * n i + d i
def LF (f n l d : Int → Int) (T : Int) (z : Int → Int) : Prop := (∀ i, 0 ≤ i → i < T → 0 ≤ l i) ∧ (∀ i, 0 ≤ i → i < T → 0 < l i → (d i = 0 ∨ d i = 1 ∨ d i = 2) ∧ (d i ≠ 2 → 0 ≤ n i ∧ n i < z 4) ∧ FL f z (pF n d i) (sumI l i.toNat) (l i)) ∧ (∀ i j, 0 ≤ i → i < j → j < T → 0 < l i → 0 < l j → (d i = 2 → d j ≠ 2) ∧ (d i ≠ 2 → d j ≠ 2 → n i ≠ n j)) ∧ ∀ r, 0 ≤ r → r < z 3 → (z (250 + r) = 2 ∨ 10 ≤ z (250 + r)) → ∃ i, 0 ≤ i ∧ i < T ∧ 0 < l i ∧ pF n d i = z (250 + r)
def kdZ (l d : Int → Int) (kind : Int) (n : Nat) : Int := sumI (fun i => pz (d i = kind ∧ 0 < l i)) n
theorem pF_2 {n d : Int → Int} {i : Int} (h : d i = 2) : pF n d i = 2 := if_pos h
theorem pF_n {n d : Int → Int} {i : Int} (h : d i ≠ 2) : pF n d i = 10 + 2 * n i + d i := if_neg h
theorem FL_len {f z : Int → Int} {p a len : Int} (h : FL f z p a len) (h0 : 0 ≤ len) (h3 : 0 ≤ z 3) : rowsAt z p = len := by
  obtain ⟨h1, h2, h4⟩ := h
  unfold rowsAt
  rw [cnt_bij (c := fun j : Nat => f (a + j)) (len := len.toNat) (P := fun r => z (250 + r) = p) (fun j hj => by
    obtain ⟨q1, q2, q3⟩ := h1 (a + j) (by omega) (by omega)
    exact ⟨q1, by (try dsimp only); omega, q3⟩) (fun j k hjk hk e => by
    have := h2 (a + j) (a + k) (by omega) (by omega) (by omega)
    (try dsimp only at e)
    rw [e] at this
    exact bef_irr this) (fun r hr hp => by
    obtain ⟨q, q1, q2, q3⟩ := h4 r (by omega) (by omega) hp
    exact ⟨(q - a).toNat, by omega, by (try dsimp only); rw [show a + (((q - a).toNat : Nat) : Int) = q by omega]; exact q3⟩)]
  omega
theorem FL_inj {f z : Int → Int} {p a len q q' : Int} (h : FL f z p a len) (h1 : a ≤ q ∧ q < a + len) (h2 : a ≤ q' ∧ q' < a + len) (e : f q = f q') : q = q' := by
  rcases Int.lt_trichotomy q q' with c | c | c
  · have := h.2.1 q q' h1.1 c h2.2
    rw [e] at this
    exact absurd this bef_irr
  · exact c
  · have := h.2.1 q' q h2.1 c h1.2
    rw [e] at this
    exact absurd this bef_irr
theorem FL_ext {f f' z z' : Int → Int} {p p' a a' len : Int} (h : FL f z p a len) (hf : ∀ j, 0 ≤ j → j < len → f' (a' + j) = f (a + j)) (h3 : ∀ r, 0 ≤ r → ((r < z' 3 ∧ z' (250 + r) = p') ↔ (r < z 3 ∧ z (250 + r) = p))) (hk : ∀ r, 0 ≤ r → r < z 3 → z (250 + r) = p → z' (10 + r) = z (10 + r)) : FL f' z' p' a' len := by
  obtain ⟨h1, h2, h4⟩ := h
  have e : ∀ q, a' ≤ q → q < a' + len → f' q = f (a + (q - a')) := fun q g1 g2 => by
    have := hf (q - a') (by omega) (by omega)
    rw [show a' + (q - a') = q by omega] at this
    exact this
  refine ⟨fun q g1 g2 => ?_, fun q q' g1 g2 g3 => ?_, fun r g1 g2 g3 => ?_⟩
  · rw [e q g1 g2]
    obtain ⟨w1, w2, w3⟩ := h1 (a + (q - a')) (by omega) (by omega)
    exact ⟨w1, (h3 _ w1).mpr ⟨w2, w3⟩⟩
  · rw [e q g1 (by omega), e q' (by omega) g3]
    obtain ⟨w1, w2, w3⟩ := h1 (a + (q - a')) (by omega) (by omega)
    obtain ⟨v1, v2, v3⟩ := h1 (a + (q' - a')) (by omega) (by omega)
    exact (bef_ext (hk _ w1 w2 w3) (hk _ v1 v2 v3)).mpr (h2 _ _ (by omega) (by omega) (by omega))
  · obtain ⟨w1, w2⟩ := (h3 r g1).mp ⟨g2, g3⟩
    obtain ⟨q, q1, q2, q3⟩ := h4 r g1 w1 w2
    refine ⟨a' + (q - a), by omega, by omega, ?_⟩
    rw [e _ (by omega) (by omega), show a + (a' + (q - a) - a') = q by omega]
    exact q3
section LFS
variable {f f' n n' l l' d d' : Int → Int} {T : Int} {z z' : Int → Int}
theorem LF_pne (h : LF f n l d T z) {i j : Int} (hi : 0 ≤ i ∧ i < T) (hj : 0 ≤ j ∧ j < T) (hl : 0 < l i) (hm : 0 < l j) (e : pF n d i = pF n d j) : i = j := by
  obtain ⟨a, b, c, _⟩ := h
  obtain ⟨b1, b2, _⟩ := b i hi.1 hi.2 hl
  obtain ⟨c1, c2, _⟩ := b j hj.1 hj.2 hm
  have key : ∀ i j : Int, 0 ≤ i → i < j → j < T → 0 < l i → 0 < l j → pF n d i = pF n d j → False := fun i j g1 g2 g3 g4 g5 g6 => by
    obtain ⟨w1, w2⟩ := c i j g1 g2 g3 g4 g5
    obtain ⟨x1, x2, _⟩ := b i g1 (by omega) g4
    obtain ⟨y1, y2, _⟩ := b j (by omega) g3 g5
    unfold pF at g6
    by_cases u : d i = 2
    · have := w1 u
      have := y2 this
      rw [if_pos u, if_neg (by assumption)] at g6
      omega
    · have x3 := x2 u
      rw [if_neg u] at g6
      by_cases v : d j = 2
      · rw [if_pos v] at g6; omega
      · rw [if_neg v] at g6
        have := w2 u v
        omega
  rcases Int.lt_trichotomy i j with q | q | q
  · exact absurd e (fun e => key i j hi.1 q hj.2 hl hm e)
  · exact q
  · exact absurd e.symm (fun e => key j i hj.1 q hi.2 hm hl e)
theorem LF_len (h : LF f n l d T z) (h3 : 0 ≤ z 3) {i : Int} (hi : 0 ≤ i ∧ i < T) (hl : 0 < l i) : rowsAt z (pF n d i) = l i := FL_len (h.2.1 i hi.1 hi.2 hl).2.2 (by omega) h3
theorem LF_row (h : LF f n l d T z) {i q : Int} (hi : 0 ≤ i ∧ i < T) (h1 : sumI l i.toNat ≤ q) (h2 : q < sumI l i.toNat + l i) : 0 ≤ f q ∧ f q < z 3 ∧ z (250 + f q) = pF n d i := (h.2.1 i hi.1 hi.2 (by omega)).2.2.1 q h1 h2
theorem LF_pos (h : LF f n l d T z) {q : Int} (h0 : 0 ≤ q) (h1 : q < sumI l T.toNat) : ∃ i, (0 ≤ i ∧ i < T) ∧ 0 < l i ∧ sumI l i.toNat ≤ q ∧ q < sumI l i.toNat + l i := by
  obtain ⟨i, a, b, c, e⟩ := pos_in (l := l) (T := T.toNat) (fun i hi => h.1 i (by omega) (by omega)) h0 h1
  exact ⟨i, by omega, b, c, e⟩
/-- the places of files -/
theorem LF_pl (h : LF f n l d T z) {i : Int} (hi : 0 ≤ i ∧ i < T) (hl : 0 < l i) : pF n d i = 2 ∨ (10 ≤ pF n d i ∧ pF n d i < 10 + 2 * z 4) := by
  obtain ⟨b1, b2, _⟩ := h.2.1 i hi.1 hi.2 hl
  unfold pF
  by_cases u : d i = 2
  · rw [if_pos u]; exact Or.inl rfl
  · rw [if_neg u]
    have := b2 u
    omega
/-- files stay, rows stay in them; numbers and kinds may change -/
theorem LF_move (h : LF f n l d T z) (h1 : ∀ i, 0 ≤ i → i < T → 0 < l i → (d' i = 0 ∨ d' i = 1 ∨ d' i = 2) ∧ (d' i ≠ 2 → 0 ≤ n' i ∧ n' i < z' 4) ∧ ∀ r, 0 ≤ r → ((r < z' 3 ∧ z' (250 + r) = pF n' d' i) ↔ (r < z 3 ∧ z (250 + r) = pF n d i))) (h2 : ∀ i j, 0 ≤ i → i < j → j < T → 0 < l i → 0 < l j → (d' i = 2 → d' j ≠ 2) ∧ (d' i ≠ 2 → d' j ≠ 2 → n' i ≠ n' j)) (h3 : ∀ r, 0 ≤ r → r < z' 3 → (z' (250 + r) = 2 ∨ 10 ≤ z' (250 + r)) → r < z 3 ∧ (z (250 + r) = 2 ∨ 10 ≤ z (250 + r))) (h4 : ∀ r, 0 ≤ r → r < z 3 → z' (10 + r) = z (10 + r)) : LF f n' l d' T z' := by
  obtain ⟨a, b, c, e⟩ := h
  refine ⟨a, fun i g1 g2 g3 => ?_, h2, fun r g1 g2 g3 => ?_⟩
  · obtain ⟨x1, x2, x3⟩ := h1 i g1 g2 g3
    exact ⟨x1, x2, FL_ext (b i g1 g2 g3).2.2 (fun j _ _ => rfl) x3 (fun r w1 w2 _ => h4 r w1 w2)⟩
  · obtain ⟨w1, w2⟩ := h3 r g1 g2 g3
    obtain ⟨i, i1, i2, i3, i4⟩ := e r g1 w1 w2
    exact ⟨i, i1, i2, i3, (((h1 i i1 i2 i3).2.2 r g1).mpr ⟨w1, i4.symm⟩).2.symm⟩
/-- rows stay, other things change -/
theorem LF_z (h : LF f n l d T z) (h4 : z 4 ≤ z' 4) (hp : ∀ r, 0 ≤ r → r < z 3 → (z (250 + r) = 2 ∨ 10 ≤ z (250 + r)) → r < z' 3 ∧ z' (250 + r) = z (250 + r)) (hq : ∀ r, 0 ≤ r → r < z' 3 → (z' (250 + r) = 2 ∨ 10 ≤ z' (250 + r)) → r < z 3 ∧ z' (250 + r) = z (250 + r)) (hk : ∀ r, 0 ≤ r → r < z 3 → z' (10 + r) = z (10 + r)) : LF f n l d T z' := by
  refine LF_move h (fun i g1 g2 g3 => ?_) h.2.2.1 (fun r g1 g2 g3 => ?_) hk
  · obtain ⟨b1, b2, _⟩ := h.2.1 i g1 g2 g3
    have pl := LF_pl h ⟨g1, g2⟩ g3
    refine ⟨b1, fun w => ⟨(b2 w).1, by have := (b2 w).2; omega⟩, fun r r0 => ⟨fun ⟨w1, w2⟩ => ?_, fun ⟨w1, w2⟩ => ?_⟩⟩
    · obtain ⟨v1, v2⟩ := hq r r0 w1 (by omega)
      exact ⟨v1, by omega⟩
    · obtain ⟨v1, v2⟩ := hp r r0 w1 (by omega)
      exact ⟨v1, by omega⟩
  · obtain ⟨v1, v2⟩ := hq r g1 g2 g3
    exact ⟨v1, by omega⟩
/-- the same arrays as far as files go -/
theorem LF_cong (h : LF f n l d T z) (hf : ∀ q, 0 ≤ q → q < sumI l T.toNat → f' q = f q) (hn : ∀ i, 0 ≤ i → i < T → l' i = l i ∧ (0 < l i → n' i = n i ∧ d' i = d i)) : LF f' n' l' d' T z := by
  obtain ⟨a, b, c, e⟩ := h
  have hs : ∀ i, 0 ≤ i → i ≤ T → sumI l' i.toNat = sumI l i.toNat := fun i g1 g2 => sumI_cong (fun r hr => (hn r (by omega) (by omega)).1)
  have hp : ∀ i, 0 ≤ i → i < T → 0 < l i → pF n' d' i = pF n d i := fun i g1 g2 g3 => by
    obtain ⟨w1, w2⟩ := (hn i g1 g2).2 g3
    unfold pF
    rw [w1, w2]
  refine ⟨fun i g1 g2 => by rw [(hn i g1 g2).1]; exact a i g1 g2, fun i g1 g2 g3 => ?_, fun i j g1 g2 g3 g4 g5 => ?_, fun r g1 g2 g3 => ?_⟩
  · rw [(hn i g1 g2).1] at g3
    obtain ⟨w1, w2⟩ := (hn i g1 g2).2 g3
    obtain ⟨b1, b2, b3⟩ := b i g1 g2 g3
    rw [w1, w2, hp i g1 g2 g3, hs i g1 (by omega), (hn i g1 g2).1]
    have lo := (sumI_0n a g1 (Int.le_of_lt g2)).1
    have up := sumI_pre a g1 g2
    exact ⟨b1, b2, FL_ext b3 (fun j j0 j1 => hf _ (by omega) (by omega)) (fun r r0 => Iff.rfl) (fun _ _ _ _ => rfl)⟩
  · rw [(hn i g1 (by omega)).1] at g4
    rw [(hn j (by omega) g3).1] at g5
    obtain ⟨w1, w2⟩ := (hn i g1 (by omega)).2 g4
    obtain ⟨v1, v2⟩ := (hn j (by omega) g3).2 g5
    rw [w1, w2, v1, v2]
    exact c i j g1 g2 g3 g4 g5
  · obtain ⟨i, i1, i2, i3, i4⟩ := e r g1 g2 g3
    exact ⟨i, i1, i2, by rw [(hn i i1 i2).1]; exact i3, by rw [hp i i1 i2 i3]; exact i4⟩
/-- a file without rows more, at the end -/
theorem LF_more (h : LF f n l d T z) (hT : 0 ≤ T) (hn : ∀ i, 0 ≤ i → i < T → l' i = l i ∧ (0 < l i → n' i = n i ∧ d' i = d i)) (h0 : l' T = 0) : LF f n' l' d' (T + 1) z := by
  obtain ⟨a, b, c, e⟩ := LF_cong (f' := f) h (fun _ _ _ => rfl) hn
  refine ⟨fun i g1 g2 => ?_, fun i g1 g2 g3 => ?_, fun i j g1 g2 g3 g4 g5 => ?_, fun r g1 g2 g3 => ?_⟩
  · by_cases w : i = T
    · rw [w, h0]; exact Int.le_refl _
    · exact a i g1 (by omega)
  · by_cases w : i = T
    · rw [w] at g3; omega
    · exact b i g1 (by omega) g3
  · by_cases w : j = T
    · rw [w] at g5; omega
    · exact c i j g1 g2 (by omega) g4 g5
  · obtain ⟨i, i1, i2, i3⟩ := e r g1 g2 g3
    exact ⟨i, i1, by omega, i3⟩
/-- a file becomes a run with the next number -/
theorem LF_close (hb : Vb z) (h : LF f n l d T z) {a : Int} (ha : 0 ≤ a ∧ a < T) (hl : 0 < l a) : LF f (uZ n a (z 4)) l (uZ d a 0) T (becm z (pF n d a)) := by
  have hv := hb.2.2.2.2
  have h40 := hb.2.2.1
  have e3 : becm z (pF n d a) 3 = z 3 := becm_lo (by omega) (by omega)
  have e4 : becm z (pF n d a) 4 = z 4 + 1 := becm_4
  have hpl : ∀ r, 0 ≤ r → r < z 3 → becm z (pF n d a) (250 + r) = if z (250 + r) = pF n d a then 10 + 2 * z 4 else z (250 + r) := fun r r0 r1 => becm_pl r0 r1
  have pa := LF_pl h ha hl
  refine LF_move h (fun i g1 g2 g3 => ?_) (fun i j g1 g2 g3 g4 g5 => ?_) (fun r g1 g2 g3 => ?_) (fun r g1 g2 => becm_lo (by have := hb.2.1; omega) (by omega))
  · have pi := LF_pl h ⟨g1, g2⟩ g3
    rw [e4, e3]
    by_cases w : i = a
    · subst w
      rw [uZ_at, uZ_at]
      have ep : pF (uZ n i (z 4)) (uZ d i 0) i = 10 + 2 * z 4 := by
        rw [pF_n (by rw [uZ_at]; omega), uZ_at, uZ_at]; omega
      rw [ep]
      refine ⟨Or.inl rfl, fun _ => by omega, fun r r0 => ⟨fun ⟨w1, w2⟩ => ?_, fun ⟨w1, w2⟩ => ?_⟩⟩
      · rw [hpl r r0 w1] at w2
        by_cases u : z (250 + r) = pF n d i
        · exact ⟨w1, u⟩
        · rw [if_neg u] at w2
          have := hv r r0 w1
          omega
      · exact ⟨w1, by rw [hpl r r0 w1, if_pos w2]⟩
    · obtain ⟨b1, b2, _⟩ := h.2.1 i g1 g2 g3
      rw [uZ_ne w, uZ_ne w]
      have ep : pF (uZ n a (z 4)) (uZ d a 0) i = pF n d i := by unfold pF; rw [uZ_ne w, uZ_ne w]
      rw [ep]
      have ne : pF n d i ≠ pF n d a := fun q => w (LF_pne h ⟨g1, g2⟩ ha g3 hl q)
      refine ⟨b1, fun q => by have := b2 q; omega, fun r r0 => ⟨fun ⟨w1, w2⟩ => ?_, fun ⟨w1, w2⟩ => ?_⟩⟩
      · rw [hpl r r0 w1] at w2
        by_cases u : z (250 + r) = pF n d a
        · rw [if_pos u] at w2; omega
        · rw [if_neg u] at w2
          exact ⟨w1, w2⟩
      · exact ⟨w1, by rw [hpl r r0 w1, if_neg (by omega)]; exact w2⟩
  · obtain ⟨c1, c2⟩ := h.2.2.1 i j g1 g2 g3 g4 g5
    by_cases w : i = a
    · subst w
      have wj : j ≠ i := by omega
      rw [uZ_at, uZ_at, uZ_ne wj, uZ_ne wj]
      refine ⟨fun q => by omega, fun _ q => ?_⟩
      have := ((h.2.1 j (by omega) g3 g5).2.1 q).2
      omega
    · rw [uZ_ne w, uZ_ne w]
      by_cases v : j = a
      · subst v
        rw [uZ_at, uZ_at]
        refine ⟨fun q => by omega, fun q _ => ?_⟩
        have := ((h.2.1 i g1 (by omega) g4).2.1 q).2
        omega
      · rw [uZ_ne v, uZ_ne v]
        exact ⟨c1, c2⟩
  · rw [e3] at g2
    rw [hpl r g1 g2] at g3
    refine ⟨g2, ?_⟩
    by_cases u : z (250 + r) = pF n d a
    · omega
    · rw [if_neg u] at g3; exact g3
/-- a run becomes an input -/
theorem LF_input (hb : Vb z) (h : LF f n l d T z) {a : Int} (ha : 0 ≤ a ∧ a < T) (hl : 0 < l a) (hd : d a = 0) : LF f n l (uZ d a 1) T (mvZ z (10 + 2 * n a)) := by
  have na := (h.2.1 a ha.1 ha.2 hl).2.1 (by omega)
  have e3 : mvZ z (10 + 2 * n a) 3 = z 3 := mvZ_lo (by omega)
  have e4 : mvZ z (10 + 2 * n a) 4 = z 4 := mvZ_lo (by omega)
  have epa : pF n d a = 10 + 2 * n a := by rw [pF_n (by omega), hd]; omega
  have hpl : ∀ r, 0 ≤ r → r < z 3 → mvZ z (10 + 2 * n a) (250 + r) = if z (250 + r) = 10 + 2 * n a then 10 + 2 * n a + 1 else z (250 + r) := fun r r0 r1 => mvZ_pl r0 r1
  -- no row lies at the new place before
  have hno : ∀ r, 0 ≤ r → r < z 3 → z (250 + r) ≠ 10 + 2 * n a + 1 := fun r r0 r1 e => by
    obtain ⟨i, i1, i2, i3, i4⟩ := h.2.2.2 r r0 r1 (by omega)
    obtain ⟨b1, b2, _⟩ := h.2.1 i i1 i2 i3
    have ni : d i ≠ 2 := fun q => by rw [pF_2 q] at i4; omega
    rw [pF_n ni] at i4
    have ia : i ≠ a := fun q => by rw [q] at i4; omega
    rcases Int.lt_or_gt_of_ne ia with q | q
    · have := (h.2.2.1 i a i1 q ha.2 i3 hl).2 ni (by omega)
      omega
    · have := (h.2.2.1 a i ha.1 q i2 hl i3).2 (by omega) ni
      omega
  refine LF_move h (fun i g1 g2 g3 => ?_) (fun i j g1 g2 g3 g4 g5 => ?_) (fun r g1 g2 g3 => ?_) (fun r g1 g2 => mvZ_lo (by have := hb.2.1; omega))
  · obtain ⟨b1, b2, _⟩ := h.2.1 i g1 g2 g3
    rw [e4, e3]
    by_cases w : i = a
    · subst w
      have ep : pF n (uZ d i 1) i = 10 + 2 * n i + 1 := by rw [pF_n (by rw [uZ_at]; omega), uZ_at]
      rw [uZ_at, ep, epa]
      refine ⟨Or.inr (Or.inl rfl), fun _ => na, fun r r0 => ⟨fun ⟨w1, w2⟩ => ?_, fun ⟨w1, w2⟩ => ?_⟩⟩
      · rw [hpl r r0 w1] at w2
        by_cases u : z (250 + r) = 10 + 2 * n i
        · exact ⟨w1, u⟩
        · rw [if_neg u] at w2
          exact absurd w2 (hno r r0 w1)
      · exact ⟨w1, by rw [hpl r r0 w1, if_pos w2]⟩
    · have ep : pF n (uZ d a 1) i = pF n d i := by unfold pF; rw [uZ_ne w]
      rw [uZ_ne w, ep]
      have ne : pF n d i ≠ 10 + 2 * n a := fun q => w (LF_pne h ⟨g1, g2⟩ ha g3 hl (q.trans epa.symm))
      refine ⟨b1, b2, fun r r0 => ⟨fun ⟨w1, w2⟩ => ?_, fun ⟨w1, w2⟩ => ?_⟩⟩
      · rw [hpl r r0 w1] at w2
        by_cases u : z (250 + r) = 10 + 2 * n a
        · rw [if_pos u] at w2
          -- then a row of i lies at the new place
          have pi := LF_len h (by omega) ⟨g1, g2⟩ g3
          obtain ⟨x, x1, x2, x3⟩ := rowsAt_pos.mp (show 0 < rowsAt z (pF n d i) by omega)
          exact absurd (x3.trans w2.symm) (hno x x1 x2)
        · rw [if_neg u] at w2
          exact ⟨w1, w2⟩
      · exact ⟨w1, by rw [hpl r r0 w1, if_neg (by omega)]; exact w2⟩
  · obtain ⟨c1, c2⟩ := h.2.2.1 i j g1 g2 g3 g4 g5
    have hu : ∀ x, uZ d a 1 x = 2 ↔ d x = 2 := fun x => by
      by_cases w : x = a
      · rw [w, uZ_at, hd]; omega
      · rw [uZ_ne w]
    refine ⟨fun q => fun v => c1 ((hu i).mp q) ((hu j).mp v), fun q v => c2 (fun x => q ((hu i).mpr x)) (fun x => v ((hu j).mpr x))⟩
  · rw [e3] at g2
    rw [hpl r g1 g2] at g3
    refine ⟨g2, ?_⟩
    by_cases u : z (250 + r) = 10 + 2 * n a
    · omega
    · rw [if_neg u] at g3; exact g3
theorem LF_kinds (hb : Vb z) (h : LF f n l d T z) {kind : Int} (hk : kind = 0 ∨ kind = 1) : kdZ l d kind T.toNat = manyZ z kind := by
  have h3 := hb.1
  have h4 := hb.2.2.1
  unfold kdZ manyZ
  refine cnt_map (Q := fun i => d i = kind ∧ 0 < l i) (P := fun k => 0 < rowsAt z (10 + 2 * k + kind)) (g := n) (fun i hi q => ?_) (fun i j hij hj q w => ?_) (fun k hk2 hp => ?_)
  · obtain ⟨b1, b2, _⟩ := h.2.1 i (by omega) (by omega) q.2
    have := b2 (by omega)
    refine ⟨this.1, by omega, ?_⟩
    have e := LF_len h h3 (i := i) (by omega) q.2
    rw [pF_n (by omega), q.1] at e
    omega
  · exact (h.2.2.1 i j (by omega) (by omega) (by omega) q.2 w.2).2 (by omega) (by omega)
  · obtain ⟨x, x1, x2, x3⟩ := rowsAt_pos.mp hp
    obtain ⟨i, i1, i2, i3, i4⟩ := h.2.2.2 x x1 x2 (by omega)
    obtain ⟨b1, b2, _⟩ := h.2.1 i i1 i2 i3
    have ni : d i ≠ 2 := fun q => by rw [pF_2 q] at i4; omega
    have := b2 ni
    rw [pF_n ni] at i4
    refine ⟨i.toNat, by omega, ?_⟩
    rw [show ((i.toNat : Nat) : Int) = i by omega]
    exact ⟨⟨by omega, i3⟩, by omega⟩
/-- a file without rows goes -/
theorem LF_drop (h : LF f n l d T z) {a : Int} (ha : 0 ≤ a ∧ a < T) (h0 : l a = 0) (hx : ∀ i, 0 ≤ i → i < T - 1 → (i < a → n' i = n i ∧ l' i = l i ∧ d' i = d i) ∧ (a ≤ i → n' i = n (i + 1) ∧ l' i = l (i + 1) ∧ d' i = d (i + 1))) : LF f n' l' d' (T - 1) z := by
  obtain ⟨b0, b, c, e⟩ := h
  have mp : ∀ i, 0 ≤ i → i < T - 1 → ∃ j, j = (if i < a then i else i + 1) ∧ (0 ≤ j ∧ j < T ∧ j ≠ a) ∧ n' i = n j ∧ l' i = l j ∧ d' i = d j := fun i g1 g2 => by
    obtain ⟨x, y⟩ := hx i g1 g2
    by_cases w : i < a
    · exact ⟨i, by rw [if_pos w], by omega, x w⟩
    · exact ⟨i + 1, by rw [if_neg w], by omega, y (by omega)⟩
  have hs : ∀ k : Nat, (k : Int) ≤ T - 1 → sumI l' k = sumI l (if (k : Int) < a then (k : Int) else (k : Int) + 1).toNat := by
    intro k
    induction k with
    | zero =>
      intro _
      by_cases w : ((0 : Nat) : Int) < a
      · rw [if_pos w]; rfl
      · have a0 : a = 0 := by omega
        have l0 : l 0 = 0 := a0 ▸ h0
        have e1 : sumI l (0 + 1) = 0 + l 0 := rfl
        rw [if_neg w, show (((0 : Nat) : Int) + 1).toNat = 0 + 1 by omega, e1, l0]; rfl
    | succ k ih =>
      intro hk
      obtain ⟨j, ej, j1, _, j3, _⟩ := mp k (by omega) (by omega)
      rw [sumI, ih (by omega), j3, ej]
      by_cases w : (k : Int) < a
      · rw [if_pos w]
        by_cases v : ((k + 1 : Nat) : Int) < a
        · rw [if_pos v, show ((k + 1 : Nat) : Int).toNat = k + 1 by omega, sumI]
          rw [show ((k : Int)).toNat = k by omega]
        · have ek : a = ((k + 1 : Nat) : Int) := by omega
          rw [if_neg v, show (((k + 1 : Nat) : Int) + 1).toNat = k + 1 + 1 by omega, sumI, sumI, ← ek, h0, show ((k : Int)).toNat = k by omega]
          omega
      · rw [if_neg w, if_neg (by omega), show ((k : Int) + 1).toNat = k + 1 by omega, show (((k + 1 : Nat) : Int) + 1).toNat = k + 1 + 1 by omega]
        conv => rhs; rw [sumI]
        rw [show ((k + 1 : Nat) : Int) = (k : Int) + 1 by omega]
  have hp : ∀ i j, n' i = n j → d' i = d j → pF n' d' i = pF n d j := fun i j e1 e2 => by unfold pF; rw [e1, e2]
  refine ⟨fun i g1 g2 => ?_, fun i g1 g2 g3 => ?_, fun i j g1 g2 g3 g4 g5 => ?_, fun r g1 g2 g3 => ?_⟩
  · obtain ⟨j, _, j1, _, j3, _⟩ := mp i g1 g2
    rw [j3]; exact b0 j j1.1 j1.2.1
  · obtain ⟨j, ej, j1, j2, j3, j4⟩ := mp i g1 g2
    rw [j3] at g3
    have := b j j1.1 j1.2.1 g3
    have q := hs i.toNat (by omega)
    rw [show ((i.toNat : Nat) : Int) = i by omega, ← ej] at q
    rw [j2, j3, j4, hp i j j2 j4, q]
    exact this
  · obtain ⟨x, ex, x1, x2, x3, x4⟩ := mp i g1 (by omega)
    obtain ⟨y, ey, y1, y2, y3, y4⟩ := mp j (by omega) g3
    rw [x3] at g4
    rw [y3] at g5
    rw [x2, x4, y2, y4]
    have lt : x < y := by
      rw [ex, ey]
      by_cases w : i < a
      · rw [if_pos w]; split <;> omega
      · rw [if_neg w, if_neg (by omega)]; omega
    exact c x y x1.1 lt y1.2.1 g4 g5
  · obtain ⟨j, i1, i2, i3, i4⟩ := e r g1 g2 g3
    have ja : j ≠ a := fun q => by rw [q] at i3; omega
    by_cases w : j < a
    · obtain ⟨y, ey, y1, y2, y3, y4⟩ := mp j i1 (by omega)
      rw [if_pos w] at ey
      subst ey
      exact ⟨y, i1, by omega, by rw [y3]; exact i3, by rw [hp y y y2 y4]; exact i4⟩
    · obtain ⟨y, ey, y1, y2, y3, y4⟩ := mp (j - 1) (by omega) (by omega)
      rw [if_neg (by omega), show j - 1 + 1 = j by omega] at ey
      subst ey
      exact ⟨y - 1, by omega, by omega, by rw [y3]; exact i3, by rw [hp _ y y2 y4]; exact i4⟩
end LFS
theorem kdZ_S {l d : Int → Int} {kind i : Int} (h : 0 ≤ i) : kdZ l d kind (i + 1).toNat = kdZ l d kind i.toNat + pz (d i = kind ∧ 0 < l i) := sumI_S h
/-! ===== the law's arrays stand for the row z ===== -/
def LSc (t z : Int → Int) : Prop := t 0 = z 0 ∧ t 1 = z 1 ∧ t 2 = z 2 ∧ t 3 = z 3 ∧ t 4 = z 4 ∧ t 5 = z 5 ∧ t 7 = z 7 ∧ t 8 = z 8 ∧ t 9 = z 9 ∧ (z 5 = 1 → t 6 = z 6)
def LX (l d : Int → Int) (T : Int) (z : Int → Int) : Prop := (z 5 = 0 → ∀ i, 0 ≤ i → i < T → d i = 0 ∧ 0 < l i) ∧ (z 5 = 1 → 0 < T ∧ d (T - 1) = 2 ∧ ∀ i, 0 ≤ i → i < T - 1 → d i = 1 ∨ (d i = 0 ∧ 0 < l i))
def LV (f n l d m k t z : Int → Int) : Prop := LSc t z ∧ (∀ r, 0 ≤ r → r < z 3 → k r = z (10 + r)) ∧ RMm m (t 11) z ∧ LF f n l d (t 10) z ∧ LX l d (t 10) z ∧ (0 ≤ t 10 ∧ t 10 ≤ z 3 + z 5) ∧ z 3 ≤ 56
def LC (c z : Int → Int) : Prop := ∀ r, 0 ≤ r → r < z 3 → c r = z (130 + r)
/-- each file's length and start -/
theorem LF_rng {f n l d : Int → Int} {T : Int} {z : Int → Int} (h : LF f n l d T z) (hs : sumI l T.toNat ≤ 60) : ∀ i, 0 ≤ i → i < T → 0 ≤ l i ∧ l i ≤ 60 ∧ 0 ≤ sumI l i.toNat ∧ sumI l i.toNat + l i ≤ 60 := fun i g1 g2 => by
  have h0 := h.1 i g1 g2
  have h1 := (sumI_0n h.1 g1 (Int.le_of_lt g2)).1
  have h2 := sumI_pre h.1 g1 g2
  omega
/-- as many rows lie somewhere as the files and the memory hold -/
theorem LF_thr {f n l d m : Int → Int} {T M : Int} {z : Int → Int} (hb : Vb z) (h : LF f n l d T z) (hm : RMm m M z) : sumI l T.toNat + M = thrZ z := by
  have hv := hb.2.2.2.2
  have h3 := hb.1
  have hr := RMm_len hm h3
  have e1 := sum_rows (z := z) (q := fun i => if 0 < l i then pF n d i else -1) T.toNat
  have e2 : sumI (fun i => rowsAt z (if 0 < l i then pF n d i else -1)) T.toNat = sumI l T.toNat := sumI_cong (fun r hr => by
    by_cases c : 0 < l r
    · rw [if_pos c]; exact LF_len h h3 (by omega) c
    · rw [if_neg c, (rowsAt_0 h3).mpr (fun x x0 x1 q => by have := hv x x0 x1; omega)]
      have := h.1 r (by omega) (by omega)
      omega)
  have e3 : thrZ z = sumI (fun r => (fun r => pz (z (250 + r) = 1)) r + (fun r => sumI (fun i => pz (z (250 + r) = (fun i => if 0 < l i then pF n d i else -1) i)) T.toNat) r) (z 3).toNat := by
    unfold thrZ
    refine sumI_cong (fun r hr => ?_)
    have pl := hv r (by omega) (by omega)
    dsimp only
    by_cases c : z (250 + r) = 2 ∨ 10 ≤ z (250 + r)
    · obtain ⟨i, i1, i2, i3, i4⟩ := h.2.2.2 r (by omega) (by omega) c
      have e0 : sumI (fun i => pz (z (250 + r) = if 0 < l i then pF n d i else -1)) T.toNat = pz (z (250 + r) = if 0 < l ((i.toNat : Nat) : Int) then pF n d ((i.toNat : Nat) : Int) else -1) := sumI_single (i := i.toNat) (by omega) (fun j hj hji => pz_f (fun q => by
        by_cases w : 0 < l j
        · rw [if_pos w] at q
          have := LF_pne h (i := i) (j := j) ⟨i1, i2⟩ (by omega) i3 w (i4.trans q)
          omega
        · rw [if_neg w] at q; omega))
      rw [pz_t (by omega), pz_f (by omega), e0, show ((i.toNat : Nat) : Int) = i by omega, pz_t (by rw [if_pos i3]; exact i4.symm)]
      rfl
    · have e0 : sumI (fun i => pz (z (250 + r) = if 0 < l i then pF n d i else -1)) T.toNat = 0 := sumI_0 (fun j hj => pz_f (fun q => by
        by_cases w : 0 < l j
        · rw [if_pos w] at q
          have := LF_pl h (i := j) (by omega) w
          omega
        · rw [if_neg w] at q; omega))
      rw [e0]
      by_cases w : z (250 + r) = 1
      · rw [pz_t (by omega), pz_t w]; rfl
      · rw [pz_f (by omega), pz_f w]; rfl
  rw [e3, sumI_add, e1, e2]
  have : sumI (fun r => pz (z (250 + r) = 1)) (z 3).toNat = M := hr
  rw [this]
  omega
theorem thrZ_le {z : Int → Int} (h3 : 0 ≤ z 3) : 0 ≤ thrZ z ∧ thrZ z ≤ z 3 := by
  have := sumI_01 (f := fun r => pz (0 < z (250 + r))) (fun r => pz_01 _) (z 3).toNat
  unfold thrZ
  omega
theorem thrZ_hole {z : Int → Int} {x : Int} (h0 : 0 ≤ x) (h1 : x < z 3) (hp : z (250 + x) = 0) : thrZ z ≤ z 3 - 1 := by
  have e : sumI (uZ (fun r => pz (0 < z (250 + r))) x 1) (z 3).toNat = thrZ z - pz (0 < z (250 + x)) + 1 := by
    have := sumI_upd (f := fun r => pz (0 < z (250 + r))) (i := x.toNat) (v := 1) (n := (z 3).toNat) (by omega)
    rw [show ((x.toNat : Nat) : Int) = x by omega] at this
    exact this
  rw [pz_f (by omega)] at e
  have := sumI_01 (f := uZ (fun r => pz (0 < z (250 + r))) x 1) (fun r => by
    unfold uZ
    split
    · exact Or.inr rfl
    · exact pz_01 _) (z 3).toNat
  omega
theorem LV_sum {f n l d m k t z : Int → Int} (hb : Vb z) (h : LV f n l d m k t z) : sumI l (t 10).toNat + t 11 ≤ z 3 ∧ sumI l (t 10).toNat + t 11 = thrZ z := by
  have e := LF_thr hb h.2.2.2.1 h.2.2.1
  have := (thrZ_le hb.1).2
  omega
theorem LF_write {f f' n l d : Int → Int} {T M : Int} {z z' : Int → Int} (hb : Vb z) (h : LF f n l d T z) (hT : 0 ≤ T) (hM : 0 < M) (hf : ∀ q, q < sumI l T.toNat → f' q = f q) (hw : FL f' z 1 (sumI l T.toNat) M) (h3 : z' 3 = z 3) (h4 : z' 4 = z 4 + 1) (hpl : ∀ r, 0 ≤ r → r < z 3 → z' (250 + r) = if z (250 + r) = 1 then 10 + 2 * z 4 else z (250 + r)) (hk : ∀ r, 0 ≤ r → r < z 3 → z' (10 + r) = z (10 + r)) : LF f' (uZ n T (z 4)) (uZ l T M) (uZ d T 0) (T + 1) z' := by
  have hv := hb.2.2.2.2
  have h40 := hb.2.2.1
  obtain ⟨a, b, c, e⟩ := h
  have hh : LF f n l d T z := ⟨a, b, c, e⟩
  have hs : ∀ i, 0 ≤ i → i ≤ T → sumI (uZ l T M) i.toNat = sumI l i.toNat := fun i g1 g2 => by rw [sumI_upd2 hT g1, if_neg (by omega)]
  have ep : ∀ i, i ≠ T → pF (uZ n T (z 4)) (uZ d T 0) i = pF n d i := fun i g => by unfold pF; rw [uZ_ne g, uZ_ne g]
  have eT : pF (uZ n T (z 4)) (uZ d T 0) T = 10 + 2 * z 4 := by rw [pF_n (by rw [uZ_at]; omega), uZ_at, uZ_at]; omega
  refine ⟨fun i g1 g2 => ?_, fun i g1 g2 g3 => ?_, fun i j g1 g2 g3 g4 g5 => ?_, fun r g1 g2 g3 => ?_⟩
  · by_cases w : i = T
    · rw [w, uZ_at]; omega
    · rw [uZ_ne w]; exact a i g1 (by omega)
  · rw [hs i g1 (by omega)]
    by_cases w : i = T
    · rw [w, uZ_at, uZ_at, uZ_at, eT]
      refine ⟨Or.inl rfl, fun _ => by omega, FL_ext hw (fun j _ _ => rfl) (fun r r0 => ?_) (fun r r0 r1 _ => hk r r0 r1)⟩
      rw [h3]
      refine ⟨fun ⟨w1, w2⟩ => ?_, fun ⟨w1, w2⟩ => ⟨w1, by rw [hpl r r0 w1, if_pos w2]⟩⟩
      rw [hpl r r0 w1] at w2
      by_cases u : z (250 + r) = 1
      · exact ⟨w1, u⟩
      · rw [if_neg u] at w2
        have := hv r r0 w1
        omega
    · rw [uZ_ne w] at g3
      rw [uZ_ne w, uZ_ne w, uZ_ne w, ep i w]
      have gi : i < T := by omega
      obtain ⟨b1, b2, b3⟩ := b i g1 gi g3
      have pl := LF_pl hh ⟨g1, gi⟩ g3
      have up := sumI_pre a g1 gi
      refine ⟨b1, fun q => by have := b2 q; omega, FL_ext b3 (fun j j0 j1 => hf _ (by omega)) (fun r r0 => ?_) (fun r r0 r1 _ => hk r r0 r1)⟩
      rw [h3]
      refine ⟨fun ⟨w1, w2⟩ => ?_, fun ⟨w1, w2⟩ => ⟨w1, by rw [hpl r r0 w1, if_neg (by omega)]; exact w2⟩⟩
      rw [hpl r r0 w1] at w2
      by_cases u : z (250 + r) = 1
      · rw [if_pos u] at w2; omega
      · rw [if_neg u] at w2; exact ⟨w1, w2⟩
  · have wi : i ≠ T := by omega
    rw [uZ_ne wi] at g4
    rw [uZ_ne wi, uZ_ne wi]
    by_cases w : j = T
    · rw [w, uZ_at, uZ_at]
      refine ⟨fun q => by omega, fun q _ => ?_⟩
      have := ((b i g1 (by omega) g4).2.1 q).2
      omega
    · rw [uZ_ne w] at g5
      rw [uZ_ne w, uZ_ne w]
      exact c i j g1 g2 (by omega) g4 g5
  · rw [h3] at g2
    by_cases u : z (250 + r) = 1
    · exact ⟨T, hT, by omega, by rw [uZ_at]; exact hM, by rw [eT, hpl r g1 g2, if_pos u]⟩
    · rw [hpl r g1 g2, if_neg u] at g3 ⊢
      obtain ⟨i, i1, i2, i3, i4⟩ := e r g1 g2 g3
      have wi : i ≠ T := by omega
      exact ⟨i, i1, by omega, by rw [uZ_ne wi]; exact i3, by rw [ep i wi]; exact i4⟩
/-- the rows in memory, sorted -/
theorem FL_sorted {f k m g z : Int → Int} {a M : Int} (hk : ∀ r, 0 ≤ r → r < z 3 → k r = z (10 + r)) (hm : RMm m M z) (hs : SrtI k m M M g) (hf : ∀ q, 0 ≤ q → q < M → f (a + q) = g q) : FL f z 1 a M := by
  obtain ⟨s1, s2, s3, s4⟩ := hs
  obtain ⟨_, m1, m2, m3⟩ := hm
  have e : ∀ q, a ≤ q → q < a + M → f q = g (q - a) := fun q g1 g2 => by
    have := hf (q - a) (by omega) (by omega)
    rw [show a + (q - a) = q by omega] at this
    exact this
  have inr : ∀ q, 0 ≤ q → q < M → 0 ≤ g q ∧ g q < z 3 ∧ z (250 + g q) = 1 := fun q g1 g2 => by
    obtain ⟨j, j1, j2, j3⟩ := s2 q g1 g2
    rw [j3]
    exact m1 j j1 j2
  refine ⟨fun q g1 g2 => ?_, fun q q' g1 g2 g3 => ?_, fun r g1 g2 g3 => ?_⟩
  · rw [e q g1 g2]; exact inr _ (by omega) (by omega)
  · rw [e q g1 (by omega), e q' (by omega) g3]
    have := s1 (q - a) (q' - a) (by omega) (by omega) (by omega) (by omega)
    obtain ⟨x1, x2, _⟩ := inr (q - a) (by omega) (by omega)
    obtain ⟨y1, y2, _⟩ := inr (q' - a) (by omega) (by omega)
    unfold befK at this
    unfold bef
    rw [hk _ x1 x2, hk _ y1 y2] at this
    exact this
  · obtain ⟨i, i1, i2, i3⟩ := m3 r g1 g2 g3
    obtain ⟨j, j1, j2, j3⟩ := s3 i i1 i2
    exact ⟨a + j, by omega, by omega, by rw [hf j j1 j2, ← j3, i3]⟩
/-- as many files as rows in them -/
theorem LV_files {f n l d m k t z : Int → Int} (h : LV f n l d m k t z) (h5 : z 5 = 0) : t 10 ≤ sumI l (t 10).toNat := by
  obtain ⟨_, _, _, hF, hX, hT, h56⟩ := h
  have hx := hX.1 h5
  have key : ∀ j : Nat, (j : Int) ≤ t 10 → (j : Int) ≤ sumI l j := by
    intro j
    induction j with
    | zero => intro _; exact Int.le_refl _
    | succ j ih =>
      intro hj
      have := ih (by omega)
      have := (hx j (by omega) (by omega)).2
      rw [sumI]; omega
  have := key (t 10).toNat (by omega)
  omega
theorem LV_write {f f' n l d m k t t' g z : Int → Int} (hb : Vb z) (h5 : z 5 = 0) (h : LV f n l d m k t z) (hM : 0 < t 11) (hf : ∀ q, q < sumI l (t 10).toNat → f' q = f q) (hs : SrtI k m (t 11) (t 11) g) (hg : ∀ q, 0 ≤ q → q < t 11 → f' (sumI l (t 10).toNat + q) = g q) (e10 : t' 10 = t 10 + 1) (e4 : t' 4 = t 4 + 1) (e7 : t' 7 = t 7 + t 11) (e11 : t' 11 = 0) (eo : ∀ i, i ≠ 10 → i ≠ 4 → i ≠ 7 → i ≠ 11 → t' i = t i) : LV f' (uZ n (t 10) (t 4)) (uZ l (t 10) (t 11)) (uZ d (t 10) 0) m k t' (wriZ z) := by
  have hfl := LV_files h h5
  have hS := (LV_sum hb h).1
  obtain ⟨⟨t0, t1, t2, t3, t4, t5, t7, t8, t9, t6⟩, hk, hm, hF, hX, hT, h56⟩ := h
  have hz3 := hb.1
  have hr := RMm_len hm hz3
  have w3 : wriZ z 3 = z 3 := wriZ_lo (by omega) (by omega) (by omega)
  have w4 : wriZ z 4 = z 4 + 1 := by rw [wriZ_4 hz3, pz_t (by omega)]
  have w7 : wriZ z 7 = z 7 + t 11 := by rw [wriZ_7, hr]
  have wl : ∀ i, i < 250 → i ≠ 4 → i ≠ 7 → wriZ z i = z i := fun i a b c => wriZ_lo a b c
  have h120 := hb.2.1
  have hx := hX.1 h5
  unfold LV
  rw [e10, e11, w3, wl 5 (by omega) (by omega) (by omega), h5]
  refine ⟨⟨?_, ?_, ?_, ?_, ?_, ?_, ?_, ?_, ?_, fun q => ?_⟩, fun r r0 r1 => ?_, RMm_none (fun r r0 r1 => ?_), ?_, ⟨fun _ i g1 g2 => ?_, fun q => ?_⟩, by omega, h56⟩
  · rw [eo 0 (by omega) (by omega) (by omega) (by omega), wl 0 (by omega) (by omega) (by omega)]; exact t0
  · rw [eo 1 (by omega) (by omega) (by omega) (by omega), wl 1 (by omega) (by omega) (by omega)]; exact t1
  · rw [eo 2 (by omega) (by omega) (by omega) (by omega), wl 2 (by omega) (by omega) (by omega)]; exact t2
  · rw [eo 3 (by omega) (by omega) (by omega) (by omega), w3]; exact t3
  · rw [e4, w4, t4]
  · rw [eo 5 (by omega) (by omega) (by omega) (by omega), wl 5 (by omega) (by omega) (by omega)]; exact t5
  · rw [e7, w7, t7]
  · rw [eo 8 (by omega) (by omega) (by omega) (by omega), wl 8 (by omega) (by omega) (by omega)]; exact t8
  · rw [eo 9 (by omega) (by omega) (by omega) (by omega), wl 9 (by omega) (by omega) (by omega)]; exact t9
  · rw [wl 5 (by omega) (by omega) (by omega), h5] at q; omega
  · rw [wl (10 + r) (by omega) (by omega) (by omega)]; exact hk r r0 r1
  · rw [w3] at r1
    rw [wriZ_pl hz3 r0 r1]
    have := hb.2.2.1
    split <;> omega
  · rw [t4]
    exact LF_write hb hF hT.1 hM hf (FL_sorted hk hm hs hg) w3 w4 (fun r r0 r1 => wriZ_pl hz3 r0 r1) (fun r r0 r1 => wl _ (by omega) (by omega) (by omega))
  · by_cases w : i = t 10
    · rw [w, uZ_at, uZ_at]; exact ⟨rfl, hM⟩
    · rw [uZ_ne w, uZ_ne w]; exact hx i g1 (by omega)
  · rw [wl 5 (by omega) (by omega) (by omega), h5] at q; omega
/-- a row more, nowhere yet -/
theorem LV_new {f n l d m k t z z' : Int → Int} {key : Int} (h3 : 0 ≤ z 3 ∧ z 3 < 56) (h : LV f n l d m k t z) (e3 : z' 3 = z 3 + 1) (elo : ∀ i, i < 10 → i ≠ 3 → z' i = z i) (ek : ∀ r, 0 ≤ r → r < z 3 → z' (10 + r) = z (10 + r) ∧ z' (250 + r) = z (250 + r)) (nk : z' (10 + z 3) = key) (np : z' (250 + z 3) = 0) : LV f n l d m (uZ k (z 3) key) (uZ t 3 (z 3 + 1)) z' := by
  obtain ⟨⟨t0, t1, t2, t3, t4, t5, t7, t8, t9, t6⟩, hk, ⟨m0, m1, m2, m3⟩, hF, hX, hT, h56⟩ := h
  have E : ∀ i, i ≠ 3 → uZ t 3 (z 3 + 1) i = t i := fun i hi => uZ_ne hi
  have e5 := elo 5 (by omega) (by omega)
  have split : ∀ r, 0 ≤ r → r < z' 3 → r < z 3 ∨ r = z 3 := fun r r0 r1 => by omega
  unfold LV
  rw [E 10 (by omega), E 11 (by omega)]
  refine ⟨⟨?_, ?_, ?_, ?_, ?_, ?_, ?_, ?_, ?_, fun q => ?_⟩, fun r r0 r1 => ?_, ⟨m0, fun i a b => ?_, m2, fun r r0 r1 r2 => ?_⟩, LF_z hF (by rw [elo 4 (by omega) (by omega)]; exact Int.le_refl _) (fun r r0 r1 _ => ⟨by omega, (ek r r0 r1).2⟩) (fun r r0 r1 r2 => ?_) (fun r r0 r1 => (ek r r0 r1).1), ⟨fun q => hX.1 (by omega), fun q => hX.2 (by omega)⟩, by omega, by omega⟩
  · rw [E 0 (by omega), elo 0 (by omega) (by omega)]; exact t0
  · rw [E 1 (by omega), elo 1 (by omega) (by omega)]; exact t1
  · rw [E 2 (by omega), elo 2 (by omega) (by omega)]; exact t2
  · rw [uZ_at, e3]
  · rw [E 4 (by omega), elo 4 (by omega) (by omega)]; exact t4
  · rw [E 5 (by omega), e5]; exact t5
  · rw [E 7 (by omega), elo 7 (by omega) (by omega)]; exact t7
  · rw [E 8 (by omega), elo 8 (by omega) (by omega)]; exact t8
  · rw [E 9 (by omega), elo 9 (by omega) (by omega)]; exact t9
  · rw [E 6 (by omega), elo 6 (by omega) (by omega)]; exact t6 (by omega)
  · rcases split r r0 r1 with w | w
    · rw [uZ_ne (by omega), (ek r r0 w).1]; exact hk r r0 w
    · rw [w, uZ_at, nk]
  · obtain ⟨a1, a2, a3⟩ := m1 i a b
    exact ⟨a1, by omega, by rw [(ek _ a1 a2).2]; exact a3⟩
  · rcases split r r0 r1 with w | w
    · exact m3 r r0 w (by rw [← (ek r r0 w).2]; exact r2)
    · rw [w, np] at r2; omega
  · rcases split r r0 r1 with w | w
    · exact ⟨w, (ek r r0 w).2⟩
    · rw [w, np] at r2; omega
/-- the newest row goes to the memory -/
theorem LV_mem {f n l d m k t z : Int → Int} (hb : Vb z) (h : LV f n l d m k t z) (h3 : 0 < z 3) (hp : z (250 + (z 3 - 1)) = 0) (h20 : t 11 < 20) : LV f n l d (uZ m (t 11) (z 3 - 1)) k (uZ t 11 (t 11 + 1)) (uZ z (250 + (z 3 - 1)) 1) := by
  obtain ⟨⟨t0, t1, t2, t3, t4, t5, t7, t8, t9, t6⟩, hk, ⟨m0, m1, m2, m3⟩, hF, hX, hT, h56⟩ := h
  have E : ∀ i, i ≠ 11 → uZ t 11 (t 11 + 1) i = t i := fun i hi => uZ_ne hi
  have Z : ∀ i, i ≠ 250 + (z 3 - 1) → uZ z (250 + (z 3 - 1)) 1 i = z i := fun i hi => uZ_ne hi
  have z3 := Z 3 (by omega)
  have z5 := Z 5 (by omega)
  unfold LV
  rw [E 10 (by omega), uZ_at, z3, z5]
  refine ⟨⟨?_, ?_, ?_, ?_, ?_, ?_, ?_, ?_, ?_, fun q => ?_⟩, fun r r0 r1 => ?_, ⟨by omega, fun i a b => ?_, fun i j a b c => ?_, fun r r0 r1 r2 => ?_⟩, LF_z hF (by rw [Z 4 (by omega)]; exact Int.le_refl _) (fun r r0 r1 r2 => ⟨by omega, ?_⟩) (fun r r0 r1 r2 => ?_) (fun r r0 r1 => Z _ (by omega)), ⟨fun q => hX.1 (by rw [← z5]; exact q), fun q => hX.2 (by rw [← z5]; exact q)⟩, hT, h56⟩
  · rw [E 0 (by omega), Z 0 (by omega)]; exact t0
  · rw [E 1 (by omega), Z 1 (by omega)]; exact t1
  · rw [E 2 (by omega), Z 2 (by omega)]; exact t2
  · rw [E 3 (by omega), z3]; exact t3
  · rw [E 4 (by omega), Z 4 (by omega)]; exact t4
  · rw [E 5 (by omega), z5]; exact t5
  · rw [E 7 (by omega), Z 7 (by omega)]; exact t7
  · rw [E 8 (by omega), Z 8 (by omega)]; exact t8
  · rw [E 9 (by omega), Z 9 (by omega)]; exact t9
  · rw [E 6 (by omega), Z 6 (by omega)]; exact t6 (by rw [← z5]; exact q)
  · rw [Z _ (by omega)]; exact hk r r0 r1
  · rw [z3]
    by_cases w : i = t 11
    · rw [w, uZ_at, uZ_at]; omega
    · rw [uZ_ne w]
      obtain ⟨a1, a2, a3⟩ := m1 i a (by omega)
      exact ⟨a1, a2, by rw [Z _ (by intro q; rw [show m i = z 3 - 1 by omega, hp] at a3; omega)]; exact a3⟩
  · rw [uZ_ne (show i ≠ t 11 by omega)]
    by_cases w : j = t 11
    · rw [w, uZ_at]
      obtain ⟨a1, a2, a3⟩ := m1 i a (by omega)
      have : m i ≠ z 3 - 1 := fun q => by rw [q, hp] at a3; omega
      omega
    · rw [uZ_ne w]; exact m2 i j a b (by omega)
  · rw [z3] at r1
    by_cases w : r = z 3 - 1
    · exact ⟨t 11, m0.1, by omega, by rw [uZ_at, w]⟩
    · rw [Z _ (by omega)] at r2
      obtain ⟨i, i1, i2, i3⟩ := m3 r r0 r1 r2
      exact ⟨i, i1, by omega, by rw [uZ_ne (by omega)]; exact i3⟩
  · rw [Z _ (by intro q; rw [show r = z 3 - 1 by omega, hp] at r2; omega)]
  · rw [z3] at r1
    by_cases w : r = z 3 - 1
    · rw [w, uZ_at] at r2; omega
    · exact ⟨r1, Z _ (by omega)⟩
/-- the smallest run -/
theorem LF_sml {f n l d : Int → Int} {T : Int} {z : Int → Int} {a : Int} (hb : Vb z) (h : LF f n l d T z) (ha : 0 ≤ a ∧ a < T) (hd : d a = 0) (hl : 0 < l a) (hm : ∀ j, 0 ≤ j → j < T → d j = 0 → 0 < l j → l a < l j ∨ l a = l j ∧ n a ≤ n j) : smlZ z = 10 + 2 * n a ∧ 0 < manyZ z 0 := by
  have h3 := hb.1
  have h4 := hb.2.2.1
  have ea := LF_len h h3 ha hl
  have na := (h.2.1 a ha.1 ha.2 hl).2.1 (by omega)
  rw [pF_n (by omega), hd, Int.add_zero] at ea
  have pos : 0 < manyZ z 0 := by
    unfold manyZ
    refine (cnt_pos (P := fun k => 0 < rowsAt z (10 + 2 * k + 0))).mpr ⟨(n a).toNat, by omega, ?_⟩
    rw [show (((n a).toNat : Nat) : Int) = n a by omega, Int.add_zero, ea]; exact hl
  obtain ⟨s1, s2, s3, s4⟩ := sml_spec h4 pos
  refine ⟨?_, pos⟩
  have es : smlZ z = 10 + 2 * smK z (z 4).toNat := rfl
  rw [es] at s3 s4 ⊢
  generalize smK z (z 4).toNat = K at *
  obtain ⟨x, x1, x2, x3⟩ := rowsAt_pos.mp s3
  obtain ⟨j, j1, j2, j3, j4⟩ := h.2.2.2 x x1 x2 (by omega)
  obtain ⟨b1, b2, _⟩ := h.2.1 j j1 j2 j3
  have nj : d j ≠ 2 := fun q => by rw [pF_2 q] at j4; omega
  have dj : d j = 0 ∧ n j = K := by rw [pF_n nj] at j4; omega
  have ej := LF_len h h3 ⟨j1, j2⟩ j3
  rw [pF_n nj, dj.1, dj.2, Int.add_zero] at ej
  have q1 := s4 (n a) na.1 na.2 (by omega)
  have q2 := hm j j1 j2 dj.1 j3
  rw [ej, ea] at q1
  have : ¬ n a < K := fun q => by have := q1.2 q; omega
  omega
