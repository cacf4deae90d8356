/-! ===== the smallest run becomes an input ===== -/
/-- no run has the number of an input -/
def Sep (z : Int → Int) : Prop := ∀ a b, 0 ≤ a → a < z 3 → 0 ≤ b → b < z 3 → 10 ≤ z (250 + a) → z (250 + a) % 2 = 0 → z (250 + b) ≠ z (250 + a) + 1
theorem RLs_del {ne nu fi le z z' : Int → Int} {to i : Int} (h : RLs ne nu fi le to z 0) (hi : 0 ≤ i ∧ i < to) (h3 : z' 3 = z 3) (h4 : z' 4 = z 4) (hpl : ∀ r, 0 ≤ r → r < z 3 → z' (250 + r) = if z (250 + r) = 10 + 2 * nu i then 10 + 2 * nu i + 1 else z (250 + r)) (hk : ∀ r, 0 ≤ r → r < z 3 → z' (10 + r) = z (10 + r)) : RLs ne (cI nu nu (i + 1) i (to - i - 1)) (cI fi fi (i + 1) i (to - i - 1)) (cI le le (i + 1) i (to - i - 1)) (to - 1) z' 0 := by
  obtain ⟨h0, a, b, c⟩ := h
  have lo : ∀ (f : Int → Int) (k : Int), k < i → cI f f (i + 1) i (to - i - 1) k = f k := fun f k q => by unfold cI; rw [if_neg (by omega)]
  have hi2 : ∀ (f : Int → Int) (k : Int), i ≤ k → k < to - 1 → cI f f (i + 1) i (to - i - 1) k = f (k + 1) := fun f k q1 q2 => by unfold cI; rw [if_pos (by omega), show i + 1 + (k - i) = k + 1 by omega]
  have p : ∀ k, 0 ≤ k → k < to - 1 → ∃ j, 0 ≤ j ∧ j < to ∧ j ≠ i ∧ (∀ f : Int → Int, cI f f (i + 1) i (to - i - 1) k = f j) ∧ (k < i → j = k) ∧ (i ≤ k → j = k + 1) := fun k g1 g2 => by
    by_cases w : k < i
    · exact ⟨k, g1, by omega, by omega, fun f => lo f k w, fun _ => rfl, fun q => by omega⟩
    · exact ⟨k + 1, by omega, by omega, by omega, fun f => hi2 f k (by omega) g2, fun q => by omega, fun _ => rfl⟩
  refine ⟨by omega, fun k g1 g2 => ?_, fun k k' g1 g2 g3 => ?_, fun r g1 g2 g3 g4 => ?_⟩
  · obtain ⟨j, j1, j2, j3, j4, _⟩ := p k g1 g2
    obtain ⟨a1, a2, a3, a4⟩ := a j j1 j2
    have nn : nu j ≠ nu i := by
      rcases Int.lt_or_gt_of_ne j3 with q | q
      · have := b j i j1 q hi.2; omega
      · have := b i j hi.1 q j2; omega
    rw [j4 nu, j4 fi, j4 le]
    refine ⟨a1, by omega, a3, ChL_ext a4 (fun n hn => rfl) (fun r q => ?_) (fun r q1 q2 _ => hk r q1 q2)⟩
    rw [h3]
    refine ⟨fun w => ⟨w.1, ?_⟩, fun w => ⟨w.1, ?_⟩⟩
    · have w2 := w.2
      rw [hpl r q w.1] at w2
      split at w2 <;> omega
    · rw [hpl r q w.1, if_neg (by omega)]
      exact w.2
  · obtain ⟨j, j1, j2, j3, j4, j5, j6⟩ := p k g1 (by omega)
    obtain ⟨l, l1, l2, l3, l4, l5, l6⟩ := p k' (by omega) g3
    rw [j4 nu, l4 nu]
    exact b j l j1 (by omega) l2
  · rw [h3] at g2
    rw [hpl r g1 g2] at g3 g4 ⊢
    by_cases y : z (250 + r) = 10 + 2 * nu i
    · rw [if_pos y] at g4; omega
    · rw [if_neg y] at g3 g4 ⊢
      obtain ⟨j, q1, q2, q3⟩ := c r g1 g2 g3 g4
      by_cases w : j = i
      · rw [w] at q3; omega
      · by_cases w2 : j < i
        · exact ⟨j, q1, by omega, by rw [lo nu j w2]; exact q3⟩
        · exact ⟨j - 1, by omega, by omega, by rw [hi2 nu (j - 1) (by omega) (by omega), show j - 1 + 1 = j by omega]; exact q3⟩
theorem RLs_ins {ne nu nu' fi fi' le le' z z' : Int → Int} {to q K f len : Int} (h : RLs ne nu fi le to z 1) (hto : to + 1 ≤ 120) (h3 : z' 3 = z 3) (h4 : z' 4 = z 4) (hpl : ∀ r, 0 ≤ r → r < z 3 → z' (250 + r) = if z (250 + r) = 10 + 2 * K then 10 + 2 * K + 1 else z (250 + r)) (hk : ∀ r, 0 ≤ r → r < z 3 → z' (10 + r) = z (10 + r)) (hK : 0 ≤ K ∧ K < z 4) (hlen : 1 ≤ len) (hc : ChL ne z (10 + 2 * K + 0) f len) (hne : ∀ r, 0 ≤ r → r < z 3 → z (250 + r) ≠ 10 + 2 * K + 1) (hq : 0 ≤ q ∧ q ≤ to) (h1 : ∀ j, q ≤ j → j < to → K < nu j) (h2 : q = 0 ∨ nu (q - 1) ≤ K) (hl : ∀ j, 0 ≤ j → j ≤ to → nu' j = insI nu q K j ∧ fi' j = insI fi q f j ∧ le' j = insI le q len j) : RLs ne nu' fi' le' (to + 1) z' 1 := by
  obtain ⟨h0, a, b, c⟩ := h
  have new : ∀ j, 0 ≤ j → j < to → nu j ≠ K := fun j g1 g2 e => by
    obtain ⟨a1, a2, a3, a4⟩ := a j g1 g2
    obtain ⟨x1, x2, x3⟩ := a4.1 0 (by omega)
    exact hne _ x1 x2 (by rw [x3, e])
  have lo : ∀ j, 0 ≤ j → j < q → nu j < K := fun j g1 g2 => by
    have n := new j g1 (by omega)
    have : nu (q - 1) ≤ K := by omega
    by_cases w : j = q - 1
    · rw [w] at n ⊢; omega
    · have := b j (q - 1) g1 (by omega) (by omega); omega
  have p : ∀ k, 0 ≤ k → k ≤ to → (k = q ∧ nu' k = K ∧ fi' k = f ∧ le' k = len) ∨ ∃ j, 0 ≤ j ∧ j < to ∧ nu' k = nu j ∧ fi' k = fi j ∧ le' k = le j ∧ (k < q ∧ j = k ∨ q < k ∧ j = k - 1) := fun k g1 g2 => by
    obtain ⟨e1, e2, e3⟩ := hl k g1 g2
    unfold insI at e1 e2 e3
    by_cases w : k < q
    · rw [if_pos w] at e1 e2 e3
      exact Or.inr ⟨k, g1, by omega, e1, e2, e3, by omega⟩
    · rw [if_neg w] at e1 e2 e3
      by_cases w2 : k = q
      · rw [if_pos w2] at e1 e2 e3
        exact Or.inl ⟨w2, e1, e2, e3⟩
      · rw [if_neg w2] at e1 e2 e3
        exact Or.inr ⟨k - 1, by omega, by omega, e1, e2, e3, by omega⟩
  refine ⟨by omega, fun k g1 g2 => ?_, fun k k' g1 g2 g3 => ?_, fun r g1 g2 g3 g4 => ?_⟩
  · rcases p k g1 (by omega) with ⟨_, e1, e2, e3⟩ | ⟨j, j1, j2, e1, e2, e3, _⟩
    · rw [e1, e2, e3]
      refine ⟨hK.1, by omega, hlen, ChL_ext hc (fun n hn => rfl) (fun r q => ?_) (fun r q1 q2 _ => hk r q1 q2)⟩
      rw [h3]
      refine ⟨fun w => ⟨w.1, ?_⟩, fun w => ⟨w.1, ?_⟩⟩
      · have w2 := w.2
        have := hne r q w.1
        rw [hpl r q w.1] at w2
        split at w2 <;> omega
      · rw [hpl r q w.1, if_pos (by omega)]
    · obtain ⟨a1, a2, a3, a4⟩ := a j j1 j2
      have nn := new j j1 j2
      rw [e1, e2, e3]
      refine ⟨a1, by omega, a3, ChL_ext a4 (fun n hn => rfl) (fun r q => ?_) (fun r q1 q2 _ => hk r q1 q2)⟩
      rw [h3]
      refine ⟨fun w => ⟨w.1, ?_⟩, fun w => ⟨w.1, ?_⟩⟩
      · have w2 := w.2
        rw [hpl r q w.1] at w2
        split at w2 <;> omega
      · rw [hpl r q w.1, if_neg (by omega)]
        exact w.2
  · rcases p k g1 (by omega) with ⟨w, e1, _, _⟩ | ⟨j, j1, j2, e1, _, _, e⟩ <;> rcases p k' (by omega) (by omega) with ⟨w', e1', _, _⟩ | ⟨j', j1', j2', e1', _, _, e'⟩
    · omega
    · rw [e1, e1']; exact h1 j' (by omega) j2'
    · rw [e1, e1']; exact lo j j1 (by omega)
    · rw [e1, e1']; exact b j j' j1 (by omega) j2'
  · rw [h3] at g2
    by_cases y : z (250 + r) = 10 + 2 * K
    · refine ⟨q, hq.1, by omega, ?_⟩
      rcases p q hq.1 hq.2 with ⟨_, e1, _⟩ | ⟨j, _, _, _, _, _, e⟩
      · rw [hpl r g1 g2, if_pos y, e1]
      · omega
    · rw [hpl r g1 g2, if_neg y] at g3 g4 ⊢
      obtain ⟨j, q1, q2, q3⟩ := c r g1 g2 g3 g4
      by_cases w : j < q
      · refine ⟨j, q1, by omega, ?_⟩
        rcases p j q1 (by omega) with ⟨e, _⟩ | ⟨j', _, _, e1, _, _, e⟩
        · omega
        · rw [e1, show j' = j by omega]; exact q3
      · refine ⟨j + 1, by omega, by omega, ?_⟩
        rcases p (j + 1) (by omega) (by omega) with ⟨e, _⟩ | ⟨j', _, _, e1, _, _, e⟩
        · omega
        · rw [e1, show j' = j by omega]; exact q3
/-- the smallest run of the list is the reference's -/
theorem sml_is {ne nu fi le z : Int → Int} {to i : Int} (hb : Vb z) (h : RLs ne nu fi le to z 0) (hi : 0 ≤ i ∧ i < to) (hm : ∀ j, 0 ≤ j → j < to → le i ≤ le j) (hm2 : ∀ j, 0 ≤ j → j < i → le i < le j) : smlZ z = 10 + 2 * nu i := by
  obtain ⟨b1, b2, b3, b4, b5⟩ := hb
  have hc := RLs_many h b1 b3 (Or.inl rfl)
  obtain ⟨s1, s2, s3, s4⟩ := sml_spec b3 (by omega : 0 < manyZ z 0)
  have len : ∀ j, 0 ≤ j → j < to → rowsAt z (10 + 2 * nu j) = le j := fun j g1 g2 => by
    obtain ⟨a1, a2, a3, a4⟩ := h.2.1 j g1 g2
    have := ChL_len a4 (by omega) b1
    rw [Int.add_zero] at this
    exact this
  unfold smlZ at s3 s4 ⊢
  obtain ⟨r, r1, r2, r3⟩ := rowsAt_pos.mp s3
  obtain ⟨j, j1, j2, j3⟩ := h.2.2.2 r r1 r2 (by omega) (by omega)
  have ej : nu j = smK z (z 4).toNat := by omega
  have li := len i hi.1 hi.2
  have lj := len j j1 j2
  obtain ⟨a1, a2, a3, a4⟩ := h.2.1 i hi.1 hi.2
  obtain ⟨t1, t2⟩ := s4 (nu i) a1 a2 (by omega)
  have m1 := hm j j1 j2
  rw [ej] at lj
  rcases Int.lt_trichotomy j i with w | w | w
  · have := hm2 j j1 w
    omega
  · rw [← w, ej]
  · have := h.2.2.1 i j hi.1 w j2
    have := t2 (by omega)
    omega
theorem Rep_beg {s : SS} {z nu fi le : Int → Int} {i q : Int} (hb : Vb z) (h : Rep s z) (hs : Sep z) (hi : 0 ≤ i ∧ i < s.1 17) (hm : ∀ j, 0 ≤ j → j < s.1 17 → s.2 5 i ≤ s.2 5 j) (hm2 : ∀ j, 0 ≤ j → j < i → s.2 5 i < s.2 5 j) (hto : s.1 18 + 1 ≤ 120) (hq : 0 ≤ q ∧ q ≤ s.1 18) (h1 : ∀ j, q ≤ j → j < s.1 18 → s.2 3 i < s.2 6 j) (h2 : q = 0 ∨ s.2 6 (q - 1) ≤ s.2 3 i) (hl : ∀ j, 0 ≤ j → j ≤ s.1 18 → nu j = insI (s.2 6) q (s.2 3 i) j ∧ fi j = insI (s.2 7) q (s.2 4 i) j ∧ le j = insI (s.2 8) q (s.2 5 i) j) : Rep (sS (sS (sA (sA (sA (sA (sA (sA s 3 (cI (s.2 3) (s.2 3) (i + 1) i (s.1 17 - i - 1))) 4 (cI (s.2 4) (s.2 4) (i + 1) i (s.1 17 - i - 1))) 5 (cI (s.2 5) (s.2 5) (i + 1) i (s.1 17 - i - 1))) 6 nu) 7 fi) 8 le) 17 (s.1 17 - 1)) 18 (s.1 18 + 1)) (mvZ z (smlZ z)) ∧ Sep (mvZ z (smlZ z)) := by
  have ⟨⟨t1, t2⟩, ⟨c1, c2, c3, c4, c5, c6, c7, c8⟩, hm', hd, hin, ho⟩ := h
  have e := sml_is hb hd hi hm hm2
  obtain ⟨k1, k2, k3, k4⟩ := hd.2.1 i hi.1 hi.2
  have pl : ∀ r, 0 ≤ r → r < z 3 → mvZ z (10 + 2 * s.2 3 i) (250 + r) = if z (250 + r) = 10 + 2 * s.2 3 i then 10 + 2 * s.2 3 i + 1 else z (250 + r) := fun r g1 g2 => mvZ_pl g1 g2
  have lo : ∀ j, j < 250 → mvZ z (10 + 2 * s.2 3 i) j = z j := fun j g => mvZ_lo g
  have b3 := hb.2.1
  have row : ∃ r, 0 ≤ r ∧ r < z 3 ∧ z (250 + r) = 10 + 2 * s.2 3 i := by
    obtain ⟨x1, x2, x3⟩ := k4.1 0 (by omega)
    exact ⟨_, x1, x2, by omega⟩
  obtain ⟨r0, r1, r2, r3⟩ := row
  have nin : ∀ r, 0 ≤ r → r < z 3 → z (250 + r) ≠ 10 + 2 * s.2 3 i + 1 := fun r g1 g2 => by
    have := hs r0 r r1 r2 g1 g2 (by omega) (by omega)
    rw [r3] at this
    exact this
  rw [e]
  have hk : ∀ r, 0 ≤ r → r < z 3 → mvZ z (10 + 2 * s.2 3 i) (10 + r) = z (10 + r) := fun r g1 g2 => lo _ (by omega)
  have hsm : ∀ r, 0 ≤ r → r < z 3 → ∀ p, p < 10 → (mvZ z (10 + 2 * s.2 3 i) (250 + r) = p ↔ z (250 + r) = p) := fun r g1 g2 p hp => by
    rw [pl r g1 g2]
    split <;> omega
  refine ⟨⟨⟨?_, fun r g1 g2 => ?_⟩, ?_, ?_, ?_, ?_, ?_⟩, ?_⟩
  · rw [lo 3 (by omega)]; exact t1
  · rw [lo 3 (by omega)] at g2
    rw [lo _ (by omega), lo _ (by omega)]
    exact t2 r g1 g2
  · unfold RSc
    rw [lo 1 (by omega), lo 2 (by omega), lo 0 (by omega), lo 6 (by omega), lo 7 (by omega), lo 8 (by omega), lo 9 (by omega), lo 4 (by omega)]
    exact ⟨c1, c2, c3, c4, c5, c6, c7, c8⟩
  · obtain ⟨w1, w2, w3, w4⟩ := hm'
    refine ⟨w1, fun j g1 g2 => ?_, w3, fun r g1 g2 g3 => ?_⟩
    · obtain ⟨y1, y2, y3⟩ := w2 j g1 g2
      rw [lo 3 (by omega)]
      exact ⟨y1, y2, (hsm _ y1 y2 1 (by omega)).mpr y3⟩
    · rw [lo 3 (by omega)] at g2
      exact w4 r g1 g2 ((hsm r g1 g2 1 (by omega)).mp g3)
  · exact RLs_del hd hi (lo 3 (by omega)) (lo 4 (by omega)) pl hk
  · exact RLs_ins hin hto (lo 3 (by omega)) (lo 4 (by omega)) pl hk ⟨k1, k2⟩ k3 k4 nin hq h1 h2 hl
  · refine ⟨ho.1, ChL_ext ho.2.1 (fun _ _ => rfl) (fun r g => ?_) (fun r g1 g2 _ => hk r g1 g2), ho.2.2⟩
    rw [lo 3 (by omega)]
    refine ⟨fun w => ⟨w.1, (hsm r g w.1 2 (by omega)).mp w.2⟩, fun w => ⟨w.1, (hsm r g w.1 2 (by omega)).mpr w.2⟩⟩
  · intro a b a1 a2 b1 b2 a3 a4
    rw [lo 3 (by omega)] at a2 b2
    have ha := hs a b a1 a2 b1 b2
    have ha2 := hs b a b1 b2 a1 a2
    have na := nin a a1 a2
    rw [pl a a1 a2] at a3 a4 ⊢
    rw [pl b b1 b2]
    by_cases w : z (250 + a) = 10 + 2 * s.2 3 i
    · rw [if_pos w] at a4; omega
    · rw [if_neg w] at a3 a4 ⊢
      have := ha a3 a4
      split <;> omega
theorem Sep_0 {z : Int → Int} (h3 : 0 ≤ z 3) (h : riZ z = 0) : Sep z := fun a b a1 a2 b1 b2 a3 a4 e => (riZ_0 h3).mp h b b1 b2 ⟨by omega, by omega⟩
theorem sS_cm {s : SS} {k j : Nat} {v w : Int} (h : k ≠ j) : sS (sS s k v) j w = sS (sS s j w) k v := sS_comm h
