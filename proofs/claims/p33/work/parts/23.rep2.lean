/-! ===== what stands at a place becomes a run ===== -/
theorem Vb_pl {z : Int → Int} (hb : Vb z) {r : Int} (h0 : 0 ≤ r) (h : r < z 3) : 0 ≤ z (250 + r) ∧ (z (250 + r) ≤ 2 ∨ 10 ≤ z (250 + r) ∧ z (250 + r) < 10 + 2 * z 4) := hb.2.2.2.2 r h0 h
theorem RLs_new {ne ne' nu nu' fi fi' le le' z z' : Int → Int} {p to f len : Int} (hb : Vb z) (h : RLs ne nu fi le to z 0) (hl : ∀ i, 0 ≤ i → i < to → nu' i = nu i ∧ fi' i = fi i ∧ le' i = le i) (hne : ∀ r, 0 ≤ r → r < z 3 → z (250 + r) ≠ p → ne' r = ne r) (h3 : z' 3 = z 3) (h4 : z' 4 = z 4 + 1) (hpl : ∀ r, 0 ≤ r → r < z 3 → z' (250 + r) = if z (250 + r) = p then 10 + 2 * z 4 else z (250 + r)) (hk : ∀ r, 0 ≤ r → r < z 3 → z' (10 + r) = z (10 + r)) (hp : p < 10 ∨ p % 2 = 1) (e1 : nu' to = z 4) (e2 : fi' to = f) (e3 : le' to = len) (hlen : 1 ≤ len) (hc : ChL ne' z p f len) : RLs ne' nu' fi' le' (to + 1) z' 0 := by
  have ⟨b1, b2, b3, b4, b5⟩ := hb
  have hx := hc.1 0 (by omega)
  have hto := RLs_few h b1 (Or.inl rfl) hx.1 hx.2.1 (by omega)
  refine RLs_app h hl (fun r g1 g2 g3 g4 => hne r g1 g2 (by omega)) (fun r g => ?_) (fun r g1 g2 g3 g4 => ⟨by rw [hpl r g1 g2, if_neg (by omega)], hk r g1 g2⟩) h4 b3 (Or.inl rfl) (by omega) e1 e2 e3 hlen (ChL_ext hc (fun _ _ => rfl) (fun r g => ?_) (fun r g1 g2 g3 => hk r g1 g2))
  · rw [h3]
    by_cases c : r < z 3
    · have b := b5 r g c
      rw [hpl r g c]
      split <;> omega
    · omega
  · rw [h3]
    by_cases c : r < z 3
    · have b := b5 r g c
      rw [hpl r g c]
      split <;> omega
    · omega
theorem RLs_oth {ne ne' nu fi le z z' : Int → Int} {p to : Int} (hb : Vb z) (h : RLs ne nu fi le to z 1) (hne : ∀ r, 0 ≤ r → r < z 3 → z (250 + r) ≠ p → ne' r = ne r) (h3 : z' 3 = z 3) (h4 : z' 4 = z 4 + 1) (hpl : ∀ r, 0 ≤ r → r < z 3 → z' (250 + r) = if z (250 + r) = p then 10 + 2 * z 4 else z (250 + r)) (hk : ∀ r, 0 ≤ r → r < z 3 → z' (10 + r) = z (10 + r)) (hp : p < 10) : RLs ne' nu fi le to z' 1 := by
  have ⟨b1, b2, b3, b4, b5⟩ := hb
  refine RLs_keep h (fun _ _ _ => ⟨rfl, rfl, rfl⟩) (fun r g1 g2 g3 g4 => hne r g1 g2 (by omega)) (fun r g => ?_) (fun r g1 g2 g3 g4 => ⟨by rw [hpl r g1 g2, if_neg (by omega)], hk r g1 g2⟩) (by omega) (Or.inr rfl)
  rw [h3]
  by_cases c : r < z 3
  · rw [hpl r g c]
    split <;> omega
  · omega
/-- the first of the inputs is no input any more: the others stay -/
theorem RLs_tail {ne ne' nu fi le z z' : Int → Int} {to : Int} (hb : Vb z) (h : RLs ne nu fi le to z 1) (hto : 0 < to) (hne : ∀ r, 0 ≤ r → r < z 3 → z (250 + r) ≠ 11 + 2 * nu 0 → ne' r = ne r) (h3 : z' 3 = z 3) (h4 : z' 4 = z 4 + 1) (hpl : ∀ r, 0 ≤ r → r < z 3 → z' (250 + r) = if z (250 + r) = 11 + 2 * nu 0 then 10 + 2 * z 4 else z (250 + r)) (hk : ∀ r, 0 ≤ r → r < z 3 → z' (10 + r) = z (10 + r)) : RLs ne' (fun i => nu (1 + i)) (fun i => fi (1 + i)) (fun i => le (1 + i)) (to - 1) z' 1 := by
  have ⟨b1, b2, b3, b4, b5⟩ := hb
  obtain ⟨h0, a, b, c⟩ := h
  refine ⟨by omega, fun i h1 h2 => ?_, fun i j h1 h2 h5 => b _ _ (by omega) (by omega) (by omega), fun r h1 h2 h5 h6 => ?_⟩
  · obtain ⟨a1, a2, a3, a4⟩ := a (1 + i) (by omega) (by omega)
    have n0 := b 0 (1 + i) (by omega) (by omega) (by omega)
    dsimp only
    refine ⟨a1, by omega, a3, ChL_ext a4 (fun j hj => ?_) (fun r g => ?_) (fun r g1 g2 g3 => hk r g1 g2)⟩
    · obtain ⟨q1, q2, q3⟩ := a4.1 j (by omega)
      exact hne _ q1 q2 (by omega)
    · rw [h3]
      by_cases k : r < z 3
      · rw [hpl r g k]
        split <;> omega
      · omega
  · rw [h3] at h2
    rw [hpl r h1 h2] at h5 h6 ⊢
    by_cases q : z (250 + r) = 11 + 2 * nu 0
    · rw [if_pos q] at h6; omega
    · rw [if_neg q] at h5 h6 ⊢
      obtain ⟨i, g1, g2, g3⟩ := c r h1 h2 h5 h6
      by_cases k : i = 0
      · rw [k] at g3; omega
      · exact ⟨i - 1, by omega, by omega, by dsimp only; rw [show 1 + (i - 1) = i by omega]; exact g3⟩
theorem RMm_oth {mr z z' : Int → Int} {m p : Int} (hb : Vb z) (h : RMm mr m z) (h3 : z' 3 = z 3) (hpl : ∀ r, 0 ≤ r → r < z 3 → z' (250 + r) = if z (250 + r) = p then 10 + 2 * z 4 else z (250 + r)) (hp : p ≠ 1) : RMm mr m z' := by
  have ⟨b1, b2, b3, b4, b5⟩ := hb
  obtain ⟨h0, a, b, c⟩ := h
  refine ⟨h0, fun i h1 h2 => ?_, b, fun r h1 h2 h4 => ?_⟩
  · obtain ⟨a1, a2, a3⟩ := a i h1 h2
    exact ⟨a1, by omega, by rw [hpl _ a1 a2, if_neg (by omega)]; exact a3⟩
  · rw [h3] at h2
    rw [hpl r h1 h2] at h4
    split at h4
    · omega
    · exact c r h1 h2 h4
theorem RMm_none {mr z : Int → Int} (h : ∀ r, 0 ≤ r → r < z 3 → z (250 + r) ≠ 1) : RMm mr 0 z := ⟨by omega, fun i h1 h2 => by omega, fun i j h1 h2 h3 => by omega, fun r h1 h2 h3 => absurd h3 (h r h1 h2)⟩
theorem ROu_none {ne z : Int → Int} {a b : Int} (h : ∀ r, 0 ≤ r → r < z 3 → z (250 + r) ≠ 2) : ROu ne z a b 0 := ⟨by omega, ⟨fun j hj => by omega, fun j k h1 h2 => by omega, fun r h1 h2 h3 => absurd h3 (h r h1 h2)⟩, fun q => by omega⟩
theorem ROu_oth {ne ne' z z' : Int → Int} {a b c p : Int} (hb : Vb z) (h : ROu ne z a b c) (hne : ∀ r, 0 ≤ r → r < z 3 → z (250 + r) ≠ p → ne' r = ne r) (h3 : z' 3 = z 3) (hpl : ∀ r, 0 ≤ r → r < z 3 → z' (250 + r) = if z (250 + r) = p then 10 + 2 * z 4 else z (250 + r)) (hk : ∀ r, 0 ≤ r → r < z 3 → z' (10 + r) = z (10 + r)) (hp : p ≠ 2) : ROu ne' z' a b c := by
  have ⟨b1, b2, b3, b4, b5⟩ := hb
  obtain ⟨h0, hc, hl⟩ := h
  have hn : ∀ j : Nat, (j : Int) + 1 < c → ne' (chn ne a j) = ne (chn ne a j) := fun j hj => by
    obtain ⟨q1, q2, q3⟩ := hc.1 j (by omega)
    exact hne _ q1 q2 (by omega)
  refine ⟨h0, ChL_ext hc hn (fun r g => ?_) (fun r g1 g2 g3 => hk r g1 g2), fun q => ?_⟩
  · rw [h3]
    by_cases k : r < z 3
    · rw [hpl r g k]
      split <;> omega
    · omega
  · rw [hl q, chn_keep (fun i hi => hn i (by omega))]
theorem Rep_close {s : SS} {z nu fi le : Int → Int} (hb : Vb z) (h : Rep s z) (h11 : 0 < s.1 11) (hl : ∀ j, 0 ≤ j → j < s.1 17 → nu j = s.2 3 j ∧ fi j = s.2 4 j ∧ le j = s.2 5 j) (e1 : nu (s.1 17) = s.1 15) (e2 : fi (s.1 17) = s.1 9) (e3 : le (s.1 17) = s.1 11) : Rep (sS (sS (sS (sA (sA (sA s 3 nu) 4 fi) 5 le) 15 (s.1 15 + 1)) 17 (s.1 17 + 1)) 11 0) (becm z 2) := by
  obtain ⟨⟨t1, t2⟩, ⟨c1, c2, c3, c4, c5, c6, c7, c8⟩, hm, hr, hi, ho⟩ := h
  have ⟨b1, b2, b3, b4, b5⟩ := hb
  have k4 : becm z 2 4 = z 4 + 1 := becm_4
  have k3 : becm z 2 3 = z 3 := becm_lo (by omega) (by omega)
  have kl : ∀ r : Int, 0 ≤ r → r < z 3 → becm z 2 (10 + r) = z (10 + r) := fun r g1 g2 => becm_lo (by omega) (by omega)
  have kc : ∀ r : Int, 0 ≤ r → r < z 3 → becm z 2 (130 + r) = z (130 + r) := fun r g1 g2 => becm_lo (by omega) (by omega)
  have kp : ∀ r : Int, 0 ≤ r → r < z 3 → becm z 2 (250 + r) = if z (250 + r) = 2 then 10 + 2 * z 4 else z (250 + r) := fun r g1 g2 => becm_pl g1 g2
  have lo : ∀ i : Int, i < 4 ∨ (4 < i ∧ i < 10) → becm z 2 i = z i := fun i g => becm_lo (by omega) (by omega)
  refine ⟨⟨?_, fun r g1 g2 => ?_⟩, ⟨?_, ?_, ?_, ?_, ?_, ?_, ?_, ?_⟩, ?_, ?_, ?_, ?_⟩
  · rw [k3]; exact t1
  · rw [k3] at g2
    rw [kl r g1 g2, kc r g1 g2]
    exact t2 r g1 g2
  · rw [lo 1 (by omega)]; exact c1
  · rw [lo 2 (by omega)]; exact c2
  · rw [lo 0 (by omega)]; exact c3
  · rw [lo 6 (by omega)]; exact c4
  · rw [lo 7 (by omega)]; exact c5
  · rw [lo 8 (by omega)]; exact c6
  · rw [lo 9 (by omega)]; exact c7
  · rw [k4, ← c8]; rfl
  · exact RMm_oth hb hm k3 kp (by omega)
  · exact RLs_new (nu' := nu) (fi' := fi) (le' := le) hb hr hl (fun _ _ _ _ => rfl) k3 k4 kp kl (by omega) (by rw [e1, c8]) e2 e3 (by omega) ho.2.1
  · exact RLs_oth hb hi (fun _ _ _ _ => rfl) k3 k4 kp kl (by omega)
  · exact ROu_none (fun r g1 g2 => by
      rw [k3] at g2
      rw [kp r g1 g2]
      split <;> omega)
theorem RLs_few2 {s : SS} {z : Int → Int} (hb : Vb z) (h : Rep s z) (h11 : 0 < s.1 11) : (0 ≤ s.1 17 ∧ s.1 17 < 120) ∧ ∀ i, 0 ≤ i → i < s.1 17 → s.2 3 i < s.1 15 := by
  obtain ⟨⟨t1, t2⟩, ⟨c1, c2, c3, c4, c5, c6, c7, c8⟩, hm, hr, hi, ho⟩ := h
  have ⟨b1, b2, b3, b4, b5⟩ := hb
  obtain ⟨a, b, c⟩ := ho.2.1.1 0 (by omega)
  have := RLs_few hr b1 (Or.inl rfl) a b (by omega)
  exact ⟨⟨hr.1.1, by omega⟩, fun i g1 g2 => by have := (hr.2.1 i g1 g2).2.1; omega⟩
theorem Rep_n11 {s : SS} {z : Int → Int} (hb : Vb z) (h : Rep s z) : rowsAt z 2 = s.1 11 := ChL_len h.2.2.2.2.2.2.1 h.2.2.2.2.2.1 hb.1
theorem Rep_n6 {s : SS} {z : Int → Int} (hb : Vb z) (h : Rep s z) : rowsAt z 1 = s.1 6 := RMm_len h.2.2.1 hb.1
theorem sS_same {s : SS} {k : Nat} {v : Int} (h : s.1 k = v) : sS s k v = s := by rw [← h]; exact sS_self
