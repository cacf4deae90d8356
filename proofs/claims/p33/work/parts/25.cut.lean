/-! ===== the merge that is cut short ===== -/
theorem RLs_congr {ne nu nu' fi fi' le le' z : Int → Int} {to kind : Int} (h : RLs ne nu fi le to z kind) (hl : ∀ i, 0 ≤ i → i < to → nu' i = nu i ∧ fi' i = fi i ∧ le' i = le i) : RLs ne nu' fi' le' to z kind := by
  obtain ⟨h0, a, b, c⟩ := h
  refine ⟨h0, fun i h1 h2 => ?_, fun i j h1 h2 h3 => ?_, fun r h1 h2 h3 h4 => ?_⟩
  · obtain ⟨e1, e2, e3⟩ := hl i h1 h2
    rw [e1, e2, e3]
    exact a i h1 h2
  · rw [(hl i h1 (by omega)).1, (hl j (by omega) h3).1]
    exact b i j h1 h2 h3
  · obtain ⟨i, g1, g2, g3⟩ := c r h1 h2 h3 h4
    exact ⟨i, g1, g2, by rw [(hl i g1 g2).1]; exact g3⟩
def RepI (k m : Int) (u s : SS) (z : Int → Int) : Prop := (RTb s z ∧ RSc s z ∧ RMm (s.2 9) (s.1 6) z ∧ RLs (s.2 2) (s.2 3) (s.2 4) (s.2 5) (s.1 17) z 0 ∧ RLs (s.2 2) (fun i => u.2 6 (k + i)) (fun i => u.2 7 (k + i)) (fun i => u.2 8 (k + i)) (m - k) z 1 ∧ ROu (s.2 2) z (s.1 9) (s.1 10) (s.1 11)) ∧ s.1 18 = m ∧ s.2 6 = u.2 6 ∧ s.2 7 = u.2 7 ∧ s.2 8 = u.2 8
theorem RepI_0 {u : SS} {z : Int → Int} (h : Rep u z) : RepI 0 (u.1 18) u u z := by
  obtain ⟨h1, h2, h3, h4, h5, h6⟩ := h
  refine ⟨⟨h1, h2, h3, h4, ?_, h6⟩, rfl, rfl, rfl, rfl⟩
  rw [Int.sub_zero]
  exact RLs_congr h5 (fun i _ _ => by rw [Int.zero_add]; exact ⟨rfl, rfl, rfl⟩)
theorem RepI_step {k m : Int} {u s : SS} {z nu fi le : Int → Int} (hb : Vb z) (hk : k < m) (h : RepI k m u s z) (hl : ∀ j, 0 ≤ j → j < s.1 17 → nu j = s.2 3 j ∧ fi j = s.2 4 j ∧ le j = s.2 5 j) (e1 : nu (s.1 17) = s.1 15) (e2 : fi (s.1 17) = u.2 7 k) (e3 : le (s.1 17) = u.2 8 k) : RepI (k + 1) m u (sS (sS (sA (sA (sA s 3 nu) 4 fi) 5 le) 15 (s.1 15 + 1)) 17 (s.1 17 + 1)) (becm z (11 + 2 * u.2 6 k)) := by
  obtain ⟨⟨⟨t1, t2⟩, ⟨c1, c2, c3, c4, c5, c6, c7, c8⟩, hm, hr, hi, ho⟩, f1, f2, f3, f4⟩ := h
  have ⟨b1, b2, b3, b4, b5⟩ := hb
  have hi0 := hi.2.1 0 (by omega) (by omega)
  dsimp only at hi0
  rw [show k + 0 = k by omega] at hi0
  obtain ⟨i1, i2, i3, i4⟩ := hi0
  rw [show 10 + 2 * u.2 6 k + 1 = 11 + 2 * u.2 6 k by omega] at i4
  have k4 : becm z (11 + 2 * u.2 6 k) 4 = z 4 + 1 := becm_4
  have k3 : becm z (11 + 2 * u.2 6 k) 3 = z 3 := becm_lo (by omega) (by omega)
  have kl : ∀ r : Int, 0 ≤ r → r < z 3 → becm z (11 + 2 * u.2 6 k) (10 + r) = z (10 + r) := fun r g1 g2 => becm_lo (by omega) (by omega)
  have kc : ∀ r : Int, 0 ≤ r → r < z 3 → becm z (11 + 2 * u.2 6 k) (130 + r) = z (130 + r) := fun r g1 g2 => becm_lo (by omega) (by omega)
  have kp : ∀ r : Int, 0 ≤ r → r < z 3 → becm z (11 + 2 * u.2 6 k) (250 + r) = if z (250 + r) = 11 + 2 * u.2 6 k then 10 + 2 * z 4 else z (250 + r) := fun r g1 g2 => becm_pl g1 g2
  have lo : ∀ i : Int, i < 4 ∨ (4 < i ∧ i < 10) → becm z (11 + 2 * u.2 6 k) i = z i := fun i g => becm_lo (by omega) (by omega)
  refine ⟨⟨⟨?_, fun r g1 g2 => ?_⟩, ⟨?_, ?_, ?_, ?_, ?_, ?_, ?_, ?_⟩, ?_, ?_, ?_, ?_⟩, f1, f2, f3, f4⟩
  · rw [k3]; exact t1
  · rw [k3] at g2
    rw [kl r g1 g2, kc r g1 g2]
    exact t2 r g1 g2
  · rw [lo 1 (by omega)]; exact c1
  · rw [lo 2 (by omega)]; exact c2
  · rw [lo 0 (by omega)]; exact c3
  · rw [lo 6 (by omega)]; exact c4
  · rw [lo 7 (by omega)]; exact c5
  · rw [lo 8 (by omega)]; exact c6
  · rw [lo 9 (by omega)]; exact c7
  · rw [k4, ← c8]; rfl
  · exact RMm_oth hb hm k3 kp (by omega)
  · exact RLs_new (nu' := nu) (fi' := fi) (le' := le) hb hr hl (fun _ _ _ _ => rfl) k3 k4 kp kl (by omega) (by rw [e1, c8]) e2 e3 (by omega) i4
  · have q := RLs_tail (ne' := s.2 2) (z' := becm z (11 + 2 * u.2 6 k)) hb hi (by omega) (fun _ _ _ _ => rfl) k3 k4 (by rw [show k + 0 = k by omega]; exact kp) kl
    rw [show m - k - 1 = m - (k + 1) by omega] at q
    exact RLs_congr q (fun i _ _ => by rw [show k + (1 + i) = k + 1 + i by omega]; exact ⟨rfl, rfl, rfl⟩)
  · exact ROu_oth hb ho (fun _ _ _ _ => rfl) k3 kp kl (by omega)
theorem RepI_few {k m : Int} {u s : SS} {z : Int → Int} (hb : Vb z) (hk : k < m) (h : RepI k m u s z) : (0 ≤ s.1 17 ∧ s.1 17 < 120) ∧ ∀ i, 0 ≤ i → i < s.1 17 → s.2 3 i < s.1 15 := by
  obtain ⟨⟨⟨t1, t2⟩, ⟨c1, c2, c3, c4, c5, c6, c7, c8⟩, hm, hr, hi, ho⟩, f1, f2, f3, f4⟩ := h
  have ⟨b1, b2, b3, b4, b5⟩ := hb
  obtain ⟨i1, i2, i3, i4⟩ := hi.2.1 0 (by omega) (by omega)
  obtain ⟨a, b, c⟩ := i4.1 0 (by dsimp only at i3 ⊢; omega)
  have := RLs_few hr b1 (Or.inl rfl) a b (by omega)
  exact ⟨⟨hr.1.1, by omega⟩, fun i g1 g2 => by have := (hr.2.1 i g1 g2).2.1; omega⟩
theorem RepI_end {m : Int} {u s : SS} {z z' : Int → Int} (h : RepI m m u s z) (hz : ∀ i, i ≠ 5 → i ≠ 9 → z' i = z i) (h9 : z' 9 = z 9 + 1) : Rep (sS (sS s 14 (s.1 14 + 1)) 18 0) z' := by
  obtain ⟨⟨⟨t1, t2⟩, ⟨c1, c2, c3, c4, c5, c6, c7, c8⟩, hm, hr, hi, ho⟩, f1, f2, f3, f4⟩ := h
  have h3 : z' 3 = z 3 := hz 3 (by omega) (by omega)
  have h4 : z 4 ≤ z' 4 := by rw [hz 4 (by omega) (by omega)]; exact Int.le_refl _
  have hp : ∀ r : Int, 0 ≤ r → z' (250 + r) = z (250 + r) := fun r g => hz _ (by omega) (by omega)
  have hk : ∀ r : Int, 0 ≤ r → z' (10 + r) = z (10 + r) := fun r g => hz _ (by omega) (by omega)
  rw [show m - m = (0 : Int) by omega] at hi
  refine ⟨⟨by rw [h3]; exact t1, fun r g1 g2 => ?_⟩, ⟨?_, ?_, ?_, ?_, ?_, ?_, ?_, ?_⟩, RMm_z hm h3 hp, RLs_z hr h3 h4 hp hk, RLs_congr (RLs_z hi h3 h4 hp hk) (fun i g1 g2 => absurd (show i < (0 : Int) from g2) (by omega)), ROu_z ho h3 hp hk⟩
  · rw [hk r g1, hz (130 + r) (by omega) (by omega)]
    exact t2 r g1 (by omega)
  · rw [hz 1 (by omega) (by omega)]; exact c1
  · rw [hz 2 (by omega) (by omega)]; exact c2
  · rw [hz 0 (by omega) (by omega)]; exact c3
  · rw [hz 6 (by omega) (by omega)]; exact c4
  · rw [hz 7 (by omega) (by omega)]; exact c5
  · rw [hz 8 (by omega) (by omega)]; exact c6
  · rw [h9, ← c7]; rfl
  · rw [hz 4 (by omega) (by omega)]; exact c8
