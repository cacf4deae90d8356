/-! ===== a row is collected ===== -/
def newZ (z : Int → Int) (key c : Int) : Int → Int := uZ (uZ (uZ (uZ z 3 (z 3 + 1)) (10 + z 3) key) (130 + z 3) c) (250 + z 3) 0
theorem newZ_lo {z : Int → Int} {key c i : Int} (h3 : i ≠ 3) (h1 : i ≠ 10 + z 3) (h2 : i ≠ 130 + z 3) (h4 : i ≠ 250 + z 3) : newZ z key c i = z i := by
  unfold newZ
  rw [uZ_ne h4, uZ_ne h2, uZ_ne h1, uZ_ne h3]
theorem newZ_3 {z : Int → Int} {key c : Int} (hz : 0 ≤ z 3) : newZ z key c 3 = z 3 + 1 := by
  unfold newZ
  rw [uZ_ne (by omega), uZ_ne (by omega), uZ_ne (by omega), uZ_at]
theorem newZ_p {z : Int → Int} {key c : Int} : newZ z key c (250 + z 3) = 0 := uZ_at
theorem newZ_k {z : Int → Int} {key c : Int} : newZ z key c (10 + z 3) = key := by
  unfold newZ
  rw [uZ_ne (by omega), uZ_ne (by omega), uZ_at]
theorem newZ_c {z : Int → Int} {key c : Int} : newZ z key c (130 + z 3) = c := by
  unfold newZ
  rw [uZ_ne (by omega), uZ_at]
theorem newZ_Vb {z : Int → Int} {key c : Int} (hb : Vb z) (h : z 3 < 120) : Vb (newZ z key c) := by
  have ⟨b1, b2, b3, b4, b5⟩ := hb
  unfold Vb
  rw [newZ_3 b1, newZ_lo (i := 4) (by omega) (by omega) (by omega) (by omega)]
  refine ⟨by omega, by omega, b3, b4, fun r g1 g2 => ?_⟩
  by_cases q : r = z 3
  · rw [q, newZ_p]; omega
  · rw [newZ_lo (by omega) (by omega) (by omega) (by omega)]
    exact b5 r g1 (by omega)
theorem newZ_rows {z : Int → Int} {key c p : Int} (hb : Vb z) (h3 : z 3 < 120) (hp : p ≠ 0) : rowsAt (newZ z key c) p = rowsAt z p := by
  have ⟨b1, b2, b3, b4, b5⟩ := hb
  unfold rowsAt
  rw [newZ_3 b1, sumI_S b1, newZ_p, pz_f (Ne.symm hp), Int.add_zero]
  refine sumI_cong (fun r g1 => ?_)
  have g2 : (r : Int) < z 3 := by omega
  rw [newZ_lo (i := 250 + (r : Int)) (by omega) (by omega) (by omega) (by omega)]
theorem Rep_new {s : SS} {z cs ne : Int → Int} {key c : Int} (hb : Vb z) (h : Rep s z) (h3 : z 3 < 120) (hcs : cs (z 3) = c ∧ ∀ r, 0 ≤ r → r < z 3 → cs r = s.2 1 r) (hne : ∀ r, 0 ≤ r → r < z 3 → ne r = s.2 2 r) : Rep (sS (sA (sA (sA s 0 (uZ (s.2 0) (s.1 16) key)) 1 cs) 2 ne) 16 (s.1 16 + 1)) (newZ z key c) := by
  obtain ⟨⟨t1, t2⟩, ⟨c1, c2, c3, c4, c5, c6, c7, c8⟩, hm, hr, hi, ho⟩ := h
  have ⟨b1, b2, b3, b4, b5⟩ := hb
  have k3 : newZ z key c 3 = z 3 + 1 := newZ_3 b1
  have lo : ∀ i : Int, i < 10 → i ≠ 3 → newZ z key c i = z i := fun i g1 g2 => newZ_lo g2 (by omega) (by omega) (by omega)
  have kk : ∀ r : Int, 0 ≤ r → r < z 3 → newZ z key c (10 + r) = z (10 + r) := fun r g1 g2 => newZ_lo (by omega) (by omega) (by omega) (by omega)
  have kc : ∀ r : Int, 0 ≤ r → r < z 3 → newZ z key c (130 + r) = z (130 + r) := fun r g1 g2 => newZ_lo (by omega) (by omega) (by omega) (by omega)
  have kp : ∀ r : Int, 0 ≤ r → r < z 3 → newZ z key c (250 + r) = z (250 + r) := fun r g1 g2 => newZ_lo (by omega) (by omega) (by omega) (by omega)
  have k4 : newZ z key c 4 = z 4 := lo 4 (by omega) (by omega)
  have pl : ∀ p : Int, p ≠ 0 → ∀ r : Int, 0 ≤ r → ((r < newZ z key c 3 ∧ newZ z key c (250 + r) = p) ↔ (r < z 3 ∧ z (250 + r) = p)) := fun p hp r g => by
    rw [k3]
    rcases Int.lt_trichotomy r (z 3) with q | q | q
    · rw [kp r g q]; omega
    · rw [q, newZ_p]; omega
    · omega
  have kr : ∀ (kind : Int) (nu fi le : Int → Int) (to : Int), (kind = 0 ∨ kind = 1) → RLs (s.2 2) nu fi le to z kind → RLs ne nu fi le to (newZ z key c) kind := fun kind nu fi le to hkd q => RLs_keep q (fun _ _ _ => ⟨rfl, rfl, rfl⟩) (fun r g1 g2 _ _ => hne r g1 g2) (fun r g => by
    rw [k3]
    rcases Int.lt_trichotomy r (z 3) with q | q | q
    · rw [kp r g q]; omega
    · rw [q, newZ_p]; omega
    · omega) (fun r g1 g2 _ _ => ⟨kp r g1 g2, kk r g1 g2⟩) (by omega) hkd
  have kn : ∀ j : Nat, (j : Int) + 1 < s.1 11 → ne (chn (s.2 2) (s.1 9) j) = s.2 2 (chn (s.2 2) (s.1 9) j) := fun j hj => by
    obtain ⟨q1, q2, q3⟩ := ho.2.1.1 j (by omega)
    exact hne _ q1 q2
  refine ⟨⟨?_, fun r g1 g2 => ?_⟩, ⟨?_, ?_, ?_, ?_, ?_, ?_, ?_, ?_⟩, ?_, kr 0 _ _ _ _ (Or.inl rfl) hr, kr 1 _ _ _ _ (Or.inr rfl) hi, ?_⟩
  · rw [k3, ← t1]; rfl
  · rw [k3] at g2
    change uZ (s.2 0) (s.1 16) key r = _ ∧ cs r = _
    rw [t1]
    by_cases q : r = z 3
    · rw [q, uZ_at, newZ_k, newZ_c]; exact ⟨rfl, hcs.1⟩
    · rw [uZ_ne q, kk r g1 (by omega), kc r g1 (by omega), hcs.2 r g1 (by omega)]
      exact t2 r g1 (by omega)
  · rw [lo 1 (by omega) (by omega)]; exact c1
  · rw [lo 2 (by omega) (by omega)]; exact c2
  · rw [lo 0 (by omega) (by omega)]; exact c3
  · rw [lo 6 (by omega) (by omega)]; exact c4
  · rw [lo 7 (by omega) (by omega)]; exact c5
  · rw [lo 8 (by omega) (by omega)]; exact c6
  · rw [lo 9 (by omega) (by omega)]; exact c7
  · rw [k4]; exact c8
  · obtain ⟨m0, ma, mb, mc⟩ := hm
    refine ⟨m0, fun i h1 h2 => ?_, mb, fun r h1 h2 h4 => ?_⟩
    · obtain ⟨a1, a2, a3⟩ := ma i h1 h2
      exact ⟨a1, by rw [k3]; have : s.2 9 i < z 3 := a2; change s.2 9 i < _; omega, ((pl 1 (by omega) _ a1).mpr ⟨a2, a3⟩).2⟩
    · obtain ⟨q1, q2⟩ := (pl 1 (by omega) r h1).mp ⟨h2, h4⟩
      exact mc r h1 q1 q2
  · exact ⟨ho.1, ChL_ext ho.2.1 kn (pl 2 (by omega)) (fun r g1 g2 _ => kk r g1 g2), fun q => by
      change s.1 10 = chn ne (s.1 9) (s.1 11 - 1).toNat
      rw [chn_keep (fun i hi => kn i (by omega))]
      exact ho.2.2 q⟩
/-- the last row, that lies nowhere, comes into memory -/
theorem Rep_mem {s : SS} {z : Int → Int} {x : Int} (hb : Vb z) (h : Rep s z) (h6 : s.1 6 < 20) (hx : 0 ≤ x ∧ x = z 3 - 1) (hp : z (250 + x) = 0) : Rep (sS (sA s 9 (uZ (s.2 9) (s.1 6) x)) 6 (s.1 6 + 1)) (uZ z (250 + x) 1) := by
  obtain ⟨⟨t1, t2⟩, ⟨c1, c2, c3, c4, c5, c6, c7, c8⟩, hm, hr, hi, ho⟩ := h
  have ⟨b1, b2, b3, b4, b5⟩ := hb
  have k3 : uZ z (250 + x) 1 3 = z 3 := uZ_ne (by omega)
  have lo : ∀ i : Int, i < 250 → uZ z (250 + x) 1 i = z i := fun i g => uZ_ne (by omega)
  have kp : ∀ r : Int, r ≠ x → uZ z (250 + x) 1 (250 + r) = z (250 + r) := fun r g => uZ_ne (by omega)
  have pl : ∀ p : Int, p ≠ 0 → p ≠ 1 → ∀ r : Int, 0 ≤ r → ((r < uZ z (250 + x) 1 3 ∧ uZ z (250 + x) 1 (250 + r) = p) ↔ (r < z 3 ∧ z (250 + r) = p)) := fun p hp0 hp1 r g => by
    rw [k3]
    by_cases q : r = x
    · rw [q, uZ_at]; omega
    · rw [kp r q]
  have kr : ∀ (kind : Int) (nu fi le : Int → Int) (to : Int), (kind = 0 ∨ kind = 1) → RLs (s.2 2) nu fi le to z kind → RLs (s.2 2) nu fi le to (uZ z (250 + x) 1) kind := fun kind nu fi le to hkd q => RLs_keep q (fun _ _ _ => ⟨rfl, rfl, rfl⟩) (fun r g1 g2 _ _ => rfl) (fun r g => by
    rw [k3]
    by_cases q : r = x
    · rw [q, uZ_at]; omega
    · rw [kp r q]) (fun r g1 g2 g3 _ => ⟨kp r (fun w => by rw [w, hp] at g3; omega), lo _ (by omega)⟩) (by rw [lo 4 (by omega)]; exact Int.le_refl _) hkd
  refine ⟨⟨?_, fun r g1 g2 => ?_⟩, ⟨?_, ?_, ?_, ?_, ?_, ?_, ?_, ?_⟩, ?_, kr 0 _ _ _ _ (Or.inl rfl) hr, kr 1 _ _ _ _ (Or.inr rfl) hi, ?_⟩
  · rw [k3]; exact t1
  · rw [k3] at g2
    rw [lo _ (by omega), lo _ (by omega)]
    exact t2 r g1 g2
  · rw [lo 1 (by omega)]; exact c1
  · rw [lo 2 (by omega)]; exact c2
  · rw [lo 0 (by omega)]; exact c3
  · rw [lo 6 (by omega)]; exact c4
  · rw [lo 7 (by omega)]; exact c5
  · rw [lo 8 (by omega)]; exact c6
  · rw [lo 9 (by omega)]; exact c7
  · rw [lo 4 (by omega)]; exact c8
  · obtain ⟨m0, ma, mb, mc⟩ := hm
    change RMm (uZ (s.2 9) (s.1 6) x) (s.1 6 + 1) (uZ z (250 + x) 1)
    have mlt : ∀ i, 0 ≤ i → i < s.1 6 → s.2 9 i ≠ x := fun i h1 h2 w => by
      obtain ⟨a1, a2, a3⟩ := ma i h1 h2
      rw [w] at a3; omega
    refine ⟨by omega, fun i h1 h2 => ?_, fun i j h1 h2 h4 => ?_, fun r h1 h2 h4 => ?_⟩
    · by_cases q : i = s.1 6
      · rw [q, uZ_at, uZ_at, k3]; omega
      · obtain ⟨a1, a2, a3⟩ := ma i h1 (by omega)
        rw [uZ_ne q, k3, kp _ (mlt i h1 (by omega))]
        exact ⟨a1, a2, a3⟩
    · by_cases q : j = s.1 6
      · obtain ⟨a1, a2, a3⟩ := ma i h1 (by omega)
        have := mlt i h1 (by omega)
        rw [q, uZ_at, uZ_ne (by omega)]; omega
      · rw [uZ_ne q, uZ_ne (by omega)]
        exact mb i j h1 h2 (by omega)
    · rw [k3] at h2
      by_cases q : r = x
      · exact ⟨s.1 6, m0.1, by omega, by rw [uZ_at, q]⟩
      · rw [kp r q] at h4
        obtain ⟨i, g1, g2, g3⟩ := mc r h1 h2 h4
        exact ⟨i, g1, by omega, by rw [uZ_ne (by omega)]; exact g3⟩
  · exact ⟨ho.1, ChL_ext ho.2.1 (fun _ _ => rfl) (pl 2 (by omega) (by omega)) (fun r g1 g2 _ => lo _ (by omega)), ho.2.2⟩
theorem sS_comm {s : SS} {k j : Nat} {v w : Int} (h : k ≠ j) : sS (sS s k v) j w = sS (sS s j w) k v := by
  unfold sS
  refine Prod.ext (funext fun i => ?_) rfl
  dsimp only
  by_cases a : i = j
  · rw [if_pos a, if_neg (by omega), if_pos a]
  · rw [if_neg a]
    by_cases b : i = k
    · rw [if_pos b, if_pos b]
    · rw [if_neg b, if_neg b, if_neg a]
theorem uZ_uZ {f : Int → Int} {i v w : Int} : uZ (uZ f i v) i w = uZ f i w := by
  funext j
  unfold uZ
  by_cases a : j = i
  · rw [if_pos a, if_pos a]
  · rw [if_neg a, if_neg a, if_neg a]
theorem newZ_in {z : Int → Int} {key : Int} : uZ (newZ z key 1) (250 + z 3) 1 = uZ (uZ (uZ (uZ z 3 (z 3 + 1)) (10 + z 3) key) (130 + z 3) 1) (250 + z 3) 1 := by
  unfold newZ
  rw [uZ_uZ]
theorem wriZ_new {z : Int → Int} {key : Int} (hb : Vb z) (h3 : z 3 < 120) : uZ (wriZ (newZ z key 1)) (250 + z 3) 1 = uZ (uZ (uZ (uZ (wriZ z) 3 (z 3 + 1)) (10 + z 3) key) (130 + z 3) 1) (250 + z 3) 1 := by
  have ⟨b1, b2, b3, b4, b5⟩ := hb
  funext i
  by_cases q : i = 250 + z 3
  · rw [q, uZ_at, uZ_at]
  rw [uZ_ne q, uZ_ne q]
  have er : rowsAt (newZ z key 1) 1 = rowsAt z 1 := newZ_rows hb h3 (by omega)
  have e7 : newZ z key 1 7 = z 7 := newZ_lo (by omega) (by omega) (by omega) (by omega)
  have e4 : newZ z key 1 4 = z 4 := newZ_lo (by omega) (by omega) (by omega) (by omega)
  unfold wriZ
  rw [er, e7]
  by_cases c : rowsAt z 1 = 0
  · rw [if_pos c, if_pos c]
    unfold newZ
    rw [uZ_ne q]
  · rw [if_neg c, if_neg c]
    by_cases q4 : i = 4
    · rw [q4, becm_4, uZ_ne (by omega), e4, uZ_ne (by omega), uZ_ne (by omega), uZ_ne (by omega), becm_4, uZ_ne (by omega)]
    · by_cases q5 : 250 ≤ i ∧ i < 250 + z 3
      · obtain ⟨r, hr⟩ : ∃ r, i = 250 + r := ⟨i - 250, by omega⟩
        subst hr
        rw [uZ_ne (by omega), uZ_ne (by omega), uZ_ne (by omega), becm_pl (by omega) (by rw [uZ_ne (by omega), newZ_3 b1]; omega), becm_pl (by omega) (by rw [uZ_ne (by omega)]; omega), uZ_ne (by omega), uZ_ne (by omega), uZ_ne (by omega), uZ_ne (by omega), e4, newZ_lo (by omega) (by omega) (by omega) (by omega)]
      · have lhs : becm (uZ (newZ z key 1) 7 (z 7 + rowsAt z 1)) 1 i = uZ (newZ z key 1) 7 (z 7 + rowsAt z 1) i := by
          unfold becm
          rw [if_neg q4, uZ_ne (i := 7) (j := 3) (by omega), newZ_3 b1, if_neg (by omega)]
        have rhs : becm (uZ z 7 (z 7 + rowsAt z 1)) 1 i = uZ z 7 (z 7 + rowsAt z 1) i := by
          unfold becm
          rw [if_neg q4, uZ_ne (i := 7) (j := 3) (by omega), if_neg (by omega)]
        rw [lhs]
        unfold newZ uZ
        unfold uZ at rhs
        rw [rhs]
        by_cases a1 : i = 7
        · rw [if_pos a1, if_neg (by omega), if_neg (by omega), if_neg (by omega), if_pos a1]
        · rw [if_neg a1, if_neg q, if_neg a1]
/-- only the counts change -/
theorem Rep_cnt {s : SS} {z z' cs : Int → Int} (hb : Vb z) (h : Rep s z) (hz : ∀ i, (i < 130 ∨ 250 ≤ i) → z' i = z i) (hc : ∀ r, 0 ≤ r → r < z 3 → cs r = z' (130 + r)) : Rep (sA s 1 cs) z' := by
  obtain ⟨⟨t1, t2⟩, ⟨c1, c2, c3, c4, c5, c6, c7, c8⟩, hm, hr, hi, ho⟩ := h
  have ⟨b1, b2, b3, b4, b5⟩ := hb
  have h3 : z' 3 = z 3 := hz 3 (by omega)
  have h4 : z' 4 = z 4 := hz 4 (by omega)
  have hp : ∀ r : Int, 0 ≤ r → z' (250 + r) = z (250 + r) := fun r g => hz _ (by omega)
  have hk : ∀ r : Int, 0 ≤ r → r < z 3 → z' (10 + r) = z (10 + r) := fun r g1 g2 => hz _ (by omega)
  have kr : ∀ (kind : Int) (nu fi le : Int → Int) (to : Int), (kind = 0 ∨ kind = 1) → RLs (s.2 2) nu fi le to z kind → RLs (s.2 2) nu fi le to z' kind := fun kind nu fi le to hkd q => RLs_keep q (fun _ _ _ => ⟨rfl, rfl, rfl⟩) (fun r g1 g2 _ _ => rfl) (fun r g => by rw [h3, hp r g]) (fun r g1 g2 _ _ => ⟨hp r g1, hk r g1 g2⟩) (by omega) hkd
  refine ⟨⟨by rw [h3]; exact t1, fun r g1 g2 => ?_⟩, ⟨?_, ?_, ?_, ?_, ?_, ?_, ?_, ?_⟩, RMm_z hm h3 hp, kr 0 _ _ _ _ (Or.inl rfl) hr, kr 1 _ _ _ _ (Or.inr rfl) hi, ho.1, ChL_ext ho.2.1 (fun _ _ => rfl) (fun r g => by rw [h3, hp r g]) (fun r g1 g2 _ => hk r g1 g2), ho.2.2⟩
  · rw [h3] at g2
    rw [hk r g1 g2]
    exact ⟨(t2 r g1 g2).1, hc r g1 g2⟩
  · rw [hz 1 (by omega)]; exact c1
  · rw [hz 2 (by omega)]; exact c2
  · rw [hz 0 (by omega)]; exact c3
  · rw [hz 6 (by omega)]; exact c4
  · rw [hz 7 (by omega)]; exact c5
  · rw [hz 8 (by omega)]; exact c6
  · rw [hz 9 (by omega)]; exact c7
  · rw [h4]; exact c8
