/-! ===== the class's state s stands for the reference's row z ===== -/
def ChL (ne z : Int → Int) (p f len : Int) : Prop := (∀ j : Nat, (j : Int) < len → 0 ≤ chn ne f j ∧ chn ne f j < z 3 ∧ z (250 + chn ne f j) = p) ∧ (∀ j k : Nat, j < k → (k : Int) < len → bef z (chn ne f j) (chn ne f k)) ∧ ∀ r, 0 ≤ r → r < z 3 → z (250 + r) = p → ∃ j : Nat, (j : Int) < len ∧ chn ne f j = r
def RLs (ne nu fi le : Int → Int) (to : Int) (z : Int → Int) (kind : Int) : Prop := (0 ≤ to ∧ to ≤ 120) ∧ (∀ i, 0 ≤ i → i < to → 0 ≤ nu i ∧ nu i < z 4 ∧ 1 ≤ le i ∧ ChL ne z (10 + 2 * nu i + kind) (fi i) (le i)) ∧ (∀ i j, 0 ≤ i → i < j → j < to → nu i < nu j) ∧ ∀ r, 0 ≤ r → r < z 3 → 10 ≤ z (250 + r) → z (250 + r) % 2 = kind → ∃ i, 0 ≤ i ∧ i < to ∧ z (250 + r) = 10 + 2 * nu i + kind
def RMm (mr : Int → Int) (m : Int) (z : Int → Int) : Prop := (0 ≤ m ∧ m ≤ 20) ∧ (∀ i, 0 ≤ i → i < m → 0 ≤ mr i ∧ mr i < z 3 ∧ z (250 + mr i) = 1) ∧ (∀ i j, 0 ≤ i → i < j → j < m → mr i < mr j) ∧ ∀ r, 0 ≤ r → r < z 3 → z (250 + r) = 1 → ∃ i, 0 ≤ i ∧ i < m ∧ mr i = r
def ROu (ne z : Int → Int) (of ol on : Int) : Prop := 0 ≤ on ∧ ChL ne z 2 of on ∧ (0 < on → ol = chn ne of (on - 1).toNat)
def RTb (s : SS) (z : Int → Int) : Prop := s.1 16 = z 3 ∧ ∀ r, 0 ≤ r → r < z 3 → s.2 0 r = z (10 + r) ∧ s.2 1 r = z (130 + r)
def RSc (s : SS) (z : Int → Int) : Prop := s.1 2 = z 1 ∧ s.1 3 = z 2 ∧ s.1 4 = z 0 ∧ s.1 8 = z 6 ∧ s.1 12 = z 7 ∧ s.1 13 = z 8 ∧ s.1 14 = z 9 ∧ s.1 15 = z 4
def Rep (s : SS) (z : Int → Int) : Prop := RTb s z ∧ RSc s z ∧ RMm (s.2 9) (s.1 6) z ∧ RLs (s.2 2) (s.2 3) (s.2 4) (s.2 5) (s.1 17) z 0 ∧ RLs (s.2 2) (s.2 6) (s.2 7) (s.2 8) (s.1 18) z 1 ∧ ROu (s.2 2) z (s.1 9) (s.1 10) (s.1 11)
theorem bef_irr {z : Int → Int} {a : Int} : ¬ bef z a a := by unfold bef; omega
theorem bef_trans {z : Int → Int} {a b c : Int} (h1 : bef z a b) (h2 : bef z b c) : bef z a c := by unfold bef at *; omega
theorem bef_tot {z : Int → Int} {a b : Int} (h : a ≠ b) : bef z a b ∨ bef z b a := by unfold bef; omega
theorem bef_asym {z : Int → Int} {a b : Int} (h1 : bef z a b) : ¬ bef z b a := fun h2 => bef_irr (bef_trans h1 h2)
theorem bef_ext {z z' : Int → Int} {a b : Int} (ha : z' (10 + a) = z (10 + a)) (hb : z' (10 + b) = z (10 + b)) : bef z' a b ↔ bef z a b := by unfold bef; rw [ha, hb]
/-- a chain lists its place: as many as there are -/
theorem ChL_len {ne z : Int → Int} {p f len : Int} (h : ChL ne z p f len) (h0 : 0 ≤ len) (h3 : 0 ≤ z 3) : rowsAt z p = len := by
  obtain ⟨a, b, c⟩ := h
  unfold rowsAt
  rw [cnt_bij (c := chn ne f) (len := len.toNat) (P := fun r => z (250 + r) = p) (fun j hj => ⟨(a j (by omega)).1, by have := (a j (by omega)).2.1; omega, (a j (by omega)).2.2⟩) (fun j k hjk hk e => by
    have := b j k hjk (by omega)
    rw [e] at this
    exact bef_irr this) (fun r hr hp => by
    obtain ⟨j, h1, h2⟩ := c r (by omega) (by omega) hp
    exact ⟨j, by omega, h2⟩)]
  omega
theorem ChL_inj {ne z : Int → Int} {p f len : Int} (h : ChL ne z p f len) {j k : Nat} (hj : (j : Int) < len) (hk : (k : Int) < len) (e : chn ne f j = chn ne f k) : j = k := by
  rcases Nat.lt_trichotomy j k with q | q | q
  · have := h.2.1 j k q hk
    rw [e] at this
    exact absurd this bef_irr
  · exact q
  · have := h.2.1 k j q hj
    rw [e] at this
    exact absurd this bef_irr
theorem chn_keep {ne ne' : Int → Int} {f : Int} : ∀ {n : Nat}, (∀ j : Nat, j < n → ne' (chn ne f j) = ne (chn ne f j)) → chn ne' f n = chn ne f n
  | 0, _ => rfl
  | n + 1, h => by rw [chn, chn, chn_keep (fun j hj => h j (by omega)), h n (by omega)]
/-- a chain stays if the rows of its place stay, at a place of another name -/
theorem ChL_ext {ne ne' z z' : Int → Int} {p p' f len : Int} (h : ChL ne z p f len) (hne : ∀ j : Nat, (j : Int) + 1 < len → ne' (chn ne f j) = ne (chn ne f j)) (h3 : ∀ r, 0 ≤ r → ((r < z' 3 ∧ z' (250 + r) = p') ↔ (r < z 3 ∧ z (250 + r) = p))) (hk : ∀ r, 0 ≤ r → r < z 3 → z (250 + r) = p → z' (10 + r) = z (10 + r)) : ChL ne' z' p' f len := by
  obtain ⟨a, b, c⟩ := h
  have e : ∀ j : Nat, (j : Int) < len → chn ne' f j = chn ne f j := fun j hj => chn_keep (fun i hi => hne i (by omega))
  refine ⟨fun j hj => ?_, fun j k hjk hk2 => ?_, fun r h1 h2 h4 => ?_⟩
  · rw [e j hj]
    obtain ⟨a1, a2, a3⟩ := a j hj
    exact ⟨a1, (h3 _ a1).mpr ⟨a2, a3⟩⟩
  · rw [e j (by omega), e k hk2]
    obtain ⟨a1, a2, a3⟩ := a j (by omega)
    obtain ⟨b1, b2, b3⟩ := a k hk2
    exact (bef_ext (hk _ a1 a2 a3) (hk _ b1 b2 b3)).mpr (b j k hjk hk2)
  · obtain ⟨g1, g2⟩ := (h3 r h1).mp ⟨h2, h4⟩
    obtain ⟨j, q1, q2⟩ := c r h1 g1 g2
    exact ⟨j, q1, by rw [e j q1]; exact q2⟩
/-- a list of runs stays if their rows stay -/
theorem RLs_keep {ne ne' nu nu' fi fi' le le' z z' : Int → Int} {to kind : Int} (h : RLs ne nu fi le to z kind) (hl : ∀ i, 0 ≤ i → i < to → nu' i = nu i ∧ fi' i = fi i ∧ le' i = le i) (hne : ∀ r, 0 ≤ r → r < z 3 → 10 ≤ z (250 + r) → z (250 + r) % 2 = kind → ne' r = ne r) (h3 : ∀ r, 0 ≤ r → ((r < z' 3 ∧ 10 ≤ z' (250 + r) ∧ z' (250 + r) % 2 = kind) ↔ (r < z 3 ∧ 10 ≤ z (250 + r) ∧ z (250 + r) % 2 = kind))) (hp : ∀ r, 0 ≤ r → r < z 3 → 10 ≤ z (250 + r) → z (250 + r) % 2 = kind → z' (250 + r) = z (250 + r) ∧ z' (10 + r) = z (10 + r)) (h4 : z 4 ≤ z' 4) (hkd : kind = 0 ∨ kind = 1) : RLs ne' nu' fi' le' to z' kind := by
  obtain ⟨h0, a, b, c⟩ := h
  refine ⟨h0, fun i h1 h2 => ?_, fun i j h1 h2 h5 => ?_, fun r h1 h2 h5 h6 => ?_⟩
  · obtain ⟨e1, e2, e3⟩ := hl i h1 h2
    obtain ⟨a1, a2, a3, a4⟩ := a i h1 h2
    rw [e1, e2, e3]
    refine ⟨a1, by omega, a3, ChL_ext a4 (fun j hj => ?_) (fun r g => ?_) (fun r g1 g2 g3 => (hp r g1 g2 (by omega) (by omega)).2)⟩
    · obtain ⟨q1, q2, q3⟩ := a4.1 j (by omega)
      exact hne _ q1 q2 (by omega) (by omega)
    · have k := h3 r g
      refine ⟨fun ⟨g1, g2⟩ => ?_, fun ⟨g1, g2⟩ => ?_⟩
      · obtain ⟨q1, q2, q3⟩ := k.mp ⟨g1, by omega, by omega⟩
        exact ⟨q1, by rw [← (hp r g q1 q2 q3).1]; exact g2⟩
      · have q := k.mpr ⟨g1, by omega, by omega⟩
        exact ⟨q.1, by rw [(hp r g g1 (by omega) (by omega)).1]; exact g2⟩
  · rw [(hl i h1 (by omega)).1, (hl j (by omega) h5).1]
    exact b i j h1 h2 h5
  · obtain ⟨q1, q2, q3⟩ := (h3 r h1).mp ⟨h2, h5, h6⟩
    obtain ⟨i, g1, g2, g3⟩ := c r h1 q1 q2 q3
    exact ⟨i, g1, g2, by rw [(hp r h1 q1 q2 q3).1, (hl i g1 g2).1]; exact g3⟩
/-- a run more, with the next number -/
theorem RLs_app {ne ne' nu nu' fi fi' le le' z z' : Int → Int} {to kind f len : Int} (h : RLs ne nu fi le to z kind) (hl : ∀ i, 0 ≤ i → i < to → nu' i = nu i ∧ fi' i = fi i ∧ le' i = le i) (hne : ∀ r, 0 ≤ r → r < z 3 → 10 ≤ z (250 + r) → z (250 + r) % 2 = kind → ne' r = ne r) (h3 : ∀ r, 0 ≤ r → ((r < z' 3 ∧ (10 ≤ z' (250 + r) ∧ z' (250 + r) % 2 = kind) ∧ z' (250 + r) ≠ 10 + 2 * z 4 + kind) ↔ (r < z 3 ∧ 10 ≤ z (250 + r) ∧ z (250 + r) % 2 = kind))) (hp : ∀ r, 0 ≤ r → r < z 3 → 10 ≤ z (250 + r) → z (250 + r) % 2 = kind → z' (250 + r) = z (250 + r) ∧ z' (10 + r) = z (10 + r)) (h4 : z' 4 = z 4 + 1) (h40 : 0 ≤ z 4) (hkd : kind = 0 ∨ kind = 1) (hto : to + 1 ≤ 120) (e1 : nu' to = z 4) (e2 : fi' to = f) (e3 : le' to = len) (hlen : 1 ≤ len) (hc : ChL ne' z' (10 + 2 * z 4 + kind) f len) : RLs ne' nu' fi' le' (to + 1) z' kind := by
  obtain ⟨h0, a, b, c⟩ := h
  refine ⟨by omega, fun i h1 h2 => ?_, fun i j h1 h2 h5 => ?_, fun r h1 h2 h5 h6 => ?_⟩
  · by_cases q : i = to
    · rw [q, e1, e2, e3]
      exact ⟨h40, by omega, hlen, hc⟩
    · have hi : i < to := by omega
      obtain ⟨x1, x2, x3⟩ := hl i h1 hi
      obtain ⟨a1, a2, a3, a4⟩ := a i h1 hi
      rw [x1, x2, x3]
      refine ⟨a1, by omega, a3, ChL_ext a4 (fun j hj => ?_) (fun r g => ?_) (fun r g1 g2 g3 => (hp r g1 g2 (by omega) (by omega)).2)⟩
      · obtain ⟨q1, q2, q3⟩ := a4.1 j (by omega)
        exact hne _ q1 q2 (by omega) (by omega)
      · have k := h3 r g
        refine ⟨fun ⟨g1, g2⟩ => ?_, fun ⟨g1, g2⟩ => ?_⟩
        · obtain ⟨q1, q2, q3⟩ := k.mp ⟨g1, ⟨by omega, by omega⟩, by omega⟩
          exact ⟨q1, by rw [← (hp r g q1 q2 q3).1]; exact g2⟩
        · have q := k.mpr ⟨g1, by omega, by omega⟩
          exact ⟨q.1, by rw [(hp r g g1 (by omega) (by omega)).1]; exact g2⟩
  · rw [(hl i h1 (by omega)).1]
    by_cases q : j = to
    · rw [q, e1]
      exact (a i h1 (by omega)).2.1
    · rw [(hl j (by omega) (by omega)).1]
      exact b i j h1 h2 (by omega)
  · by_cases q : z' (250 + r) = 10 + 2 * z 4 + kind
    · exact ⟨to, by omega, by omega, by rw [e1]; exact q⟩
    · obtain ⟨q1, q2, q3⟩ := (h3 r h1).mp ⟨h2, ⟨h5, h6⟩, q⟩
      obtain ⟨i, g1, g2, g3⟩ := c r h1 q1 q2 q3
      exact ⟨i, g1, by omega, by rw [(hp r h1 q1 q2 q3).1, (hl i g1 g2).1]; exact g3⟩
theorem RMm_len {mr z : Int → Int} {m : Int} (h : RMm mr m z) (h3 : 0 ≤ z 3) : rowsAt z 1 = m := by
  obtain ⟨h0, a, b, c⟩ := h
  unfold rowsAt
  rw [cnt_bij (c := fun j : Nat => mr (j : Int)) (len := m.toNat) (P := fun r => z (250 + r) = 1) (fun j hj => ⟨(a j (by omega) (by omega)).1, by have := (a j (by omega) (by omega)).2.1; omega, (a j (by omega) (by omega)).2.2⟩) (fun j k hjk hk e => by
    have := b j k (by omega) (by omega) (by omega)
    try dsimp only at e
    omega) (fun r hr hp => by
    obtain ⟨i, h1, h2, h4⟩ := c r (by omega) (by omega) hp
    exact ⟨i.toNat, by omega, by (try dsimp only); rw [show ((i.toNat : Nat) : Int) = i by omega]; exact h4⟩)]
  omega
/-- there are as many runs of a kind as the list has -/
theorem RLs_cnt {ne nu fi le z : Int → Int} {to kind : Int} (h : RLs ne nu fi le to z kind) (h3 : 0 ≤ z 3) (hkd : kind = 0 ∨ kind = 1) {i : Int} (hi : 0 ≤ i ∧ i ≤ to) {K : Int} (hK : 0 ≤ K ∧ K ≤ z 4) (hlo : ∀ j, 0 ≤ j → j < i → nu j < K) (hhi : ∀ j, i ≤ j → j < to → K ≤ nu j) : sumI (fun k => pz (0 < rowsAt z (10 + 2 * k + kind))) K.toNat = i := by
  obtain ⟨h0, a, b, c⟩ := h
  rw [cnt_bij (c := fun j : Nat => nu (j : Int)) (len := i.toNat) (P := fun k => 0 < rowsAt z (10 + 2 * k + kind)) (fun j hj => ?_) (fun j k hjk hk e => ?_) (fun r hr hp => ?_)]
  · omega
  · obtain ⟨a1, a2, a3, a4⟩ := a j (by omega) (by omega)
    have := hlo j (by omega) (by omega)
    refine ⟨a1, by (try dsimp only); omega, ?_⟩
    try dsimp only
    rw [ChL_len a4 (by omega) h3]; omega
  · have := b j k (by omega) (by omega) (by omega)
    try dsimp only at e
    omega
  · obtain ⟨x, x1, x2, x3⟩ := rowsAt_pos.mp hp
    obtain ⟨j, j1, j2, j3⟩ := c x x1 x2 (by omega) (by omega)
    by_cases q : j < i
    · exact ⟨j.toNat, by omega, by (try dsimp only); rw [show ((j.toNat : Nat) : Int) = j by omega]; omega⟩
    · have := hhi j (by omega) j2; omega
theorem RLs_many {ne nu fi le z : Int → Int} {to kind : Int} (h : RLs ne nu fi le to z kind) (h3 : 0 ≤ z 3) (h4 : 0 ≤ z 4) (hkd : kind = 0 ∨ kind = 1) : manyZ z kind = to := by
  have h0 := h.1
  exact RLs_cnt h h3 hkd (i := to) (by omega) (K := z 4) (by omega) (fun j h1 h2 => (h.2.1 j h1 h2).2.1) (fun j h1 h2 => by omega)
theorem RLs_rank {ne nu fi le z : Int → Int} {to kind : Int} (h : RLs ne nu fi le to z kind) (h3 : 0 ≤ z 3) (hkd : kind = 0 ∨ kind = 1) {i : Int} (hi : 0 ≤ i) (hi2 : i < to) : sumI (fun k => pz (0 < rowsAt z (10 + 2 * k + kind))) (nu i).toNat = i := by
  have h0 := h.1
  have ha := h.2.1 i hi hi2
  exact RLs_cnt h h3 hkd (i := i) (by omega) (K := nu i) (by omega) (fun j h1 h2 => h.2.2.1 j i h1 h2 hi2) (fun j h1 h2 => by
    rcases Int.lt_or_eq_of_le h1 with q | q
    · have := h.2.2.1 i j hi q h2; omega
    · rw [q]; omega)
/-- the first rows of the runs, and one that lies elsewhere, are apart: there are fewer runs than rows -/
theorem RLs_few {ne nu fi le z : Int → Int} {to kind : Int} (h : RLs ne nu fi le to z kind) (h3 : 0 ≤ z 3) (hkd : kind = 0 ∨ kind = 1) {x : Int} (hx : 0 ≤ x) (hx2 : x < z 3) (hx3 : z (250 + x) < 10 ∨ z (250 + x) % 2 ≠ kind) : to + 1 ≤ z 3 := by
  obtain ⟨h0, a, b, c⟩ := h
  have := fb_holes (z 3).toNat (to.toNat + 1) (fun j => if j = to.toNat then x.toNat else (fi (j : Int)).toNat) (fun j hj => by
    try dsimp only
    split
    · omega
    · obtain ⟨a1, a2, a3, a4⟩ := a j (by omega) (by omega)
      have := a4.1 0 (by omega)
      rw [chn] at this
      omega) (fun i j hij hj => by
    try dsimp only
    obtain ⟨a1, a2, a3, a4⟩ := a i (by omega) (by omega)
    have y1 := a4.1 0 (by omega)
    rw [chn] at y1
    rw [if_neg (show ¬ i = to.toNat by omega)]
    split
    · intro e
      have e2 : fi (i : Int) = x := by omega
      rw [e2] at y1
      omega
    · obtain ⟨b1, b2, b3, b4⟩ := a j (by omega) (by omega)
      have y2 := b4.1 0 (by omega)
      rw [chn] at y2
      intro e
      have e2 : fi (i : Int) = fi (j : Int) := by omega
      have := b i j (by omega) (by omega) (by omega)
      rw [e2] at y1
      omega)
  omega
theorem ChL_z {ne z z' : Int → Int} {p f len : Int} (h : ChL ne z p f len) (h3 : z' 3 = z 3) (hp : ∀ r, 0 ≤ r → z' (250 + r) = z (250 + r)) (hk : ∀ r, 0 ≤ r → z' (10 + r) = z (10 + r)) : ChL ne z' p f len := ChL_ext h (fun _ _ => rfl) (fun r g => by rw [h3, hp r g]) (fun r g _ _ => hk r g)
theorem RLs_z {ne nu fi le z z' : Int → Int} {to kind : Int} (h : RLs ne nu fi le to z kind) (h3 : z' 3 = z 3) (h4 : z 4 ≤ z' 4) (hp : ∀ r, 0 ≤ r → z' (250 + r) = z (250 + r)) (hk : ∀ r, 0 ≤ r → z' (10 + r) = z (10 + r)) : RLs ne nu fi le to z' kind := by
  obtain ⟨h0, a, b, c⟩ := h
  refine ⟨h0, fun i h1 h2 => ?_, b, fun r h1 h2 h5 h6 => ?_⟩
  · obtain ⟨a1, a2, a3, a4⟩ := a i h1 h2
    exact ⟨a1, by omega, a3, ChL_z a4 h3 hp hk⟩
  · rw [hp r h1] at h5 h6 ⊢
    exact c r h1 (by omega) h5 h6
theorem RMm_z {mr z z' : Int → Int} {m : Int} (h : RMm mr m z) (h3 : z' 3 = z 3) (hp : ∀ r, 0 ≤ r → z' (250 + r) = z (250 + r)) : RMm mr m z' := by
  obtain ⟨h0, a, b, c⟩ := h
  refine ⟨h0, fun i h1 h2 => ?_, b, fun r h1 h2 h4 => ?_⟩
  · obtain ⟨a1, a2, a3⟩ := a i h1 h2
    exact ⟨a1, by omega, by rw [hp _ a1]; exact a3⟩
  · rw [hp r h1] at h4
    exact c r h1 (by omega) h4
theorem ROu_z {ne z z' : Int → Int} {a b c : Int} (h : ROu ne z a b c) (h3 : z' 3 = z 3) (hp : ∀ r, 0 ≤ r → z' (250 + r) = z (250 + r)) (hk : ∀ r, 0 ≤ r → z' (10 + r) = z (10 + r)) : ROu ne z' a b c := ⟨h.1, ChL_z h.2.1 h3 hp hk, h.2.2⟩
/-- only the scalars change -/
theorem Rep_sc {s s' : SS} {z z' : Int → Int} (h : Rep s z) (ha : s'.2 = s.2) (h6 : s'.1 6 = s.1 6) (h9 : s'.1 9 = s.1 9) (h10 : s'.1 10 = s.1 10) (h11 : s'.1 11 = s.1 11) (h16 : s'.1 16 = s.1 16) (h17 : s'.1 17 = s.1 17) (h18 : s'.1 18 = s.1 18) (hs : RSc s' z') (hz : ∀ i, 10 ≤ i → z' i = z i) (h3 : z' 3 = z 3) (h4 : z 4 ≤ z' 4) : Rep s' z' := by
  obtain ⟨⟨b1, b2⟩, -, b3, b4, b5, b6⟩ := h
  have hp : ∀ r : Int, 0 ≤ r → z' (250 + r) = z (250 + r) := fun r g => hz _ (by omega)
  have hk : ∀ r : Int, 0 ≤ r → z' (10 + r) = z (10 + r) := fun r g => hz _ (by omega)
  unfold Rep
  rw [ha, h6, h9, h10, h11, h17, h18]
  refine ⟨⟨by rw [h16, h3]; exact b1, fun r g1 g2 => ?_⟩, hs, RMm_z b3 h3 hp, RLs_z b4 h3 h4 hp hk, RLs_z b5 h3 h4 hp hk, ROu_z b6 h3 hp hk⟩
  rw [ha, hk r g1, hz (130 + r) (by omega)]
  exact b2 r g1 (by omega)
theorem Rep_noCol {s : SS} {z : Int → Int} (h : Rep s z) : Rep (sS s 3 0) (uZ z 2 0) := by
  have ⟨_, ⟨c1, c2, c3, c4, c5, c6, c7, c8⟩, _⟩ := h
  exact Rep_sc h rfl rfl rfl rfl rfl rfl rfl rfl ⟨c1, rfl, c3, c4, c5, c6, c7, c8⟩ (fun i g => uZ_ne (by omega)) rfl (Int.le_refl _)
