/-! ===== the memory is written as a run ===== -/
theorem chn_list {h f : Int → Int} {m : Int} (hh : ∀ j, 1 ≤ j → j < m → h (f (j - 1)) = f j) : ∀ n : Nat, (n : Int) < m → chn h (f 0) n = f n
  | 0, _ => rfl
  | n + 1, q => by
    rw [chn, chn_list hh n (by omega)]
    have := hh ((n : Int) + 1) (by omega) (by omega)
    rw [show (n : Int) + 1 - 1 = n by omega] at this
    rw [this]
    rfl
theorem Rep_write {s : SS} {z h f nu fi le : Int → Int} (hb : Vb z) (hR : Rep s z) (h6 : 0 < s.1 6) (hc : ChL h z 1 (f 0) (s.1 6)) (hne : ∀ r, 0 ≤ r → r < z 3 → z (250 + r) ≠ 1 → h r = s.2 2 r) (hl : ∀ j, 0 ≤ j → j < s.1 17 → nu j = s.2 3 j ∧ fi j = s.2 4 j ∧ le j = s.2 5 j) (e1 : nu (s.1 17) = s.1 15) (e2 : fi (s.1 17) = f 0) (e3 : le (s.1 17) = s.1 6) : Rep (sS (sS (sS (sA (sA (sA (sS (sA (sA s 9 f) 2 h) 12 (s.1 12 + s.1 6)) 3 nu) 4 fi) 5 le) 15 (s.1 15 + 1)) 17 (s.1 17 + 1)) 6 0) (becm (uZ z 7 (z 7 + s.1 6)) 1) := by
  obtain ⟨⟨t1, t2⟩, ⟨c1, c2, c3, c4, c5, c6, c7, c8⟩, hm, hr, hi, ho⟩ := hR
  have ⟨b1, b2, b3, b4, b5⟩ := hb
  have k4 : becm (uZ z 7 (z 7 + s.1 6)) 1 4 = z 4 + 1 := by rw [becm_4, uZ_ne (by omega)]
  have k3 : becm (uZ z 7 (z 7 + s.1 6)) 1 3 = z 3 := by rw [becm_lo (by omega) (by omega), uZ_ne (by omega)]
  have lo : ∀ i : Int, i < 250 → i ≠ 4 → i ≠ 7 → becm (uZ z 7 (z 7 + s.1 6)) 1 i = z i := fun i g1 g2 g3 => by rw [becm_lo g1 g2, uZ_ne g3]
  have kl : ∀ r : Int, 0 ≤ r → r < z 3 → becm (uZ z 7 (z 7 + s.1 6)) 1 (10 + r) = z (10 + r) := fun r g1 g2 => lo _ (by omega) (by omega) (by omega)
  have kc : ∀ r : Int, 0 ≤ r → r < z 3 → becm (uZ z 7 (z 7 + s.1 6)) 1 (130 + r) = z (130 + r) := fun r g1 g2 => lo _ (by omega) (by omega) (by omega)
  have kp : ∀ r : Int, 0 ≤ r → r < z 3 → becm (uZ z 7 (z 7 + s.1 6)) 1 (250 + r) = if z (250 + r) = 1 then 10 + 2 * z 4 else z (250 + r) := fun r g1 g2 => by
    rw [becm_pl g1 (by rw [uZ_ne (by omega)]; exact g2), uZ_ne (by omega), uZ_ne (by omega)]
  refine ⟨⟨?_, fun r g1 g2 => ?_⟩, ⟨?_, ?_, ?_, ?_, ?_, ?_, ?_, ?_⟩, ?_, ?_, ?_, ?_⟩
  · rw [k3]; exact t1
  · rw [k3] at g2
    rw [kl r g1 g2, kc r g1 g2]
    exact t2 r g1 g2
  · rw [lo 1 (by omega) (by omega) (by omega)]; exact c1
  · rw [lo 2 (by omega) (by omega) (by omega)]; exact c2
  · rw [lo 0 (by omega) (by omega) (by omega)]; exact c3
  · rw [lo 6 (by omega) (by omega) (by omega)]; exact c4
  · rw [becm_lo (by omega) (by omega), uZ_at, ← c5]; rfl
  · rw [lo 8 (by omega) (by omega) (by omega)]; exact c6
  · rw [lo 9 (by omega) (by omega) (by omega)]; exact c7
  · rw [k4, ← c8]; rfl
  · exact RMm_none (fun r g1 g2 => by
      rw [k3] at g2
      rw [kp r g1 g2]
      split <;> omega)
  · exact RLs_new (ne' := h) (nu' := nu) (fi' := fi) (le' := le) hb hr hl hne k3 k4 kp kl (by omega) (by rw [e1, c8]) e2 e3 (by omega) hc
  · exact RLs_oth (ne' := h) hb hi hne k3 k4 kp kl (by omega)
  · exact ROu_oth (ne' := h) hb ho hne k3 kp kl (by omega)
theorem ChL_sorted {s : SS} {z h f : Int → Int} (hR : Rep s z) (hs : ∀ i j, 0 ≤ i → i < j → j < s.1 6 → befK (s.2 0) (f i) (f j)) (h1 : ∀ i, 0 ≤ i → i < s.1 6 → ∃ j, 0 ≤ j ∧ j < s.1 6 ∧ f i = s.2 9 j) (h2 : ∀ i, 0 ≤ i → i < s.1 6 → ∃ j, 0 ≤ j ∧ j < s.1 6 ∧ s.2 9 i = f j) (hh : ∀ j, 1 ≤ j → j < s.1 6 → h (f (j - 1)) = f j) : ChL h z 1 (f 0) (s.1 6) := by
  obtain ⟨⟨t1, t2⟩, _, ⟨m0, ma, mb, mc⟩, _⟩ := hR
  have in1 : ∀ i, 0 ≤ i → i < s.1 6 → 0 ≤ f i ∧ f i < z 3 ∧ z (250 + f i) = 1 := fun i a b => by
    obtain ⟨j, q1, q2, q3⟩ := h1 i a b
    rw [q3]; exact ma j q1 q2
  have ec := fun n => chn_list (h := h) (f := f) (m := s.1 6) hh n
  refine ⟨fun j hj => ?_, fun j k hjk hk => ?_, fun r g1 g2 g3 => ?_⟩
  · rw [ec j hj]; exact in1 j (by omega) hj
  · rw [ec j (by omega), ec k hk]
    have q := hs j k (by omega) (by omega) hk
    obtain ⟨x1, x2, x3⟩ := in1 j (by omega) (by omega)
    obtain ⟨y1, y2, y3⟩ := in1 k (by omega) hk
    unfold bef
    rw [← (t2 _ x1 x2).1, ← (t2 _ y1 y2).1]
    exact q
  · obtain ⟨i, q1, q2, q3⟩ := mc r g1 g2 g3
    obtain ⟨j, r1, r2, r3⟩ := h2 i q1 q2
    exact ⟨j.toNat, by omega, by rw [ec j.toNat (by omega), show ((j.toNat : Nat) : Int) = j by omega, ← r3, q3]⟩
theorem rfl2 (s : SS) (f : Int → Int) : sA s 9 f = sA (sA s 9 f) 2 (s.2 2) := (sA_self (s := sA s 9 f) (k := 2)).symm
