/-! ===== the whole object and the reference ===== -/
def seS (k : Int) (s0 s1 s2 s3 : SS) : SS := if k = 0 then s0 else if k = 1 then s1 else if k = 2 then s2 else s3
def rmO (ol tt : Int) : Int := if tt = 4 then (ol + 1) % 4 else ol
def rmS (k ol tt : Int) (o s : SS) : SS := if (rmO ol tt + recN tt) % 4 = k then o else s
def B01 (s : SS) : Prop := (s.1 2 = 0 ∨ s.1 2 = 1) ∧ (s.1 3 = 0 ∨ s.1 3 = 1)
/-- the same in all that the reference has -/
def E370 (z z' : Int → Int) : Prop := ∀ k, 0 ≤ k → k < 370 → z' k = z k
theorem Vb_370 {z z' : Int → Int} (e : E370 z z') (h : Vb z) : Vb z' := by
  obtain ⟨v1, v2, v3, v4, v5⟩ := h
  unfold Vb
  rw [e 3 (by omega) (by omega), e 4 (by omega) (by omega)]
  refine ⟨v1, v2, v3, v4, fun r g1 g2 => ?_⟩
  rw [e _ (by omega) (by omega)]
  exact v5 r g1 g2
theorem Vz_370 {z z' : Int → Int} (e : E370 z z') (h : Vz z) : Vz z' := by
  have h' := h
  obtain ⟨hb, ⟨s0, s1, s2, s5, s6, s7, s8, s9⟩, hr, hs, hc, hm, ho, hi, hd, hx⟩ := h'
  have ⟨v1, v2, v3, v4, v5⟩ := hb
  have E : ∀ k, 0 ≤ k → k < 370 → z' k = z k := e
  have e3 := E 3 (by omega) (by omega)
  have rr : ∀ p, rowsAt z' p = rowsAt z p := fun p => rowsAt_cong e3 (fun r a b => by rw [E _ (by omega) (by omega)])
  have ri : riZ z' = riZ z := riZ_cong e3 (fun r a b => by rw [E _ (by omega) (by omega)])
  refine Vz_move h (Vb_370 e hb) e3 ?_ (fun r a b => ?_) ?_ ?_ ?_ ?_ ?_
  · rw [E 0 (by omega) (by omega), E 1 (by omega) (by omega), E 2 (by omega) (by omega), E 5 (by omega) (by omega), E 6 (by omega) (by omega), E 7 (by omega) (by omega), E 8 (by omega) (by omega), E 9 (by omega) (by omega)]
    exact ⟨s0, rfl, s2, s5, s6, s7, s8, s9⟩
  · rw [E _ (by omega) (by omega), E _ (by omega) (by omega), E _ (by omega) (by omega)]
    exact ⟨rfl, rfl, Iff.rfl, fun q => q⟩
  · rw [E 2 (by omega) (by omega), E 5 (by omega) (by omega), rr, E 0 (by omega) (by omega)]; exact hc
  · rw [E 2 (by omega) (by omega), rr]; exact hm
  · rw [E 5 (by omega) (by omega), rr]; exact ho
  · rw [E 5 (by omega) (by omega), ri]; exact hi
  · intro a b a1 a2 b1 b2 p1 p2
    rw [e3] at a2 b2
    rw [E _ (by omega) (by omega)] at p1 p2
    have := hx a b a1 a2 b1 b2 p1 p2
    unfold bef at *
    rw [E _ (by omega) (by omega), E _ (by omega) (by omega)]
    exact this
theorem Rep_370 {s : SS} {z z' : Int → Int} (e : E370 z z') (hb : Vb z) (h : Rep s z) : Rep s z' := by
  obtain ⟨v1, v2, v3, v4, v5⟩ := hb
  obtain ⟨⟨t1, t2⟩, ⟨c1, c2, c3, c4, c5, c6, c7, c8⟩, ⟨m1, m2, m3, m4⟩, hd, hin, ho⟩ := h
  have E : ∀ k, 0 ≤ k → k < 370 → z' k = z k := e
  have e3 := E 3 (by omega) (by omega)
  have e4 := E 4 (by omega) (by omega)
  have lst : ∀ (nu fi le : Int → Int) (to kind : Int), (kind = 0 ∨ kind = 1) → RLs (s.2 2) nu fi le to z kind → RLs (s.2 2) nu fi le to z' kind := fun nu fi le to kind hk h => RLs_keep h (fun _ _ _ => ⟨rfl, rfl, rfl⟩) (fun _ _ _ _ _ => rfl) (fun r g => by
    rw [e3]
    refine ⟨fun w => ?_, fun w => ?_⟩
    · rw [E _ (by omega) (by omega)] at w; exact w
    · rw [E _ (by omega) (by omega)]; exact w) (fun r a b _ _ => ⟨E _ (by omega) (by omega), E _ (by omega) (by omega)⟩) (by omega) hk
  refine ⟨⟨by rw [e3]; exact t1, fun r a b => ?_⟩, ⟨?_, ?_, ?_, ?_, ?_, ?_, ?_, ?_⟩, ⟨m1, fun i a b => ?_, m3, fun r a b c => ?_⟩, lst _ _ _ _ 0 (Or.inl rfl) hd, lst _ _ _ _ 1 (Or.inr rfl) hin, ho.1, ChL_ext ho.2.1 (fun _ _ => rfl) (fun r g => ?_) (fun r a b _ => E _ (by omega) (by omega)), ho.2.2⟩
  · rw [e3] at b
    rw [E _ (by omega) (by omega), E _ (by omega) (by omega)]
    exact t2 r a b
  · rw [E 1 (by omega) (by omega)]; exact c1
  · rw [E 2 (by omega) (by omega)]; exact c2
  · rw [E 0 (by omega) (by omega)]; exact c3
  · rw [E 6 (by omega) (by omega)]; exact c4
  · rw [E 7 (by omega) (by omega)]; exact c5
  · rw [E 8 (by omega) (by omega)]; exact c6
  · rw [E 9 (by omega) (by omega)]; exact c7
  · rw [e4]; exact c8
  · obtain ⟨q1, q2, q3⟩ := m2 i a b
    rw [e3, E _ (by omega) (by omega)]
    exact ⟨q1, q2, q3⟩
  · rw [e3] at b
    rw [E _ (by omega) (by omega)] at c
    exact m4 r a b c
  · rw [e3]
    refine ⟨fun w => ⟨w.1, ?_⟩, fun w => ⟨w.1, ?_⟩⟩
    · have := w.2
      rw [E _ (by omega) (by omega)] at this; exact this
    · rw [E _ (by omega) (by omega)]; exact w.2
/-- what holds of a state after n calls -/
def HInv (n : Int) (z : Int → Int) : Prop := Vz z ∧ z 4 ≤ 60000 * n ∧ z 7 ≤ 120000 * n ∧ z 8 ≤ 60000 * n ∧ z 9 ≤ 60000 * n
theorem HInv_370 {n : Int} {z z' : Int → Int} (e : E370 z z') (h : HInv n z) : HInv n z' := by
  obtain ⟨h1, h4, h7, h8, h9⟩ := h
  have E : ∀ k, 0 ≤ k → k < 370 → z' k = z k := e
  exact ⟨Vz_370 e h1, by rw [E 4 (by omega) (by omega)]; exact h4, by rw [E 7 (by omega) (by omega)]; exact h7, by rw [E 8 (by omega) (by omega)]; exact h8, by rw [E 9 (by omega) (by omega)]; exact h9⟩
theorem HInv_mono {n m : Int} {z : Int → Int} (h : HInv n z) (hm : n ≤ m) : HInv m z := by
  obtain ⟨h1, h4, h7, h8, h9⟩ := h
  exact ⟨h1, by omega, by omega, by omega, by omega⟩
theorem HInv_Bd {n : Int} {z : Int → Int} (h : HInv n z) (hn : n ≤ 600) : Bd z 60000 ∧ Bd z 50000 := by
  obtain ⟨h1, h4, h7, h8, h9⟩ := h
  exact ⟨⟨by omega, by omega, by omega, by omega⟩, ⟨by omega, by omega, by omega, by omega⟩⟩
theorem Rep_B01 {s : SS} {z : Int → Int} (hz : Vz z) (h : Rep s z) : B01 s := by
  have ⟨_, ⟨c1, c2, _⟩, _⟩ := h
  have ⟨_, ⟨_, s1, s2, _⟩, _⟩ := hz
  exact ⟨by omega, by omega⟩
/-- a state and what the reference has in its place -/
def RH (n : Int) (s : SS) (z : Int → Int) : Prop := Rep s z ∧ HInv n z
theorem RH_370 {n : Int} {s : SS} {z z' : Int → Int} (e : E370 z z') (h : RH n s z) : RH n s z' := ⟨Rep_370 e h.2.1.1 h.1, HInv_370 e h.2⟩
theorem RH_mono {n m : Int} {s : SS} {z : Int → Int} (h : RH n s z) (hm : n ≤ m) : RH m s z := ⟨h.1, HInv_mono h.2 hm⟩
def Hst (ol tt : Int) (s0 s1 s2 s3 : SS) (past : Int → Int) (n : Int) : Prop := (0 ≤ ol ∧ ol < 4 ∧ 0 ≤ tt ∧ tt ≤ 4) ∧ ∀ j, 0 ≤ j → j < tt → RH n (seS ((ol + j) % 4) s0 s1 s2 s3) (fun i => past (j * 370 + i))
def Rep6 (c v : SS) (hs ol tt : Int) (s0 s1 s2 s3 : SS) (cs : Int → Int) (ln : Int) (m : SS) (n : Int) : Prop := RH n c (m.2 0) ∧ ((hs = 0 ∨ hs = 1) ∧ m.1 4 = hs ∧ (hs = 1 → RH n v (m.2 3))) ∧ (m.1 2 = tt ∧ Hst ol tt s0 s1 s2 s3 (m.2 1) n) ∧ cs = m.2 6 ∧ ln = m.1 7 ∧ (0 ≤ ln ∧ ln ≤ 80) ∧ ∀ i, 0 ≤ i → i < ln → 33 ≤ cs i ∧ cs i ≤ 126
theorem Hst_rec {ol tt n : Int} {s0 s1 s2 s3 c : SS} {past z : Int → Int} (h : Hst ol tt s0 s1 s2 s3 past n) (hc : RH n c z) : Hst (rmO ol tt) (recN tt + 1) (rmS 0 ol tt c s0) (rmS 1 ol tt c s1) (rmS 2 ol tt c s2) (rmS 3 ol tt c s3) (recP past tt z) n := by
  obtain ⟨⟨a1, a2, a3, a4⟩, hj⟩ := h
  have hO : 0 ≤ rmO ol tt ∧ rmO ol tt < 4 := by unfold rmO; split <;> omega
  have hN : 0 ≤ recN tt ∧ recN tt ≤ 3 := by unfold recN; split <;> omega
  have sel : ∀ k, 0 ≤ k → k < 4 → seS k (rmS 0 ol tt c s0) (rmS 1 ol tt c s1) (rmS 2 ol tt c s2) (rmS 3 ol tt c s3) = if (rmO ol tt + recN tt) % 4 = k then c else seS k s0 s1 s2 s3 := fun k k0 k1 => by
    unfold seS rmS
    by_cases e0 : k = 0
    · rw [if_pos e0, if_pos e0, e0]
    · rw [if_neg e0, if_neg e0]
      by_cases e1 : k = 1
      · rw [if_pos e1, if_pos e1, e1]
      · rw [if_neg e1, if_neg e1]
        by_cases e2 : k = 2
        · rw [if_pos e2, if_pos e2, e2]
        · rw [if_neg e2, if_neg e2, show k = 3 by omega]
  refine ⟨⟨hO.1, hO.2, by omega, by omega⟩, fun j j0 j1 => ?_⟩
  rw [sel _ (by omega) (by omega)]
  by_cases e : j = recN tt
  · rw [if_pos (by rw [e])]
    refine RH_370 (fun k k0 k1 => ?_) hc
    unfold recP
    rw [ofP_in (by omega) (by omega), e]
    congr 1
    omega
  · rw [if_neg (by omega)]
    by_cases t : tt = 4
    · have e1 : rmO ol tt = (ol + 1) % 4 := if_pos t
      have e2 : recN tt = 3 := by rw [t]; rfl
      rw [e1, show ((ol + 1) % 4 + j) % 4 = (ol + (j + 1)) % 4 by omega]
      refine RH_370 (fun k k0 k1 => ?_) (hj (j + 1) (by omega) (by omega))
      unfold recP
      rw [ofP_out (by omega), if_pos t, cpP_in (by omega) (by omega)]
      congr 1
      omega
    · have e1 : rmO ol tt = ol := if_neg t
      have e2 : recN tt = tt := if_neg t
      rw [e1]
      refine RH_370 (fun k k0 k1 => ?_) (hj j j0 (by omega))
      unfold recP
      rw [ofP_out (by omega), if_neg t]
theorem Hst_mono {ol tt n m : Int} {s0 s1 s2 s3 : SS} {past : Int → Int} (h : Hst ol tt s0 s1 s2 s3 past n) (hm : n ≤ m) : Hst ol tt s0 s1 s2 s3 past m := ⟨h.1, fun j a b => RH_mono (h.2 j a b) hm⟩
theorem Rep6_same {c v : SS} {hs ol tt : Int} {s0 s1 s2 s3 : SS} {cs : Int → Int} {ln : Int} {m : SS} {n : Int} (h : Rep6 c v hs ol tt s0 s1 s2 s3 cs ln m n) : Rep6 c v hs ol tt s0 s1 s2 s3 cs ln m (n + 1) := by
  obtain ⟨h1, ⟨h2, h3, h4⟩, ⟨h5, h6⟩, h7⟩ := h
  exact ⟨RH_mono h1 (by omega), ⟨h2, h3, fun q => RH_mono (h4 q) (by omega)⟩, ⟨h5, Hst_mono h6 (by omega)⟩, h7⟩
/-- the state is remembered, then it changes -/
theorem Rep6_new {c c' v : SS} {hs ol tt : Int} {s0 s1 s2 s3 : SS} {cs z' : Int → Int} {ln : Int} {m : SS} {n : Int} (h : Rep6 c v hs ol tt s0 s1 s2 s3 cs ln m n) (hR : Rep c' z') (hI : HInv (n + 1) z') : Rep6 c' v hs (rmO ol tt) (recN tt + 1) (rmS 0 ol tt c s0) (rmS 1 ol tt c s1) (rmS 2 ol tt c s2) (rmS 3 ol tt c s3) cs ln (nxM m z') (n + 1) := by
  obtain ⟨h1, ⟨h2, h3, h4⟩, ⟨h5, h6⟩, h7⟩ := h
  refine ⟨⟨hR, hI⟩, ⟨h2, h3, fun q => RH_mono (h4 q) (by omega)⟩, ⟨by show recN (m.1 2) + 1 = _; rw [h5], ?_⟩, h7⟩
  have q := Hst_rec h6 h1
  show Hst _ _ _ _ _ _ (recP (m.2 1) (m.1 2) (m.2 0)) _
  rw [h5]
  exact Hst_mono q (by omega)
