def wp_X7_add (s : SS) (key : Int) (P : Int → SS → Prop) : Prop :=
  (((0 : Int) ≤ key ∧ key ≤ (999 : Int)) → (((((s.2 0) 2) = 0) → (P (-3) s)) ∧ ((¬ (((s.2 0) 2) = 0)) → (((((s.2 0) 3) = 120) → (P (-4) s)) ∧ ((¬ (((s.2 0) 3) = 120)) → ((0 ≤ (s.1 2) ∧ (s.1 2) ≤ 4) ∧ ((Vb (s.2 0)) ∧ ((rg ((s.2 0) 7 + rowsAt (s.2 0) 1)) ∧ (((s.2 0) 3 < 120) ∧ ((∀ r, 0 ≤ r → r < (s.2 0) 3 → 0 ≤ (s.2 0) (130 + r) ∧ (s.2 0) (130 + r) ≤ 120) ∧ (P ((s.2 0) 3) (sS (sA (sA s 0 (addZ (s.2 0) key)) 1 (recP (s.2 1) (s.1 2) (s.2 0))) 2 (recN (s.1 2) + 1))))))))))))) ∧ ((¬ ((0 : Int) ≤ key ∧ key ≤ (999 : Int))) → (P (-2) s))
set_option maxHeartbeats 1000000 in
theorem sp_X7_add (s : SS) (key : Int) (r_s : RG s) (r_key : rg key) (p0 : Vz (s.2 0)) (p1 : Bd (s.2 0) 50000) (p2 : 0 ≤ (s.1 2) ∧ (s.1 2) ≤ 4) : wp_X7_add s key (fun z o0 => z = (an_add (s.2 0) key) ∧ o0 = (nx_add s key)) := by
  unfold wp_X7_add an_add nx_add
  obtain ⟨hb, h7, h41, h9, h8, h4⟩ := pubF p0 p1
  have ⟨v1, v2, v3, v4, v5⟩ := hb
  refine ⟨fun c => ⟨fun c2 => ?_, fun c2 => ⟨fun c3 => ?_, fun c3 => ⟨p2, hb, h7, by omega, p0.cnt, ?_⟩⟩⟩, fun c => ?_⟩
  · rw [if_neg (fun h => h c), if_pos c2, if_neg (fun h => h c), if_pos c2]; exact ⟨rfl, rfl⟩
  · rw [if_neg (fun h => h c), if_neg c2, if_pos c3, if_neg (fun h => h c), if_neg c2, if_pos c3]; exact ⟨rfl, rfl⟩
  · rw [if_neg (fun h => h c), if_neg c2, if_neg c3, if_neg (fun h => h c), if_neg c2, if_neg c3, nxM_eq]; exact ⟨rfl, rfl⟩
  · rw [if_pos c, if_pos c]; exact ⟨rfl, rfl⟩
def wp_X7_combine (s : SS) (b : Int) (P : Int → SS → Prop) : Prop :=
  ((0 < ((s.2 0) 3)) → (P (-3) s)) ∧ ((¬ (0 < ((s.2 0) 3))) → ((0 ≤ (s.1 2) ∧ (s.1 2) ≤ 4) ∧ (((b = 0) → (P ((s.2 0) 1) (sS (sA (sA s 0 (uZ (s.2 0) 1 0)) 1 (recP (s.2 1) (s.1 2) (s.2 0))) 2 (recN (s.1 2) + 1)))) ∧ ((¬ (b = 0)) → (P ((s.2 0) 1) (sS (sA (sA s 0 (uZ (s.2 0) 1 1)) 1 (recP (s.2 1) (s.1 2) (s.2 0))) 2 (recN (s.1 2) + 1)))))))
set_option maxHeartbeats 1000000 in
theorem sp_X7_combine (s : SS) (b : Int) (r_s : RG s) (r_b : rg b) (p0 : Vz (s.2 0)) (p1 : Bd (s.2 0) 50000) (p2 : 0 ≤ (s.1 2) ∧ (s.1 2) ≤ 4) : wp_X7_combine s b (fun z o0 => z = (an_combine (s.2 0)) ∧ o0 = (nx_combine s b)) := by
  unfold wp_X7_combine an_combine nx_combine
  refine ⟨fun c => ?_, fun c => ⟨p2, fun c2 => ?_, fun c2 => ?_⟩⟩
  · rw [if_pos c, if_pos c]; exact ⟨rfl, rfl⟩
  · rw [if_neg c, if_neg c, if_pos c2, nxM_eq]; exact ⟨rfl, rfl⟩
  · rw [if_neg c, if_neg c, if_neg c2, nxM_eq]; exact ⟨rfl, rfl⟩
def wp_X7_flush (s : SS)  (P : Int → SS → Prop) : Prop :=
  ((((s.2 0) 2) = 0) → (P (-3) s)) ∧ ((¬ (((s.2 0) 2) = 0)) → ((0 ≤ (s.1 2) ∧ (s.1 2) ≤ 4) ∧ ((Vb (s.2 0)) ∧ ((rg ((s.2 0) 7 + rowsAt (s.2 0) 1)) ∧ (P (if rowsAt (s.2 0) 1 = 0 then -6 else (s.2 0) 4) (sS (sA (sA s 0 (wriZ (s.2 0))) 1 (recP (s.2 1) (s.1 2) (s.2 0))) 2 (recN (s.1 2) + 1)))))))
set_option maxHeartbeats 1000000 in
theorem sp_X7_flush (s : SS)  (r_s : RG s)  (p0 : Vz (s.2 0)) (p1 : Bd (s.2 0) 50000) (p2 : 0 ≤ (s.1 2) ∧ (s.1 2) ≤ 4) : wp_X7_flush s (fun z o0 => z = (an_flush (s.2 0)) ∧ o0 = (nx_flush s)) := by
  unfold wp_X7_flush an_flush nx_flush
  obtain ⟨hb, h7, h41, h9, h8, h4⟩ := pubF p0 p1
  have ⟨v1, v2, v3, v4, v5⟩ := hb
  refine ⟨fun c => ?_, fun c => ⟨p2, hb, h7, ?_⟩⟩
  · rw [if_pos c, if_pos c]; exact ⟨rfl, rfl⟩
  · rw [if_neg c, if_neg c, nxM_eq]; exact ⟨rfl, rfl⟩
def wp_X7_finish (s : SS)  (P : Int → SS → Prop) : Prop :=
  ((((s.2 0) 2) = 0) → (P (-3) s)) ∧ ((¬ (((s.2 0) 2) = 0)) → ((0 ≤ (s.1 2) ∧ (s.1 2) ≤ 4) ∧ ((Vb (s.2 0)) ∧ ((rg ((s.2 0) 7 + rowsAt (s.2 0) 1)) ∧ ((Vb (uZ (wriZ (s.2 0)) 2 0)) ∧ (P (manyZ (uZ (wriZ (s.2 0)) 2 0) 0) (sS (sA (sA s 0 (uZ (wriZ (s.2 0)) 2 0)) 1 (recP (s.2 1) (s.1 2) (s.2 0))) 2 (recN (s.1 2) + 1))))))))
set_option maxHeartbeats 1000000 in
theorem sp_X7_finish (s : SS)  (r_s : RG s)  (p0 : Vz (s.2 0)) (p1 : Bd (s.2 0) 50000) (p2 : 0 ≤ (s.1 2) ∧ (s.1 2) ≤ 4) : wp_X7_finish s (fun z o0 => z = (an_finish (s.2 0)) ∧ o0 = (nx_finish s)) := by
  unfold wp_X7_finish an_finish nx_finish
  obtain ⟨hb, h7, h41, h9, h8, h4⟩ := pubF p0 p1
  have ⟨v1, v2, v3, v4, v5⟩ := hb
  refine ⟨fun c => ?_, fun c => ⟨p2, hb, h7, (finZ_Vz p0 h4).1, ?_⟩⟩
  · rw [if_pos c, if_pos c]; exact ⟨rfl, rfl⟩
  · rw [if_neg c, if_neg c, nxM_eq]; exact ⟨rfl, rfl⟩
def wp_X7_isCollecting (s : SS)  (P : Int → Prop) : Prop :=
  P ((s.2 0) 2)
set_option maxHeartbeats 1000000 in
theorem sp_X7_isCollecting (s : SS)  (r_s : RG s)   : wp_X7_isCollecting s (fun z => z = ((s.2 0) 2)) := by
  unfold wp_X7_isCollecting
  (repeat' first | (refine And.intro ?_ ?_) | intro _)
  all_goals first | rfl | assumption | omega | (unfold rg at *; omega) | (exact (pz_t (by omega)).symm) | (exact (pz_f (by omega)).symm)
def wp_X7_grant (s : SS) (size : Int) (P : Int → SS → Prop) : Prop :=
  ((2 ≤ size ∧ size ≤ 20) → ((0 ≤ (s.1 2) ∧ (s.1 2) ≤ 4) ∧ ((Vb (s.2 0)) ∧ ((2 ≤ size ∧ size ≤ 20) ∧ ((rg ((s.2 0) 7 + rowsAt (s.2 0) 1)) ∧ (((s.2 0) 4 + 1 + manyZ (s.2 0) 1 ≤ 900000000) ∧ ((rg ((s.2 0) 9 + 1)) ∧ (P (graA (s.2 0) size) (sS (sA (sA s 0 (graZ (s.2 0) size)) 1 (recP (s.2 1) (s.1 2) (s.2 0))) 2 (recN (s.1 2) + 1)))))))))) ∧ ((¬ (2 ≤ size ∧ size ≤ 20)) → (P (-2) s))
set_option maxHeartbeats 1000000 in
theorem sp_X7_grant (s : SS) (size : Int) (r_s : RG s) (r_size : rg size) (p0 : Vz (s.2 0)) (p1 : Bd (s.2 0) 50000) (p2 : 0 ≤ (s.1 2) ∧ (s.1 2) ≤ 4) : wp_X7_grant s size (fun z o0 => z = (an_grant (s.2 0) size) ∧ o0 = (nx_grant s size)) := by
  unfold wp_X7_grant an_grant nx_grant
  obtain ⟨hb, h7, h41, h9, h8, h4⟩ := pubF p0 p1
  have ⟨v1, v2, v3, v4, v5⟩ := hb
  refine ⟨fun c => ⟨p2, hb, c, h7, h41, h9, ?_⟩, fun c => ?_⟩
  · rw [if_neg (fun h => h c), if_neg (fun h => h c), nxM_eq]; exact ⟨rfl, rfl⟩
  · rw [if_pos c, if_pos c]; exact ⟨rfl, rfl⟩
def wp_X7_memory (s : SS) (part : Int) (P : Int → Prop) : Prop :=
  ((part = 0) → (P ((s.2 0) 0))) ∧ (((part = 1) → (((((s.2 0) 2) = 1) → ((Vb (s.2 0)) ∧ (P (rowsAt (s.2 0) (1 : Int))))) ∧ ((¬ (((s.2 0) 2) = 1)) → (((((s.2 0) 5) = 1) → ((Vb (s.2 0)) ∧ (rg ((manyZ (s.2 0) 1) + 1) ∧ (P ((manyZ (s.2 0) 1) + 1))))) ∧ ((¬ (((s.2 0) 5) = 1)) → (P 0)))))) ∧ (((part = 2) → ((0 ≤ ((s.2 0) 0) ∧ ((s.2 0) 0) ≤ 1000) ∧ (P (waysZ ((s.2 0) 0))))) ∧ ((((part < 0 ∨ 2 < part)) → (P (-2))))))
set_option maxHeartbeats 1000000 in
theorem sp_X7_memory (s : SS) (part : Int) (r_s : RG s) (r_part : rg part) (p0 : Vz (s.2 0)) (p1 : Bd (s.2 0) 50000) (p2 : 0 ≤ (s.1 2) ∧ (s.1 2) ≤ 4) : wp_X7_memory s part (fun z => z = (an_memory (s.2 0) part)) := by
  unfold wp_X7_memory an_memory
  obtain ⟨hb, h7, h41, h9, h8, h4⟩ := pubF p0 p1
  have ⟨v1, v2, v3, v4, v5⟩ := hb
  have hm := manyZ_nn (z := s.2 0) (k := 1) v3
  have s0 := p0.2.1.1
  refine ⟨fun c => by rw [if_pos c], fun c => ⟨fun c2 => ⟨hb, by rw [if_neg (by omega), if_pos c, if_pos c2]⟩, fun c2 => ⟨fun c3 => ⟨hb, by unfold rg; omega, by rw [if_neg (by omega), if_pos c, if_neg c2, if_pos c3]⟩, fun c3 => by rw [if_neg (by omega), if_pos c, if_neg c2, if_neg c3]⟩⟩, fun c => ⟨by omega, by rw [if_neg (by omega), if_neg (by omega), if_pos c]⟩, fun c => by rw [if_neg (by omega), if_neg (by omega), if_neg (by omega)]⟩
def wp_X7_inMemory (s : SS) (index : Int) (P : Int → Prop) : Prop :=
  ∃ (I2 : Int → Int → Prop) (μ3 : Int → Int → Nat), I2 index 0 ∧ ∀ (x2_1 : Int) (x3_1 : Int), rg x2_1 → rg x3_1 → I2 x2_1 x3_1 → (((x3_1 < ((s.2 0) 3)) → (((index < 0) → (P (-1))) ∧ ((¬ (index < 0)) → ((0 ≤ x3_1 ∧ x3_1 < 120) ∧ (((((s.2 0) (250 + x3_1)) = 1) → (((x2_1 = 0) → (rg (10 + x3_1) ∧ ((0 ≤ (10 + x3_1) ∧ (10 + x3_1) < 370) ∧ (P ((s.2 0) (10 + x3_1)))))) ∧ ((¬ (x2_1 = 0)) → (rg (x2_1 + (-1)) ∧ (rg (x3_1 + 1) ∧ (I2 (x2_1 + (-1)) (x3_1 + 1) ∧ μ3 (x2_1 + (-1)) (x3_1 + 1) < μ3 x2_1 x3_1)))))) ∧ ((¬ (((s.2 0) (250 + x3_1)) = 1)) → (rg (x3_1 + 1) ∧ (I2 x2_1 (x3_1 + 1) ∧ μ3 x2_1 (x3_1 + 1) < μ3 x2_1 x3_1)))))))) ∧ ((¬ (x3_1 < ((s.2 0) 3))) → (P (-1))))
set_option maxHeartbeats 1000000 in
theorem sp_X7_inMemory (s : SS) (index : Int) (r_s : RG s) (r_index : rg index) (p0 : Vz (s.2 0)) (p1 : Bd (s.2 0) 50000) (p2 : 0 ≤ (s.1 2) ∧ (s.1 2) ≤ 4) : wp_X7_inMemory s index (fun z => z = (an_inMemory (s.2 0) index)) := by
  unfold wp_X7_inMemory
  obtain ⟨hb, h7, h41, h9, h8, h4⟩ := pubF p0 p1
  have ⟨v1, v2, v3, v4, v5⟩ := hb
  have hs := imZ_spec (z := s.2 0) (index := index) (s.2 0 3).toNat
  have sr : ∀ n : Nat, 0 ≤ sumI (fun r => pz (s.2 0 (250 + r) = 1)) n ∧ sumI (fun r => pz (s.2 0 (250 + r) = 1)) n ≤ n := sumI_01 (fun r => pz_01 _)
  have neg : index < 0 → -1 = an_inMemory (s.2 0) index := by
    intro c
    unfold an_inMemory
    rcases hs with ⟨g, _⟩ | ⟨g1, g2, g3, g4⟩
    · rw [if_pos g]
    · have := (sr (imZ (s.2 0) index (s.2 0 3).toNat).toNat).1; omega
  refine ⟨fun left r => 0 ≤ r ∧ r ≤ s.2 0 3 ∧ left = index - sumI (fun r => pz (s.2 0 (250 + r) = 1)) r.toNat ∧ (0 ≤ index → 0 ≤ left), fun _ r => (s.2 0 3 - r).toNat, ⟨by omega, by omega, by show index = index - 0; omega, fun h => h⟩, ?_⟩
  intro left r rl rr ⟨h0, h1, h2, h3⟩
  dsimp only
  have e : sumI (fun r => pz (s.2 0 (250 + r) = 1)) (r + 1).toNat = sumI (fun r => pz (s.2 0 (250 + r) = 1)) r.toNat + pz (s.2 0 (250 + r) = 1) := sumI_S h0
  refine ⟨fun c => ⟨neg, fun c2 => ⟨by omega, fun c3 => ⟨fun c4 => ⟨by unfold rg; omega, by omega, ?_⟩, fun c4 => ⟨by unfold rg at *; omega, by unfold rg; omega, ⟨by omega, by omega, ?_, fun h => ?_⟩, by omega⟩⟩, fun c3 => ⟨by unfold rg; omega, ⟨by omega, by omega, ?_, h3⟩, by omega⟩⟩⟩, fun c => ?_⟩
  · unfold an_inMemory
    rcases hs with ⟨g, g9⟩ | ⟨g1, g2, g3, g4⟩
    · exact absurd ⟨by rw [show ((r.toNat : Nat) : Int) = r by omega]; exact c3, by omega⟩ (g9 r.toNat (by omega))
    · rw [if_neg (by omega)]
      have := cnt_same (P := fun r => s.2 0 (250 + r) = 1) (i := r.toNat) (j := (imZ (s.2 0) index (s.2 0 3).toNat).toNat) (by rw [show ((r.toNat : Nat) : Int) = r by omega]; exact c3) (by rw [show (((imZ (s.2 0) index (s.2 0 3).toNat).toNat : Nat) : Int) = imZ (s.2 0) index (s.2 0 3).toNat by omega]; exact g3) (by omega)
      rw [show imZ (s.2 0) index (s.2 0 3).toNat = r by omega]
  · rw [e, pz_t c3]; omega
  · have := h3 h; omega
  · rw [e, pz_f c3]; omega
  · unfold an_inMemory
    rcases hs with ⟨g, g9⟩ | ⟨g1, g2, g3, g4⟩
    · rw [if_pos g]
    · by_cases ci : index < 0
      · exact neg ci
      have := sumI_mono (f := fun r => pz (s.2 0 (250 + r) = 1)) (fun r => pz_nn _) (m := (imZ (s.2 0) index (s.2 0 3).toNat).toNat + 1) (n := r.toNat) (by omega)
      rw [sumI, show (((imZ (s.2 0) index (s.2 0 3).toNat).toNat : Nat) : Int) = imZ (s.2 0) index (s.2 0 3).toNat by omega, pz_t g3] at this
      have := h3 (by omega)
      omega
def wp_X7_isMerging (s : SS)  (P : Int → Prop) : Prop :=
  P ((s.2 0) 5)
set_option maxHeartbeats 1000000 in
theorem sp_X7_isMerging (s : SS)  (r_s : RG s)   : wp_X7_isMerging s (fun z => z = ((s.2 0) 5)) := by
  unfold wp_X7_isMerging
  (repeat' first | (refine And.intro ?_ ?_) | intro _)
  all_goals first | rfl | assumption | omega | (unfold rg at *; omega) | (exact (pz_t (by omega)).symm) | (exact (pz_f (by omega)).symm)
def wp_X7_isDone (s : SS)  (P : Int → Prop) : Prop :=
  ((((s.2 0) 2) = 0) → (((((s.2 0) 5) = 0) → ((Vb (s.2 0)) ∧ ((((manyZ (s.2 0) 0) < 2) → (P 1)) ∧ ((¬ ((manyZ (s.2 0) 0) < 2)) → (P 0))))) ∧ ((¬ (((s.2 0) 5) = 0)) → (P 0)))) ∧ ((¬ (((s.2 0) 2) = 0)) → (P 0))
set_option maxHeartbeats 1000000 in
theorem sp_X7_isDone (s : SS)  (r_s : RG s)  (p0 : Vz (s.2 0)) (p1 : Bd (s.2 0) 50000) (p2 : 0 ≤ (s.1 2) ∧ (s.1 2) ≤ 4) : wp_X7_isDone s (fun z => z = (an_isDone (s.2 0))) := by
  unfold wp_X7_isDone an_isDone
  obtain ⟨hb, h7, h41, h9, h8, h4⟩ := pubF p0 p1
  have ⟨v1, v2, v3, v4, v5⟩ := hb
  have s2 := p0.2.1.2.2.1
  have s5 := p0.2.1.2.2.2.1
  (repeat' first | exact hb | (refine And.intro ?_ ?_) | intro _)
  all_goals first | omega | (exact (pz_t (by omega)).symm) | (exact (pz_f (by omega)).symm)
def wp_X7_ofMerge (s : SS) (part : Int) (P : Int → Prop) : Prop :=
  (((0 : Int) ≤ part ∧ part ≤ (3 : Int)) → (((((s.2 0) 5) = 0) → (P (-6))) ∧ ((¬ (((s.2 0) 5) = 0)) → (((part = 0) → (P ((s.2 0) 6))) ∧ ((¬ (part = 0)) → (((part = 1) → ((Vb (s.2 0)) ∧ (P (manyZ (s.2 0) 1)))) ∧ ((¬ (part = 1)) → (((part = 2) → ((Vb (s.2 0)) ∧ (P (rowsAt (s.2 0) (2 : Int))))) ∧ ((¬ (part = 2)) → ((Vb (s.2 0)) ∧ (P (riZ (s.2 0))))))))))))) ∧ ((¬ ((0 : Int) ≤ part ∧ part ≤ (3 : Int))) → (P (-2)))
set_option maxHeartbeats 1000000 in
theorem sp_X7_ofMerge (s : SS) (part : Int) (r_s : RG s) (r_part : rg part) (p0 : Vz (s.2 0)) (p1 : Bd (s.2 0) 50000) (p2 : 0 ≤ (s.1 2) ∧ (s.1 2) ≤ 4) : wp_X7_ofMerge s part (fun z => z = (an_ofMerge (s.2 0) part)) := by
  unfold wp_X7_ofMerge an_ofMerge
  obtain ⟨hb, h7, h41, h9, h8, h4⟩ := pubF p0 p1
  have ⟨v1, v2, v3, v4, v5⟩ := hb
  have s5 := p0.2.1.2.2.2.1
  (repeat' first | exact hb | (refine And.intro ?_ ?_) | intro _)
  all_goals first
    | omega
    | (rw [if_pos (by omega)]; done)
    | (rw [if_neg (by omega), if_pos (by omega)]; done)
    | (rw [if_neg (by omega), if_neg (by omega), if_pos (by omega)]; done)
    | (rw [if_neg (by omega), if_neg (by omega), if_neg (by omega), if_pos (by omega)]; done)
    | (rw [if_neg (by omega), if_neg (by omega), if_neg (by omega), if_neg (by omega), if_pos (by omega)]; done)
    | (rw [if_neg (by omega), if_neg (by omega), if_neg (by omega), if_neg (by omega), if_neg (by omega)]; done)
def wp_X7_runs (s : SS)  (P : Int → Prop) : Prop :=
  (Vb (s.2 0)) ∧ (P (manyZ (s.2 0) 0))
set_option maxHeartbeats 1000000 in
theorem sp_X7_runs (s : SS)  (r_s : RG s)  (p0 : Vz (s.2 0)) (p1 : Bd (s.2 0) 50000) (p2 : 0 ≤ (s.1 2) ∧ (s.1 2) ≤ 4) : wp_X7_runs s (fun z => z = (manyZ (s.2 0) 0)) := by
  unfold wp_X7_runs
  exact ⟨p0.1, rfl⟩
def wp_X7_runAt (s : SS) (index : Int) (P : Int → Prop) : Prop :=
  (Vb (s.2 0)) ∧ (∃ (I7 : Int → Int → Prop) (μ8 : Int → Int → Nat), I7 index (nxP (s.2 0) (0 : Int) (0 : Int) ((s.2 0) 3).toNat) ∧ ∀ (x2_6 : Int) (x3_6 : Int), rg x2_6 → rg x3_6 → I7 x2_6 x3_6 → (((x3_6 = (-6)) → (P (-1))) ∧ ((¬ (x3_6 = (-6))) → (((index < 0) → (P (-1))) ∧ ((¬ (index < 0)) → (((x2_6 = 0) → (rg (x3_6 - 10) ∧ (0 ≤ (x3_6 - 10) ∧ (P ((x3_6 - 10) / 2))))) ∧ ((¬ (x2_6 = 0)) → (rg (x2_6 + (-1)) ∧ (I7 (x2_6 + (-1)) (nxP (s.2 0) x3_6 (0 : Int) ((s.2 0) 3).toNat) ∧ μ8 (x2_6 + (-1)) (nxP (s.2 0) x3_6 (0 : Int) ((s.2 0) 3).toNat) < μ8 x2_6 x3_6)))))))))
set_option maxHeartbeats 1000000 in
theorem sp_X7_runAt (s : SS) (index : Int) (r_s : RG s) (r_index : rg index) (p0 : Vz (s.2 0)) (p1 : Bd (s.2 0) 50000) (p2 : 0 ≤ (s.1 2) ∧ (s.1 2) ≤ 4) : wp_X7_runAt s index (fun z => z = (raZ (s.2 0) index ((s.2 0) 4).toNat)) := by
  unfold wp_X7_runAt
  obtain ⟨hb, h7, h41, h9, h8, h4⟩ := pubF p0 p1
  have ⟨v1, v2, v3, v4, v5⟩ := hb
  have hz := hb
  have hs := raZ_spec (z := s.2 0) (index := index) (s.2 0 4).toNat
  have sr : ∀ K : Int, 0 ≤ K → _ := fun K h => sum_rng (z := s.2 0) (kind := 0) h
  have neg : index < 0 → -1 = raZ (s.2 0) index (s.2 0 4).toNat := by
    intro c
    rcases hs with ⟨g, _⟩ | ⟨g1, g2, g3, g4⟩
    · exact g.symm
    · have := (sr _ g1).1; omega
  refine ⟨hb, fun left p => (p = -6 ∧ (0 ≤ index → manyZ (s.2 0) 0 ≤ index)) ∨ ∃ K : Int, 0 ≤ K ∧ K < s.2 0 4 ∧ p = 10 + 2 * K ∧ 0 < rowsAt (s.2 0) (10 + 2 * K + 0) ∧ left = index - sumI (fun k => pz (0 < rowsAt (s.2 0) (10 + 2 * k + 0))) K.toNat ∧ sumI (fun k => pz (0 < rowsAt (s.2 0) (10 + 2 * k + 0))) (K + 1).toNat = sumI (fun k => pz (0 < rowsAt (s.2 0) (10 + 2 * k + 0))) K.toNat + 1 ∧ (0 ≤ index → 0 ≤ left), fun _ p => if p = -6 then 0 else (2 * s.2 0 4 + 20 - p).toNat, ?_, ?_⟩
  · rcases many_step (Or.inl rfl) hz 0 0 (by omega) v3 (Or.inr ⟨rfl, rfl⟩) with ⟨g1, g2, _⟩ | ⟨K', g1, g2, g3, g4, g5, g6, g7⟩
    · exact Or.inl ⟨g1, fun h => by rw [← g2]; exact h⟩
    · have e0 : sumI (fun k => pz (0 < rowsAt (s.2 0) (10 + 2 * k + 0))) (0 : Int).toNat = 0 := rfl
      rw [e0] at g6 g7
      exact Or.inr ⟨K', g1, g2, by omega, g4, by omega, by omega, fun h => h⟩
  intro left p rl rp hI
  dsimp only
  refine ⟨fun c => ?_, fun c => ⟨neg, fun c2 => ?_⟩⟩
  · rcases hI with ⟨_, h⟩ | ⟨K, h1, h2, h3, _⟩
    · by_cases ci : index < 0
      · exact neg ci
      rcases hs with ⟨g, _⟩ | ⟨g1, g2, g3, g4⟩
      · exact g.symm
      · have := sumI_mono (f := fun k => pz (0 < rowsAt (s.2 0) (10 + 2 * k + 0))) (fun r => pz_nn _) (m := (raZ (s.2 0) index (s.2 0 4).toNat).toNat + 1) (n := (s.2 0 4).toNat) (by omega)
        rw [sumI, show (((raZ (s.2 0) index (s.2 0 4).toNat).toNat : Nat) : Int) = raZ (s.2 0) index (s.2 0 4).toNat by omega, pz_t g3] at this
        have h5 : sumI (fun k => pz (0 < rowsAt (s.2 0) (10 + 2 * k + 0))) (s.2 0 4).toNat = manyZ (s.2 0) 0 := rfl
        have := h (by omega)
        omega
    · omega
  rcases hI with ⟨h, _⟩ | ⟨K, h1, h2, h3, h4', h5, h6, h7'⟩
  · exact absurd h c
  refine ⟨fun c3 => ⟨by unfold rg at *; omega, by omega, ?_⟩, fun c3 => ⟨by unfold rg at *; omega, ?_⟩⟩
  · rcases hs with ⟨g, g9⟩ | ⟨g1, g2, g3, g4⟩
    · exact absurd ⟨by rw [show ((K.toNat : Nat) : Int) = K by omega]; exact h4', by omega⟩ (g9 K.toNat (by omega))
    · have := cnt_same (P := fun k => 0 < rowsAt (s.2 0) (10 + 2 * k + 0)) (i := K.toNat) (j := (raZ (s.2 0) index (s.2 0 4).toNat).toNat) (by rw [show ((K.toNat : Nat) : Int) = K by omega]; exact h4') (by rw [show (((raZ (s.2 0) index (s.2 0 4).toNat).toNat : Nat) : Int) = raZ (s.2 0) index (s.2 0 4).toNat by omega]; exact g3) (by omega)
      omega
  · rw [if_neg c]
    have hl := h7' (by omega)
    rcases many_step (Or.inl rfl) hz p (K + 1) (by omega) (by omega) (Or.inl (by omega)) with ⟨g1, g2, _⟩ | ⟨K', g1, g2, g3, g4, g5, g6, g7⟩
    · exact ⟨Or.inl ⟨g1, fun h => by omega⟩, by rw [if_pos g1]; omega⟩
    · exact ⟨Or.inr ⟨K', by omega, g2, by omega, g4, by omega, by omega, fun _ => by omega⟩, by rw [if_neg (by omega), g3]; omega⟩
def wp_X7_size (s : SS) (run : Int) (P : Int → Prop) : Prop :=
  (Vb (s.2 0)) ∧ (((0 ≤ run ∧ run ≤ (s.2 0) 4 - 1 ∧ 0 < rowsAt (s.2 0) (10 + 2 * run)) → (rg (2 * run) ∧ (rg (10 + (2 * run)) ∧ (P (rowsAt (s.2 0) (10 + (2 * run))))))) ∧ ((¬ (0 ≤ run ∧ run ≤ (s.2 0) 4 - 1 ∧ 0 < rowsAt (s.2 0) (10 + 2 * run))) → (P (-1))))
set_option maxHeartbeats 1000000 in
theorem sp_X7_size (s : SS) (run : Int) (r_s : RG s) (r_run : rg run) (p0 : Vz (s.2 0)) (p1 : Bd (s.2 0) 50000) (p2 : 0 ≤ (s.1 2) ∧ (s.1 2) ≤ 4) : wp_X7_size s run (fun z => z = (an_size (s.2 0) run)) := by
  unfold wp_X7_size an_size
  obtain ⟨hb, h7, h41, h9, h8, h4⟩ := pubF p0 p1
  have ⟨v1, v2, v3, v4, v5⟩ := hb
  refine ⟨hb, fun c => ⟨by unfold rg; omega, by unfold rg; omega, by rw [if_pos c]⟩, fun c => by rw [if_neg c]⟩
def wp_X7_count (s : SS) (what : Int) (P : Int → Prop) : Prop :=
  ((what = 0) → (P ((s.2 0) 3))) ∧ (((what = 1) → ((Vb (s.2 0)) ∧ (P (sumI (fun r => pz (0 < (s.2 0) (250 + r))) ((s.2 0) 3).toNat)))) ∧ (((what = 2) → ((Vb (s.2 0)) ∧ ((∀ r, 0 ≤ r → r < (s.2 0) 3 → 0 ≤ (s.2 0) (130 + r) ∧ (s.2 0) (130 + r) ≤ 120) ∧ (P (sumI (fun r => if (s.2 0) (10 + r) < (1000 : Int) then (s.2 0) (130 + r) else 0) ((s.2 0) 3).toNat))))) ∧ (((what = 3) → (P ((s.2 0) 7))) ∧ (((what = 4) → (P ((s.2 0) 8))) ∧ (((what = 5) → (P ((s.2 0) 9))) ∧ (((what = 6) → (P ((s.2 0) 4))) ∧ ((((what < 0 ∨ 6 < what)) → (P (-2))))))))))
set_option maxHeartbeats 1000000 in
theorem sp_X7_count (s : SS) (what : Int) (r_s : RG s) (r_what : rg what) (p0 : Vz (s.2 0)) (p1 : Bd (s.2 0) 50000) (p2 : 0 ≤ (s.1 2) ∧ (s.1 2) ≤ 4) : wp_X7_count s what (fun z => z = (an_count (s.2 0) what)) := by
  unfold wp_X7_count an_count
  obtain ⟨hb, h7, h41, h9, h8, h4⟩ := pubF p0 p1
  have ⟨v1, v2, v3, v4, v5⟩ := hb
  (repeat' first | exact hb | exact p0.cnt | (refine And.intro ?_ ?_) | intro _)
  all_goals first
    | omega
    | (rw [if_pos (by omega)]; done)
    | (rw [if_neg (by omega), if_pos (by omega)]; rfl)
    | (rw [if_neg (by omega), if_neg (by omega), if_pos (by omega)]; rfl)
    | (rw [if_neg (by omega), if_neg (by omega), if_neg (by omega), if_pos (by omega)]; done)
    | (rw [if_neg (by omega), if_neg (by omega), if_neg (by omega), if_neg (by omega), if_pos (by omega)]; done)
    | (rw [if_neg (by omega), if_neg (by omega), if_neg (by omega), if_neg (by omega), if_neg (by omega), if_pos (by omega)]; done)
    | (rw [if_neg (by omega), if_neg (by omega), if_neg (by omega), if_neg (by omega), if_neg (by omega), if_neg (by omega), if_pos (by omega)]; done)
    | (rw [if_neg (by omega), if_neg (by omega), if_neg (by omega), if_neg (by omega), if_neg (by omega), if_neg (by omega), if_neg (by omega)]; done)
def wp_X7_rank (s : SS) (key : Int) (P : Int → Prop) : Prop :=
  (((0 : Int) ≤ key ∧ key ≤ (999 : Int)) → ((Vb (s.2 0)) ∧ ((∀ r, 0 ≤ r → r < (s.2 0) 3 → 0 ≤ (s.2 0) (130 + r) ∧ (s.2 0) (130 + r) ≤ 120) ∧ (P (sumI (fun r => if (s.2 0) (10 + r) < key then (s.2 0) (130 + r) else 0) ((s.2 0) 3).toNat))))) ∧ ((¬ ((0 : Int) ≤ key ∧ key ≤ (999 : Int))) → (P (-2)))
set_option maxHeartbeats 1000000 in
theorem sp_X7_rank (s : SS) (key : Int) (r_s : RG s) (r_key : rg key) (p0 : Vz (s.2 0)) (p1 : Bd (s.2 0) 50000) (p2 : 0 ≤ (s.1 2) ∧ (s.1 2) ≤ 4) : wp_X7_rank s key (fun z => z = (an_rank (s.2 0) key)) := by
  unfold wp_X7_rank an_rank
  refine ⟨fun c => ⟨p0.1, p0.cnt, by rw [if_pos c]; rfl⟩, fun c => by rw [if_neg c]⟩
def wp_X7_restore (s : SS)  (P : Int → SS → Prop) : Prop :=
  (((s.1 4) = 0) → (P (-3) s)) ∧ ((¬ ((s.1 4) = 0)) → ((0 ≤ (s.1 2) ∧ (s.1 2) ≤ 4) ∧ (∃ (I11 : Int → SS → Prop) (μ12 : Int → SS → Nat), I11 0 (sS (sA s 1 (recP (s.2 1) (s.1 2) (s.2 0))) 2 (recN (s.1 2) + 1)) ∧ ∀ (x1_10 : Int) (s0_10 : SS), rg x1_10 → RG s0_10 → I11 x1_10 s0_10 → (((x1_10 < 370) → ((0 ≤ x1_10 ∧ x1_10 < 370) ∧ (rg (x1_10 + 1) ∧ (I11 (x1_10 + 1) (sA s0_10 0 (uZ (s0_10.2 0) x1_10 ((s0_10.2 3) x1_10))) ∧ μ12 (x1_10 + 1) (sA s0_10 0 (uZ (s0_10.2 0) x1_10 ((s0_10.2 3) x1_10))) < μ12 x1_10 s0_10)))) ∧ ((¬ (x1_10 < 370)) → (P ((s0_10.2 0) 3) s0_10))))))
set_option maxHeartbeats 1000000 in
theorem sp_X7_restore (s : SS)  (r_s : RG s)  (p0 : 0 ≤ (s.1 2) ∧ (s.1 2) ≤ 4) : wp_X7_restore s (fun z o0 => z = (if (s.1 4) = 0 then -3 else (s.2 3) 3) ∧ o0 = (nx_restore s)) := by
  unfold wp_X7_restore nx_restore
  refine ⟨fun c => ?_, fun c => ⟨p0, ?_⟩⟩
  · rw [if_pos c, if_pos c]; exact ⟨rfl, rfl⟩
  rw [if_neg c, if_neg c]
  refine ⟨fun k t => 0 ≤ k ∧ k ≤ 370 ∧ t = nxM s (cpP (s.2 3) (s.2 0) 0 k), fun k _ => (370 - k).toNat, ⟨by omega, by omega, ?_⟩, ?_⟩
  · rw [cpP_0, nxM_eq, sA_self]
  intro k t rk rt ⟨k0, k1, k2⟩
  subst k2
  have e3 : (nxM s (cpP (s.2 3) (s.2 0) 0 k)).2 3 = s.2 3 := by
    unfold nxM recM
    rw [sA_ne (by decide)]
    show (sA s 1 (recP (s.2 1) (s.1 2) (s.2 0))).2 3 = _
    rw [sA_ne (by decide)]
  have e0 : (nxM s (cpP (s.2 3) (s.2 0) 0 k)).2 0 = cpP (s.2 3) (s.2 0) 0 k := sA_at
  dsimp only
  rw [e3, e0]
  refine ⟨fun c2 => ⟨by omega, by unfold rg; omega, ⟨by omega, by omega, ?_⟩, by omega⟩, fun c2 => ⟨?_, ?_⟩⟩
  · rw [cpP_S k0 (by rw [Int.zero_add])]
    unfold nxM
    rw [sA_sA]
  · rw [show k = 370 by omega, cpP_in (by omega) (by omega)]; rfl
  · rw [show k = 370 by omega]; rfl
def wp_X7_append (s : SS) (code : Int) (P : Int → SS → Prop) : Prop :=
  (((33 : Int) ≤ code ∧ code ≤ (126 : Int)) → ((((s.1 7) = 80) → (P (-4) s)) ∧ ((¬ ((s.1 7) = 80)) → ((0 ≤ code ∧ code < 65536) ∧ ((0 ≤ (s.1 7) ∧ (s.1 7) < 80) ∧ (rg ((s.1 7) + 1) ∧ (P ((s.1 7) + 1) (sS (sA s 6 (uZ (s.2 6) (s.1 7) code)) 7 ((s.1 7) + 1))))))))) ∧ ((¬ ((33 : Int) ≤ code ∧ code ≤ (126 : Int))) → (P (-2) s))
set_option maxHeartbeats 1000000 in
theorem sp_X7_append (s : SS) (code : Int) (r_s : RG s) (r_code : rg code) (p0 : 0 ≤ (s.1 7) ∧ (s.1 7) ≤ 80) : wp_X7_append s code (fun z o0 => z = (an_append s code) ∧ o0 = (nx_append s code)) := by
  unfold wp_X7_append an_append nx_append
  refine ⟨fun c => ⟨fun c2 => ?_, fun c2 => ⟨by omega, by omega, by unfold rg; omega, ?_⟩⟩, fun c => ?_⟩
  · rw [if_neg (fun h => h c), if_pos c2, if_neg (fun h => h c), if_pos c2]; exact ⟨rfl, rfl⟩
  · rw [if_neg (fun h => h c), if_neg c2, if_neg (fun h => h c), if_neg c2]; exact ⟨rfl, rfl⟩
  · rw [if_pos c, if_pos c]; exact ⟨rfl, rfl⟩
def wp_X7_clearText (s : SS)  (P : Int → SS → Prop) : Prop :=
  P (s.1 7) (sS s 7 0)
set_option maxHeartbeats 1000000 in
theorem sp_X7_clearText (s : SS)  (r_s : RG s)   : wp_X7_clearText s (fun z o0 => z = (s.1 7) ∧ o0 = (sS s 7 0)) := by
  unfold wp_X7_clearText
  (repeat' first | (refine And.intro ?_ ?_) | intro _)
  all_goals first | rfl | assumption | omega | (unfold rg at *; omega) | (exact (pz_t (by omega)).symm) | (exact (pz_f (by omega)).symm)
def wp_X7_merge (s : SS)  (P : Int → SS → Prop) : Prop :=
  ((((s.2 0) 2) = 1) → (P (-3) s)) ∧ ((¬ (((s.2 0) 2) = 1)) → (((((s.2 0) 5) = 1) → (P (-3) s)) ∧ ((¬ (((s.2 0) 5) = 1)) → ((Vb (s.2 0)) ∧ ((((manyZ (s.2 0) 0) < 2) → (P (-3) s)) ∧ ((¬ ((manyZ (s.2 0) 0) < 2)) → ((0 ≤ ((s.2 0) 0) ∧ ((s.2 0) 0) ≤ 1000) ∧ ((((waysZ ((s.2 0) 0)) < 2) → (P (-3) s)) ∧ ((¬ ((waysZ ((s.2 0) 0)) < 2)) → ((0 ≤ (s.1 2) ∧ (s.1 2) ≤ 4) ∧ ((2 ≤ (s.2 0) 0 ∧ (s.2 0) 0 ≤ 20) ∧ ((rg ((s.2 0) 8 + 1)) ∧ (P ((begZ (s.2 0)) 6) (sS (sA (sA s 0 (begZ (s.2 0))) 1 (recP (s.2 1) (s.1 2) (s.2 0))) 2 (recN (s.1 2) + 1)))))))))))))))
set_option maxHeartbeats 1000000 in
theorem sp_X7_merge (s : SS)  (r_s : RG s)  (p0 : Vz (s.2 0)) (p1 : Bd (s.2 0) 50000) (p2 : 0 ≤ (s.1 2) ∧ (s.1 2) ≤ 4) : wp_X7_merge s (fun z o0 => z = (if (s.2 0) 2 = 1 ∨ (s.2 0) 5 = 1 ∨ manyZ (s.2 0) 0 < 2 ∨ waysZ ((s.2 0) 0) < 2 then -3 else begN (s.2 0)) ∧ o0 = (if (s.2 0) 2 = 1 ∨ (s.2 0) 5 = 1 ∨ manyZ (s.2 0) 0 < 2 ∨ waysZ ((s.2 0) 0) < 2 then s else nxM s (begZ (s.2 0)))) := by
  unfold wp_X7_merge
  obtain ⟨hb, h7, h41, h9, h8, h4⟩ := pubF p0 p1
  have ⟨v1, v2, v3, v4, v5⟩ := hb
  have s0 := p0.2.1.1
  refine ⟨fun c => ?_, fun c => ⟨fun c2 => ?_, fun c2 => ⟨hb, fun c3 => ?_, fun c3 => ⟨by omega, fun c4 => ?_, fun c4 => ⟨p2, s0, h8, ?_⟩⟩⟩⟩⟩
  · rw [if_pos (Or.inl c), if_pos (Or.inl c)]; exact ⟨rfl, rfl⟩
  · rw [if_pos (Or.inr (Or.inl c2)), if_pos (Or.inr (Or.inl c2))]; exact ⟨rfl, rfl⟩
  · rw [if_pos (Or.inr (Or.inr (Or.inl c3))), if_pos (Or.inr (Or.inr (Or.inl c3)))]; exact ⟨rfl, rfl⟩
  · rw [if_pos (Or.inr (Or.inr (Or.inr c4))), if_pos (Or.inr (Or.inr (Or.inr c4)))]; exact ⟨rfl, rfl⟩
  · have hn : ¬ (s.2 0 2 = 1 ∨ s.2 0 5 = 1 ∨ manyZ (s.2 0) 0 < 2 ∨ waysZ (s.2 0 0) < 2) := by omega
    rw [if_neg hn, if_neg hn, nxM_eq, begZ_6 hb]; exact ⟨rfl, rfl⟩
