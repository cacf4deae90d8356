def wp_X5_isInMemory (s : SS) (index : Int) (P : Int → Prop) : Prop :=
  ((index < 0) → (P 0)) ∧ ((¬ (index < 0)) → (((index < (s.1 6)) → (P 1)) ∧ ((¬ (index < (s.1 6))) → (P 0))))
set_option maxHeartbeats 1000000 in
theorem sp_X5_isInMemory (s : SS) (index : Int) (r_s : RG s) (r_index : rg index)  : wp_X5_isInMemory s index (fun z => z = (pz (0 ≤ index ∧ index < (s.1 6)))) := by
  unfold wp_X5_isInMemory
  (repeat' first | (refine And.intro ?_ ?_) | intro _)
  all_goals first | (unfold rg at *; omega) | omega | (exact (pz_t (by omega)).symm) | (exact (pz_f (by omega)).symm)
def wp_X5_memoryRowAt (s : SS) (index : Int) (P : Int → Prop) : Prop :=
  ((index < 0) → (P (-1))) ∧ ((¬ (index < 0)) → (((index < 20) → ((0 ≤ index ∧ index < 20) ∧ (P ((s.2 9) index)))) ∧ ((¬ (index < 20)) → (P (-1)))))
set_option maxHeartbeats 1000000 in
theorem sp_X5_memoryRowAt (s : SS) (index : Int) (r_s : RG s) (r_index : rg index) (p0 : 0 ≤ index ∧ index < 20) : wp_X5_memoryRowAt s index (fun z => z = ((s.2 9) index)) := by
  unfold wp_X5_memoryRowAt
  refine ⟨fun _ => by omega, fun _ => ⟨fun _ => ⟨p0, rfl⟩, fun _ => by omega⟩⟩
def wp_X5_hasMerge (s : SS)  (P : Int → Prop) : Prop :=
  ((0 < (s.1 18)) → (P 1)) ∧ ((¬ (0 < (s.1 18))) → (P 0))
set_option maxHeartbeats 1000000 in
theorem sp_X5_hasMerge (s : SS)  (r_s : RG s)   : wp_X5_hasMerge s (fun z => z = (pz (0 < (s.1 18)))) := by
  unfold wp_X5_hasMerge
  (repeat' first | (refine And.intro ?_ ?_) | intro _)
  all_goals first | (unfold rg at *; omega) | omega | (exact (pz_t (by omega)).symm) | (exact (pz_f (by omega)).symm)
def wp_X5_isSorted (s : SS)  (P : Int → Prop) : Prop :=
  (((s.1 3) = 0) → (((0 < (s.1 18)) → (P 0)) ∧ ((¬ (0 < (s.1 18))) → (((1 < (s.1 17)) → (P 0)) ∧ ((¬ (1 < (s.1 17))) → (P 1)))))) ∧ ((¬ ((s.1 3) = 0)) → (P 0))
set_option maxHeartbeats 1000000 in
theorem sp_X5_isSorted (s : SS)  (r_s : RG s)   : wp_X5_isSorted s (fun z => z = (pz ((s.1 3) = 0 ∧ ¬ 0 < (s.1 18) ∧ (s.1 17) ≤ 1))) := by
  unfold wp_X5_isSorted
  (repeat' first | (refine And.intro ?_ ?_) | intro _)
  all_goals first | (unfold rg at *; omega) | omega | (exact (pz_t (by omega)).symm) | (exact (pz_f (by omega)).symm)
def wp_X5_ways (s : SS)  (P : Int → Prop) : Prop :=
  rg ((s.1 4) - 1) ∧ (P (min ((s.1 4) - 1) 8))
set_option maxHeartbeats 1000000 in
theorem sp_X5_ways (s : SS)  (r_s : RG s)  (p0 : 2 ≤ (s.1 4) ∧ (s.1 4) ≤ 20) : wp_X5_ways s (fun z => z = (waysZ (s.1 4))) := by
  unfold wp_X5_ways
  exact ⟨by unfold rg at *; omega, rfl⟩
def wp_X5_memoryInUse (s : SS)  (P : Int → Prop) : Prop :=
  (((s.1 3) = 0) → (((0 < (s.1 18)) → (rg ((s.1 18) + 1) ∧ (P ((s.1 18) + 1)))) ∧ ((¬ (0 < (s.1 18))) → (P 0)))) ∧ ((¬ ((s.1 3) = 0)) → (P (s.1 6)))
set_option maxHeartbeats 1000000 in
theorem sp_X5_memoryInUse (s : SS)  (r_s : RG s)  (p0 : 0 ≤ (s.1 18) ∧ (s.1 18) ≤ 120) : wp_X5_memoryInUse s (fun z => z = (if (s.1 3) = 0 then (if 0 < (s.1 18) then (s.1 18) + 1 else 0) else (s.1 6))) := by
  unfold wp_X5_memoryInUse
  refine ⟨fun c => ⟨fun d => ⟨by unfold rg at *; omega, by rw [if_pos c, if_pos d]⟩, fun d => by rw [if_pos c, if_neg d]⟩, fun c => by rw [if_neg c]⟩
def wp_X5_placeInMemory (s : SS) (index : Int) (row : Int) (P : SS → Prop) : Prop :=
  ((index < 0) → (P s)) ∧ ((¬ (index < 0)) → (((index < 20) → ((0 ≤ index ∧ index < 20) ∧ (P (sA s 9 (uZ (s.2 9) index row))))) ∧ ((¬ (index < 20)) → (P s))))
set_option maxHeartbeats 1000000 in
theorem sp_X5_placeInMemory (s : SS) (index : Int) (row : Int) (r_s : RG s) (r_index : rg index) (r_row : rg row) (p0 : 0 ≤ index ∧ index < 20) : wp_X5_placeInMemory s index row (fun o0 => o0 = (sA s 9 (uZ (s.2 9) index row))) := by
  unfold wp_X5_placeInMemory
  refine ⟨fun _ => by omega, fun _ => ⟨fun _ => ⟨p0, rfl⟩, fun _ => by omega⟩⟩
def wp_X5_canBeginMerge (s : SS)  (P : Int → Prop) : Prop :=
  (((s.1 3) = 0) → (((0 < (s.1 18)) → (P 0)) ∧ ((¬ (0 < (s.1 18))) → ((((s.1 17) < 2) → (P 0)) ∧ ((¬ ((s.1 17) < 2)) → ((2 ≤ (s.1 4) ∧ (s.1 4) ≤ 20) ∧ ((((waysZ (s.1 4)) < 2) → (P 0)) ∧ ((¬ ((waysZ (s.1 4)) < 2)) → (P 1))))))))) ∧ ((¬ ((s.1 3) = 0)) → (P 0))
set_option maxHeartbeats 1000000 in
theorem sp_X5_canBeginMerge (s : SS)  (r_s : RG s)  (p0 : 2 ≤ (s.1 4) ∧ (s.1 4) ≤ 20) : wp_X5_canBeginMerge s (fun z => z = (pz ((s.1 3) = 0 ∧ ¬ 0 < (s.1 18) ∧ 2 ≤ (s.1 17) ∧ 2 ≤ waysZ (s.1 4)))) := by
  unfold wp_X5_canBeginMerge
  (repeat' first | (refine And.intro ?_ ?_) | intro _)
  all_goals first | exact p0 | exact p0.1 | exact p0.2 | (exact (pz_t (by omega)).symm) | (exact (pz_f (by omega)).symm)
def wp_X5_canRunToEnd (s : SS)  (P : Int → Prop) : Prop :=
  ((0 < (s.1 6)) → (rg ((s.1 17) + 1) ∧ (((0 < (s.1 18)) → (rg (((s.1 17) + 1) + 1) ∧ (((1 < (((s.1 17) + 1) + 1)) → ((2 ≤ (s.1 4) ∧ (s.1 4) ≤ 20) ∧ ((((waysZ (s.1 4)) < 2) → (P 0)) ∧ ((¬ ((waysZ (s.1 4)) < 2)) → (P 1))))) ∧ ((¬ (1 < (((s.1 17) + 1) + 1))) → (P 1))))) ∧ ((¬ (0 < (s.1 18))) → (((1 < ((s.1 17) + 1)) → ((2 ≤ (s.1 4) ∧ (s.1 4) ≤ 20) ∧ ((((waysZ (s.1 4)) < 2) → (P 0)) ∧ ((¬ ((waysZ (s.1 4)) < 2)) → (P 1))))) ∧ ((¬ (1 < ((s.1 17) + 1))) → (P 1))))))) ∧ ((¬ (0 < (s.1 6))) → (((0 < (s.1 18)) → (rg ((s.1 17) + 1) ∧ (((1 < ((s.1 17) + 1)) → ((2 ≤ (s.1 4) ∧ (s.1 4) ≤ 20) ∧ ((((waysZ (s.1 4)) < 2) → (P 0)) ∧ ((¬ ((waysZ (s.1 4)) < 2)) → (P 1))))) ∧ ((¬ (1 < ((s.1 17) + 1))) → (P 1))))) ∧ ((¬ (0 < (s.1 18))) → (((1 < (s.1 17)) → ((2 ≤ (s.1 4) ∧ (s.1 4) ≤ 20) ∧ ((((waysZ (s.1 4)) < 2) → (P 0)) ∧ ((¬ ((waysZ (s.1 4)) < 2)) → (P 1))))) ∧ ((¬ (1 < (s.1 17))) → (P 1))))))
set_option maxHeartbeats 1000000 in
theorem sp_X5_canRunToEnd (s : SS)  (r_s : RG s)  (p0 : 2 ≤ (s.1 4) ∧ (s.1 4) ≤ 20) (p1 : 0 ≤ (s.1 17) ∧ (s.1 17) ≤ 120) : wp_X5_canRunToEnd s (fun z => z = (pz ((s.1 17) + pz (0 < (s.1 6)) + pz (0 < (s.1 18)) ≤ 1 ∨ 2 ≤ waysZ (s.1 4)))) := by
  unfold wp_X5_canRunToEnd
  by_cases e1 : 0 < s.1 6 <;> by_cases e3 : 0 < s.1 18 <;> (first | rw [pz_t e1] | rw [pz_f e1]) <;> (first | rw [pz_t e3] | rw [pz_f e3])
  all_goals (repeat' first | (refine And.intro ?_ ?_) | intro _)
  all_goals first | (unfold rg at *; omega) | omega | exact p0.1 | exact p0.2 | (exact (pz_t (by omega)).symm) | (exact (pz_f (by omega)).symm)
def wp_X5_rowInMemoryWith (s : SS) (key : Int) (P : Int → Prop) : Prop :=
  ∃ (I2 : Int → Prop) (μ3 : Int → Nat), I2 0 ∧ ∀ (x2_1 : Int), rg x2_1 → I2 x2_1 → (((x2_1 < (s.1 6)) → ((0 ≤ x2_1 ∧ x2_1 < 20) ∧ ((0 ≤ ((s.2 9) x2_1) ∧ ((s.2 9) x2_1) < 120) ∧ (((((s.2 0) ((s.2 9) x2_1)) = key) → (P ((s.2 9) x2_1))) ∧ ((¬ (((s.2 0) ((s.2 9) x2_1)) = key)) → (rg (x2_1 + 1) ∧ (I2 (x2_1 + 1) ∧ μ3 (x2_1 + 1) < μ3 x2_1))))))) ∧ ((¬ (x2_1 < (s.1 6))) → (P (-1))))
set_option maxHeartbeats 1000000 in
theorem sp_X5_rowInMemoryWith (s : SS) (key : Int)  (r_s : RG s) (r_key : rg key) (p0 : 0 ≤ (s.1 6) ∧ (s.1 6) ≤ 20) (p1 : ∀ i, 0 ≤ i → i < (s.1 6) → 0 ≤ (s.2 9) i ∧ (s.2 9) i < 120) : wp_X5_rowInMemoryWith s key (fun r => (r = -1 ∧ ∀ i, 0 ≤ i → i < (s.1 6) → (s.2 0) ((s.2 9) i) ≠ key) ∨ ∃ i, 0 ≤ i ∧ i < (s.1 6) ∧ r = (s.2 9) i ∧ (s.2 0) r = key) := by
  unfold wp_X5_rowInMemoryWith
  refine ⟨fun i => 0 ≤ i ∧ ∀ j, 0 ≤ j → j < i → j < s.1 6 → s.2 0 (s.2 9 j) ≠ key, fun i => (s.1 6 - i).toNat, ⟨by omega, fun j h1 h2 => by omega⟩, ?_⟩
  intro i ri ⟨h0, h1⟩
  dsimp only
  refine ⟨fun c => ⟨by omega, p1 i h0 c, fun e => Or.inr ⟨i, h0, c, rfl, e⟩, fun e => ⟨by unfold rg at *; omega, ⟨by omega, fun j g1 g2 g3 => ?_⟩, by omega⟩⟩, fun c => Or.inl ⟨rfl, fun j g1 g2 => h1 j g1 (by omega) g2⟩⟩
  rcases Int.lt_or_eq_of_le (show j ≤ i by omega) with q | q
  · exact h1 j g1 q g3
  · rw [q]; exact e
def wp_X5_rowOfRun (s : SS) (run : Int) (index : Int) (P : Int → Prop) : Prop :=
  (0 ≤ (s.1 17) ∧ (s.1 17) ≤ 120) ∧ (∀ (z4 : Int), rg z4 → ((z4 = -1 ∧ ∀ j, 0 ≤ j → j < (s.1 17) → (s.2 3) j ≠ run) ∨ (0 ≤ z4 ∧ z4 < (s.1 17) ∧ (s.2 3) z4 = run ∧ ∀ j, 0 ≤ j → j < z4 → (s.2 3) j ≠ run)) → (((index < 0) → (P (-1))) ∧ ((¬ (index < 0)) → (((index < (if 0 ≤ z4 ∧ z4 < 120 then (s.2 5) z4 else 0)) → ((0 ≤ z4 ∧ z4 < 120) ∧ ((∀ j : Nat, (j : Int) < index → 0 ≤ chn (s.2 2) ((s.2 4) z4) j ∧ chn (s.2 2) ((s.2 4) z4) j < 120) ∧ (P (chn (s.2 2) ((s.2 4) z4) index.toNat))))) ∧ ((¬ (index < (if 0 ≤ z4 ∧ z4 < 120 then (s.2 5) z4 else 0))) → (P (-1)))))))
set_option maxHeartbeats 1000000 in
theorem sp_X5_rowOfRun (s : SS) (run : Int) (index : Int)  (r_s : RG s) (r_run : rg run) (r_index : rg index) (p0 : 0 ≤ (s.1 17) ∧ (s.1 17) ≤ 120) (p1 : ∀ i, 0 ≤ i → i < (s.1 17) → ∀ j : Nat, (j : Int) < (s.2 5) i → 0 ≤ chn (s.2 2) ((s.2 4) i) j ∧ chn (s.2 2) ((s.2 4) i) j < 120) (p2 : ∀ i j, 0 ≤ i → i < j → j < (s.1 17) → (s.2 3) i < (s.2 3) j) : wp_X5_rowOfRun s run index (fun r => (∃ i, 0 ≤ i ∧ i < (s.1 17) ∧ (s.2 3) i = run ∧ 0 ≤ index ∧ index < (s.2 5) i ∧ r = chn (s.2 2) ((s.2 4) i) index.toNat) ∨ (r = -1 ∧ ∀ i, 0 ≤ i → i < (s.1 17) → (s.2 3) i = run → ¬ (0 ≤ index ∧ index < (s.2 5) i))) := by
  unfold wp_X5_rowOfRun
  refine ⟨p0, ?_⟩
  intro z4 r4 hz
  have key : ∀ i, 0 ≤ i → i < s.1 17 → s.2 3 i = run → z4 = i := by
    intro i h1 h2 h3
    rcases hz with ⟨e, g⟩ | ⟨a1, a2, a3, a4⟩
    · exact absurd h3 (g i h1 h2)
    · rcases Int.lt_trichotomy z4 i with q | q | q
      · have := p2 z4 i a1 q h2; omega
      · exact q
      · exact absurd h3 (a4 i h1 q)
  have hne : ∀ i, 0 ≤ i → i < s.1 17 → s.2 3 i = run → 0 ≤ z4 ∧ z4 < 120 := fun i h1 h2 h3 => by
    have := key i h1 h2 h3
    omega
  refine ⟨fun c => Or.inr ⟨rfl, fun i h1 h2 h3 h4 => by omega⟩, fun c => ⟨fun d => ?_, fun d => Or.inr ⟨rfl, fun i h1 h2 h3 h4 => ?_⟩⟩⟩
  · by_cases q : 0 ≤ z4 ∧ z4 < 120
    · rw [if_pos q] at d
      rcases hz with ⟨e, g⟩ | ⟨a1, a2, a3, a4⟩
      · omega
      · exact ⟨q, fun j hj => p1 z4 a1 a2 j (by omega), Or.inl ⟨z4, a1, a2, a3, by omega, d, rfl⟩⟩
    · rw [if_neg q] at d; omega
  · rw [if_pos (hne i h1 h2 h3), key i h1 h2 h3] at d
    omega
def wp_X5_makeRun (s : SS) (first : Int) (length : Int) (P : Int → SS → Prop) : Prop :=
  rg ((s.1 15) + 1) ∧ ((0 ≤ (s.1 17) ∧ (s.1 17) < 120) ∧ (∀ (u_nu5 : Int → Int) (u_fi6 : Int → Int) (u_le7 : Int → Int) (u_to8 : Int), rgA u_nu5 → rgA u_fi6 → rgA u_le7 → rg u_to8 → ((u_to8 = (s.1 17) + 1 ∧ ∃ q, 0 ≤ q ∧ q ≤ (s.1 17) ∧ (∀ j, q ≤ j → j < (s.1 17) → (s.1 15) < (s.2 3) j) ∧ (q = 0 ∨ (s.2 3) (q - 1) ≤ (s.1 15)) ∧ ∀ j, 0 ≤ j → j ≤ (s.1 17) → u_nu5 j = insI (s.2 3) q (s.1 15) j ∧ u_fi6 j = insI (s.2 4) q first j ∧ u_le7 j = insI (s.2 5) q length j)) → (P (s.1 15) (sS (sS (sA (sA (sA s 3 u_nu5) 4 u_fi6) 5 u_le7) 15 ((s.1 15) + 1)) 17 u_to8))))
set_option maxHeartbeats 1000000 in
theorem sp_X5_makeRun (s : SS) (first : Int) (length : Int)  (r_s : RG s) (r_first : rg first) (r_length : rg length) (p0 : 0 ≤ (s.1 17) ∧ (s.1 17) < 120) (p1 : ∀ i, 0 ≤ i → i < (s.1 17) → (s.2 3) i < (s.1 15)) (p2 : rg ((s.1 15) + 1)) : wp_X5_makeRun s first length (fun r s' => r = (s.1 15) ∧ ∃ nu fi le : Int → Int, s' = sS (sS (sA (sA (sA s 3 nu) 4 fi) 5 le) 15 ((s.1 15) + 1)) 17 ((s.1 17) + 1) ∧ (∀ j, 0 ≤ j → j < (s.1 17) → nu j = (s.2 3) j ∧ fi j = (s.2 4) j ∧ le j = (s.2 5) j) ∧ nu (s.1 17) = (s.1 15) ∧ fi (s.1 17) = first ∧ le (s.1 17) = length) := by
  unfold wp_X5_makeRun
  refine ⟨p2, p0, ?_⟩
  intro nu fi le to rn rf rl rt ⟨e0, q, q1, q2, q3, q4, q5⟩
  have hq : q = s.1 17 := by
    by_cases c : q < s.1 17
    · have := q3 q (by omega) c
      have := p1 q q1 c
      omega
    · omega
  subst hq
  refine ⟨rfl, nu, fi, le, by rw [e0], fun j h1 h2 => ?_, ?_, ?_, ?_⟩
  · obtain ⟨a, b, c⟩ := q5 j h1 (by omega)
    unfold insI at a b c
    rw [if_pos h2] at a b c
    exact ⟨a, b, c⟩
  all_goals (obtain ⟨a, b, c⟩ := q5 (s.1 17) p0.1 (by omega); unfold insI at a b c; rw [if_neg (by omega), if_pos rfl] at a b c)
  · exact a
  · exact b
  · exact c
