def wp_X5_sortMemory (s : SS)  (P : SS → Prop) : Prop :=
  ∃ (I2 : Int → SS → Prop) (μ3 : Int → SS → Nat), I2 1 s ∧ ∀ (x1_1 : Int) (s0_1 : SS), rg x1_1 → RG s0_1 → I2 x1_1 s0_1 → (((x1_1 < (s0_1.1 6)) → ((0 ≤ x1_1 ∧ x1_1 < 20) ∧ (∃ (I20 : Int → SS → Prop) (μ21 : Int → SS → Nat), I20 x1_1 s0_1 ∧ ∀ (x3_19 : Int) (s0_19 : SS), rg x3_19 → RG s0_19 → I20 x3_19 s0_19 → (((0 < x3_19) → (rg (x3_19 - 1) ∧ ((0 ≤ (x3_19 - 1) ∧ (x3_19 - 1) < 20) ∧ ((0 ≤ ((s0_1.2 9) x1_1) ∧ ((s0_1.2 9) x1_1) < 120) ∧ ((0 ≤ ((s0_19.2 9) (x3_19 - 1)) ∧ ((s0_19.2 9) (x3_19 - 1)) < 120) ∧ ((((s0_19.2 0) ((s0_1.2 9) x1_1) < (s0_19.2 0) ((s0_19.2 9) (x3_19 - 1)) ∨ (s0_19.2 0) ((s0_1.2 9) x1_1) = (s0_19.2 0) ((s0_19.2 9) (x3_19 - 1)) ∧ ((s0_1.2 9) x1_1) < ((s0_19.2 9) (x3_19 - 1))) → ((0 ≤ x3_19 ∧ x3_19 < 20) ∧ (rg (x3_19 + (-1)) ∧ (I20 (x3_19 + (-1)) (sA s0_19 9 (uZ (s0_19.2 9) x3_19 ((s0_19.2 9) (x3_19 - 1)))) ∧ μ21 (x3_19 + (-1)) (sA s0_19 9 (uZ (s0_19.2 9) x3_19 ((s0_19.2 9) (x3_19 - 1)))) < μ21 x3_19 s0_19)))) ∧ ((¬ ((s0_19.2 0) ((s0_1.2 9) x1_1) < (s0_19.2 0) ((s0_19.2 9) (x3_19 - 1)) ∨ (s0_19.2 0) ((s0_1.2 9) x1_1) = (s0_19.2 0) ((s0_19.2 9) (x3_19 - 1)) ∧ ((s0_1.2 9) x1_1) < ((s0_19.2 9) (x3_19 - 1)))) → ((0 ≤ x3_19 ∧ x3_19 < 20) ∧ (rg (x1_1 + 1) ∧ (I2 (x1_1 + 1) (sA s0_19 9 (uZ (s0_19.2 9) x3_19 ((s0_1.2 9) x1_1))) ∧ μ3 (x1_1 + 1) (sA s0_19 9 (uZ (s0_19.2 9) x3_19 ((s0_1.2 9) x1_1))) < μ3 x1_1 s0_1)))))))))) ∧ ((¬ (0 < x3_19)) → ((0 ≤ x3_19 ∧ x3_19 < 20) ∧ (rg (x1_1 + 1) ∧ (I2 (x1_1 + 1) (sA s0_19 9 (uZ (s0_19.2 9) x3_19 ((s0_1.2 9) x1_1))) ∧ μ3 (x1_1 + 1) (sA s0_19 9 (uZ (s0_19.2 9) x3_19 ((s0_1.2 9) x1_1))) < μ3 x1_1 s0_1)))))))) ∧ ((¬ (x1_1 < (s0_1.1 6))) → (P s0_1)))
set_option maxHeartbeats 1000000 in
theorem sp_X5_sortMemory (s : SS)   (r_s : RG s)  (p0 : 0 ≤ (s.1 6) ∧ (s.1 6) ≤ 20) (p1 : ∀ i, 0 ≤ i → i < (s.1 6) → 0 ≤ (s.2 9) i ∧ (s.2 9) i < 120) (p2 : ∀ i j, 0 ≤ i → i < j → j < (s.1 6) → (s.2 9) i ≠ (s.2 9) j) : wp_X5_sortMemory s (fun s' => ∃ f : Int → Int, s' = sA s 9 f ∧ (∀ i j, 0 ≤ i → i < j → j < (s.1 6) → ((s.2 0) (f i) < (s.2 0) (f j) ∨ (s.2 0) (f i) = (s.2 0) (f j) ∧ f i < f j)) ∧ (∀ i, 0 ≤ i → i < (s.1 6) → ∃ j, 0 ≤ j ∧ j < (s.1 6) ∧ f i = (s.2 9) j) ∧ ∀ i, 0 ≤ i → i < (s.1 6) → ∃ j, 0 ≤ j ∧ j < (s.1 6) ∧ (s.2 9) i = f j) := by
  unfold wp_X5_sortMemory
  refine ⟨fun k t => 1 ≤ k ∧ ∃ g : Int → Int, t = sA s 9 g ∧ SrtI (s.2 0) (s.2 9) (s.1 6) k g, fun k _ => (s.1 6 - k).toNat, ⟨by omega, s.2 9, sA_self.symm, ⟨fun i j _ _ _ _ => by omega, fun i a b => ⟨i, a, b, rfl⟩, fun i a b => ⟨i, a, b, rfl⟩, p2⟩⟩, ?_⟩
  intro k t rk rt ⟨k1, g, e, hS⟩
  subst e
  dsimp only
  have e6 : (sA s 9 g).1 6 = s.1 6 := rfl
  rw [e6, sA_at]
  have hr : ∀ i, 0 ≤ i → i < s.1 6 → 0 ≤ g i ∧ g i < 120 := fun i a b => by
    obtain ⟨j, q1, q2, q3⟩ := hS.2.1 i a b
    rw [q3]; exact p1 j q1 q2
  refine ⟨fun c => ⟨by omega, ?_⟩, fun c => ⟨g, rfl, fun i j a b d => hS.1 i j a b (by omega) d, hS.2.1, hS.2.2.1⟩⟩
  refine ⟨fun x t => ∃ h : Int → Int, t = sA s 9 h ∧ (0 ≤ x ∧ x ≤ k) ∧ (∀ i, i ≠ x → h i = if i < x ∨ k < i then g i else g (i - 1)) ∧ ∀ j, x ≤ j → j < k → befK (s.2 0) (g k) (g j), fun x _ => x.toNat, ⟨g, rfl, by omega, fun i a => by rw [if_pos (by omega)], fun j a b => by omega⟩, ?_⟩
  intro x t rx rt2 ⟨h, e, hx, hh, hb⟩
  subst e
  dsimp only
  rw [sA_at, sA_sA, sA_sA]
  have e0 : (sA s 9 h).2 0 = s.2 0 := rfl
  rw [e0]
  have fin : (x = 0 ∨ ¬ befK (s.2 0) (g k) (g (x - 1))) → SrtI (s.2 0) (s.2 9) (s.1 6) (k + 1) (uZ h x (g k)) := fun ha => SrtI_ins hS ⟨k1, c⟩ hx (fun i => by
    unfold uZ
    by_cases q : i = x
    · rw [if_pos q, if_neg (by omega), if_pos q]
    · rw [if_neg q, hh i q]
      by_cases q2 : i < x ∨ k < i
      · rw [if_pos q2, if_pos q2]
      · rw [if_neg q2, if_neg q2, if_neg q]) hb ha
  refine ⟨fun cx => ?_, fun cx => ⟨by omega, by unfold rg at *; omega, ⟨by omega, _, rfl, fin (Or.inl (by omega))⟩, by omega⟩⟩
  have e1 : h (x - 1) = g (x - 1) := by rw [hh _ (by omega), if_pos (by omega)]
  rw [e1]
  refine ⟨by unfold rg at *; omega, by omega, hr k (by omega) c, hr (x - 1) (by omega) (by omega), fun q => ?_, fun q => ⟨by omega, by unfold rg at *; omega, ⟨by omega, _, rfl, fin (Or.inr q)⟩, by omega⟩⟩
  refine ⟨by omega, by unfold rg at *; omega, ⟨_, rfl, by omega, fun i a => ?_, fun j a b => ?_⟩, by omega⟩
  · unfold uZ
    by_cases w : i = x
    · rw [if_pos w, if_neg (by omega), w]
    · rw [if_neg w, hh i w]
      by_cases w2 : i < x ∨ k < i
      · rw [if_pos w2, if_pos (by omega)]
      · rw [if_neg w2, if_neg (by omega)]
  · by_cases w : j = x - 1
    · rw [w]; exact q
    · exact hb j (by omega) b
def wp_X5_inputWithFirstRow (s : SS)  (P : Int → Prop) : Prop :=
  ∃ (I2 : Int → Int → Prop) (μ3 : Int → Int → Nat), I2 0 1 ∧ ∀ (x1_1 : Int) (x2_1 : Int), rg x1_1 → rg x2_1 → I2 x1_1 x2_1 → (((x2_1 < (s.1 18)) → ((0 ≤ x2_1 ∧ x2_1 < 120) ∧ ((0 ≤ x1_1 ∧ x1_1 < 120) ∧ ((0 ≤ ((s.2 7) x2_1) ∧ ((s.2 7) x2_1) < 120) ∧ ((0 ≤ ((s.2 7) x1_1) ∧ ((s.2 7) x1_1) < 120) ∧ ((((s.2 0) ((s.2 7) x2_1) < (s.2 0) ((s.2 7) x1_1) ∨ (s.2 0) ((s.2 7) x2_1) = (s.2 0) ((s.2 7) x1_1) ∧ ((s.2 7) x2_1) < ((s.2 7) x1_1)) → (rg (x2_1 + 1) ∧ (I2 x2_1 (x2_1 + 1) ∧ μ3 x2_1 (x2_1 + 1) < μ3 x1_1 x2_1))) ∧ ((¬ ((s.2 0) ((s.2 7) x2_1) < (s.2 0) ((s.2 7) x1_1) ∨ (s.2 0) ((s.2 7) x2_1) = (s.2 0) ((s.2 7) x1_1) ∧ ((s.2 7) x2_1) < ((s.2 7) x1_1))) → (rg (x2_1 + 1) ∧ (I2 x1_1 (x2_1 + 1) ∧ μ3 x1_1 (x2_1 + 1) < μ3 x1_1 x2_1))))))))) ∧ ((¬ (x2_1 < (s.1 18))) → (P x1_1)))
set_option maxHeartbeats 1000000 in
theorem sp_X5_inputWithFirstRow (s : SS)   (r_s : RG s)  (p0 : 1 ≤ (s.1 18) ∧ (s.1 18) ≤ 120) (p1 : ∀ i, 0 ≤ i → i < (s.1 18) → 0 ≤ (s.2 7) i ∧ (s.2 7) i < 120) : wp_X5_inputWithFirstRow s (fun r => 0 ≤ r ∧ r < (s.1 18) ∧ ∀ i, 0 ≤ i → i < (s.1 18) → i ≠ r → ¬ ((s.2 0) ((s.2 7) i) < (s.2 0) ((s.2 7) r) ∨ (s.2 0) ((s.2 7) i) = (s.2 0) ((s.2 7) r) ∧ (s.2 7) i < (s.2 7) r)) := by
  unfold wp_X5_inputWithFirstRow
  refine ⟨fun a x => (1 ≤ x ∧ x ≤ s.1 18 ∧ 0 ≤ a ∧ a < x) ∧ ∀ i, 0 ≤ i → i < x → i ≠ a → ¬ befK (s.2 0) (s.2 7 i) (s.2 7 a), fun _ x => (s.1 18 - x).toNat, ⟨by omega, fun i h1 h2 h3 => by omega⟩, ?_⟩
  intro a x ra rx ⟨h0, h1⟩
  dsimp only
  refine ⟨fun c => ⟨by omega, by omega, p1 x (by omega) c, p1 a (by omega) (by omega), fun q => ⟨by unfold rg at *; omega, ⟨by omega, fun i g1 g2 g3 g4 => ?_⟩, by omega⟩, fun q => ⟨by unfold rg at *; omega, ⟨by omega, fun i g1 g2 g3 => ?_⟩, by omega⟩⟩, fun c => ⟨by omega, by omega, fun i g1 g2 g3 => h1 i g1 (by omega) g3⟩⟩
  · by_cases w : i = a
    · rw [w] at g4
      exact befK_irr (befK_trans g4 q)
    · exact h1 i g1 (by omega) w (befK_trans g4 q)
  · by_cases w : i = x
    · rw [w]; exact q
    · exact h1 i g1 (by omega) g3
