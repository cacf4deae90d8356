def wp_X7_step (s : SS) (steps : Int) (P : Int → SS → Prop) : Prop :=
  (((1 : Int) ≤ steps ∧ steps ≤ (200 : Int)) → (((((s.2 0) 5) = 0) → (P (-3) s)) ∧ ((¬ (((s.2 0) 5) = 0)) → ((0 ≤ (s.1 2) ∧ (s.1 2) ≤ 4) ∧ (∃ (I18 : Int → SS → Prop) (μ19 : Int → SS → Nat), I18 0 (sS (sA s 1 (recP (s.2 1) (s.1 2) (s.2 0))) 2 (recN (s.1 2) + 1)) ∧ ∀ (x2_17 : Int) (s0_17 : SS), rg x2_17 → RG s0_17 → I18 x2_17 s0_17 → (((x2_17 < steps) → (((((s0_17.2 0) 5) = 1) → ((Vb (s0_17.2 0)) ∧ ((0 < riZ (s0_17.2 0)) ∧ ((rg ((s0_17.2 0) 7 + 2) ∧ 0 ≤ (s0_17.2 0) 7) ∧ ((∀ r, 0 ≤ r → r < (s0_17.2 0) 3 → 0 ≤ (s0_17.2 0) (130 + r) ∧ (s0_17.2 0) (130 + r) ≤ 120) ∧ (rg (x2_17 + 1) ∧ (I18 (x2_17 + 1) (sA s0_17 0 (stpZ (s0_17.2 0))) ∧ μ19 (x2_17 + 1) (sA s0_17 0 (stpZ (s0_17.2 0))) < μ19 x2_17 s0_17))))))) ∧ ((¬ (((s0_17.2 0) 5) = 1)) → (P x2_17 s0_17)))) ∧ ((¬ (x2_17 < steps)) → (P x2_17 s0_17)))))))) ∧ ((¬ ((1 : Int) ≤ steps ∧ steps ≤ (200 : Int))) → (P (-2) s))
set_option maxHeartbeats 1000000 in
theorem sp_X7_step (s : SS) (steps : Int)  (r_s : RG s) (r_steps : rg steps) (p0 : Vz (s.2 0)) (p1 : Bd (s.2 0) 50000) (p2 : 0 ≤ (s.1 2) ∧ (s.1 2) ≤ 4) : wp_X7_step s steps (fun r s' => rl_step s steps r s') := by
  unfold wp_X7_step
  have v5 := p0.2.1.2.2.2.1
  obtain ⟨b4, b7, b8, b9⟩ := p1
  refine ⟨fun c => ⟨fun d => Or.inr (Or.inl ⟨c, d, rfl, rfl⟩), fun d => ⟨p2, ?_⟩⟩, fun c => Or.inl ⟨c, rfl, rfl⟩⟩
  refine ⟨fun k t => 0 ≤ k ∧ k ≤ steps ∧ (∀ i : Nat, (i : Int) < k → (wSq (s.2 0) i) 5 = 1) ∧ Vz (wSq (s.2 0) k.toNat) ∧ (wSq (s.2 0) k.toNat) 4 ≤ (s.2 0) 4 + k ∧ (wSq (s.2 0) k.toNat) 7 ≤ (s.2 0) 7 + 2 * k ∧ t = nxM s (wSq (s.2 0) k.toNat), fun k _ => (steps - k).toNat, ⟨by omega, by omega, fun i hi => by omega, p0, by show (s.2 0) 4 ≤ (s.2 0) 4 + 0; omega, by show (s.2 0) 7 ≤ (s.2 0) 7 + 2 * 0; omega, (sA_self (s := recM s) (k := 0)).symm⟩, ?_⟩
  intro k t rk rt ⟨k0, k1, k2, k3, k4, k5, k6⟩
  have e0 : t.2 0 = wSq (s.2 0) k.toNat := by rw [k6]; exact sA_at
  have w5 := k3.2.1.2.2.2.1
  have w7 := k3.2.1.2.2.2.2.2.1
  have cn := k3.cnt
  refine ⟨fun e => ⟨fun f => ?_, fun f => ?_⟩, fun e => ?_⟩
  · rw [e0] at f ⊢
    have hr : 0 < riZ (wSq (s.2 0) k.toNat) := by obtain ⟨_, _, _, _, _, _, _, vr, _⟩ := k3; exact vr.mp f
    obtain ⟨s1, s2, s3, s4, s5, s6, s7, s8, s9⟩ := stpZ_all k3 hr (by omega)
    refine ⟨k3.1, hr, ⟨by unfold rg; omega, w7⟩, cn, by unfold rg at *; omega, ⟨by omega, by omega, fun i hi => ?_, ?_, ?_, ?_, ?_⟩, by dsimp only; omega⟩
    · by_cases g : (i : Int) < k
      · exact k2 i g
      · rw [show i = k.toNat by omega]; exact f
    · rw [show (k + 1).toNat = k.toNat + 1 by omega, wSq]; exact s1
    · rw [show (k + 1).toNat = k.toNat + 1 by omega, wSq]; omega
    · rw [show (k + 1).toNat = k.toNat + 1 by omega, wSq]; omega
    · rw [show (k + 1).toNat = k.toNat + 1 by omega, wSq, k6]
      exact sA_sA
  · rw [e0] at f
    exact Or.inr (Or.inr ⟨c, d, ⟨k0, k1, k2, fun _ => by omega⟩, k6⟩)
  · exact Or.inr (Or.inr ⟨c, d, ⟨k0, k1, k2, fun q => absurd q e⟩, k6⟩)
def wp_X7_run (s : SS)  (P : Int → SS → Prop) : Prop :=
  (Vb (s.2 0)) ∧ ((2 ≤ (s.2 0) 0 ∧ (s.2 0) 0 ≤ 20) ∧ (((manyZ (s.2 0) 0 + pz ((s.2 0) 2 = 1 ∧ 0 < rowsAt (s.2 0) 1 ∨ (s.2 0) 5 = 1) < 2 ∨ 1 < waysZ ((s.2 0) 0)) → ((0 ≤ (s.1 2) ∧ (s.1 2) ≤ 4) ∧ ((Vz (s.2 0)) ∧ ((Bd (s.2 0) 50000) ∧ ((crZ (s.2 0)) ∧ (∀ (z25 : Int) (u_s23 : SS), rg z25 → RG u_s23 → (∃ y : Int → Int, u_s23 = sA (sS (sA s 1 (recP (s.2 1) (s.1 2) (s.2 0))) 2 (recN (s.1 2) + 1)) 0 y ∧ AllZ (finZ (s.2 0)) y ∧ z25 = y 8 - (s.2 0) 8 ∧ Vz y ∧ y 4 ≤ (s.2 0) 4 + 50000 ∧ y 7 ≤ (s.2 0) 7 + 100000 ∧ y 8 ≤ (s.2 0) 8 + 50000 ∧ y 9 = (s.2 0) 9 ∧ (s.2 0) 8 ≤ y 8) → (P z25 u_s23))))))) ∧ ((¬ (manyZ (s.2 0) 0 + pz ((s.2 0) 2 = 1 ∧ 0 < rowsAt (s.2 0) 1 ∨ (s.2 0) 5 = 1) < 2 ∨ 1 < waysZ ((s.2 0) 0))) → (P (-3) s))))
set_option maxHeartbeats 1000000 in
theorem sp_X7_run (s : SS)   (r_s : RG s)  (p0 : Vz (s.2 0)) (p1 : Bd (s.2 0) 50000) (p2 : 0 ≤ (s.1 2) ∧ (s.1 2) ≤ 4) : wp_X7_run s (fun r s' => rl_run s r s') := by
  unfold wp_X7_run
  exact ⟨p0.1, p0.2.1.1, fun c => ⟨p2, p0, p1, c, fun r u rr ru ⟨y, e, hA, er, _⟩ => Or.inr ⟨c, y, hA, er, e⟩⟩, fun c => Or.inl ⟨c, rfl, rfl⟩⟩
def wp_X7_row (s : SS) (run : Int) (index : Int) (part : Int) (P : Int → Prop) : Prop :=
  (Vb (s.2 0)) ∧ (((0 ≤ run ∧ run ≤ (s.2 0) 4 - 1 ∧ 0 < rowsAt (s.2 0) (10 + 2 * run)) → (rg (2 * run) ∧ (rg (10 + (2 * run)) ∧ (rg ((rowsAt (s.2 0) (10 + (2 * run))) - 1) ∧ ((((0 : Int) ≤ index ∧ index ≤ ((rowsAt (s.2 0) (10 + (2 * run))) - 1)) → (∃ (I28 : Int → Int → Prop) (μ29 : Int → Int → Nat), I28 (-6) 0 ∧ ∀ (x4_27 : Int) (x5_27 : Int), rg x4_27 → rg x5_27 → I28 x4_27 x5_27 → (((x5_27 < ((s.2 0) 3)) → ((0 ≤ x5_27 ∧ x5_27 < 120) ∧ (((((s.2 0) (250 + x5_27)) = (10 + (2 * run))) → ((((sumI (fun r => pz ((s.2 0) (250 + r) = (s.2 0) (250 + x5_27) ∧ ((s.2 0) (10 + r) < (s.2 0) (10 + x5_27) ∨ (s.2 0) (10 + r) = (s.2 0) (10 + x5_27) ∧ r < x5_27))) ((s.2 0) 3).toNat) = index) → (rg (x5_27 + 1) ∧ (I28 x5_27 (x5_27 + 1) ∧ μ29 x5_27 (x5_27 + 1) < μ29 x4_27 x5_27))) ∧ ((¬ ((sumI (fun r => pz ((s.2 0) (250 + r) = (s.2 0) (250 + x5_27) ∧ ((s.2 0) (10 + r) < (s.2 0) (10 + x5_27) ∨ (s.2 0) (10 + r) = (s.2 0) (10 + x5_27) ∧ r < x5_27))) ((s.2 0) 3).toNat) = index)) → (rg (x5_27 + 1) ∧ (I28 x4_27 (x5_27 + 1) ∧ μ29 x4_27 (x5_27 + 1) < μ29 x4_27 x5_27))))) ∧ ((¬ (((s.2 0) (250 + x5_27)) = (10 + (2 * run)))) → (rg (x5_27 + 1) ∧ (I28 x4_27 (x5_27 + 1) ∧ μ29 x4_27 (x5_27 + 1) < μ29 x4_27 x5_27)))))) ∧ ((¬ (x5_27 < ((s.2 0) 3))) → (((part = 0) → (rg (10 + x4_27) ∧ ((0 ≤ (10 + x4_27) ∧ (10 + x4_27) < 370) ∧ (P ((s.2 0) (10 + x4_27)))))) ∧ (((part = 1) → (P x4_27)) ∧ (((part = 2) → (rg (130 + x4_27) ∧ ((0 ≤ (130 + x4_27) ∧ (130 + x4_27) < 370) ∧ (P ((s.2 0) (130 + x4_27)))))) ∧ ((((part < 0 ∨ 2 < part)) → (P (-2))))))))))) ∧ ((¬ ((0 : Int) ≤ index ∧ index ≤ ((rowsAt (s.2 0) (10 + (2 * run))) - 1))) → (P (-1)))))))) ∧ ((¬ (0 ≤ run ∧ run ≤ (s.2 0) 4 - 1 ∧ 0 < rowsAt (s.2 0) (10 + 2 * run))) → (P (-1))))
set_option maxHeartbeats 1000000 in
theorem sp_X7_row (s : SS) (run : Int) (index : Int) (part : Int) (r_s : RG s) (r_run : rg run) (r_index : rg index) (r_part : rg part) (p0 : Vz (s.2 0)) (p1 : Bd (s.2 0) 50000) (p2 : 0 ≤ (s.1 2) ∧ (s.1 2) ≤ 4) (p3 : ∀ run index, 0 ≤ run → run ≤ (s.2 0) 4 - 1 → 0 ≤ index → index ≤ rowsAt (s.2 0) (10 + 2 * run) - 1 → ∃ r, 0 ≤ r ∧ r < (s.2 0) 3 ∧ (s.2 0) (250 + r) = 10 + 2 * run ∧ befZ (s.2 0) r = index) : wp_X7_row s run index part (fun z => z = (an_row (s.2 0) run index part)) := by
  unfold wp_X7_row
  have hb := p0.1
  have ⟨v1, v2, v3, v4, v5⟩ := hb
  have hr := rowsAt_le (z := s.2 0) (p := 10 + 2 * run) v1
  refine ⟨hb, fun c => ⟨by unfold rg; omega, by unfold rg; omega, by unfold rg; omega, fun d => ?_, fun d => ?_⟩, fun c => ?_⟩
  · refine ⟨fun f i => 0 ≤ i ∧ i ≤ (s.2 0) 3 ∧ f = fdZ (s.2 0) run index i.toNat, fun _ i => ((s.2 0) 3 - i).toNat, ⟨by omega, by omega, rfl⟩, ?_⟩
    intro f i rf ri ⟨i0, i1, i2⟩
    have S := fdZ_S (z := s.2 0) (run := run) (index := index) i0
    unfold befZ at S
    refine ⟨fun e => ⟨by omega, fun g => ⟨fun q => ?_, fun q => ?_⟩, fun g => ?_⟩, fun e => ?_⟩
    · exact ⟨by unfold rg; omega, ⟨by omega, by omega, by rw [S, if_pos ⟨g, q⟩]⟩, by dsimp only; omega⟩
    · exact ⟨by unfold rg; omega, ⟨by omega, by omega, by rw [S, if_neg (fun w => q w.2)]; exact i2⟩, by dsimp only; omega⟩
    · exact ⟨by unfold rg; omega, ⟨by omega, by omega, by rw [S, if_neg (fun w => g w.1)]; exact i2⟩, by dsimp only; omega⟩
    · have hi : i = (s.2 0) 3 := by omega
      rw [hi] at i2
      have hf : 0 ≤ f ∧ f < (s.2 0) 3 := by
        rcases fdZ_spec (z := s.2 0) (run := run) (index := index) ((s.2 0) 3).toNat with ⟨_, w⟩ | ⟨w1, w2, _⟩
        · obtain ⟨r, r1, r2, r3, r4⟩ := p3 run index c.1 c.2.1 d.1 d.2
          exact absurd ⟨by rw [show ((r.toNat : Nat) : Int) = r by omega]; exact r3, by rw [show ((r.toNat : Nat) : Int) = r by omega]; exact r4⟩ (w r.toNat (by omega))
        · omega
      have eA : an_row (s.2 0) run index part = (if part = 0 then (s.2 0) (10 + f) else if part = 1 then f else if part = 2 then (s.2 0) (130 + f) else -2) := by
        unfold an_row
        rw [if_pos ⟨c, d⟩, ← i2]
      rw [eA]
      refine ⟨fun g => ⟨by unfold rg; omega, by omega, by rw [if_pos g]⟩, fun g => by rw [if_neg (by omega), if_pos g], fun g => ⟨by unfold rg; omega, by omega, by rw [if_neg (by omega), if_neg (by omega), if_pos g]⟩, fun g => by rw [if_neg (by omega), if_neg (by omega), if_neg (by omega)]⟩
  · unfold an_row
    rw [if_neg (fun q => d q.2)]
  · unfold an_row
    rw [if_neg (fun q => c q.1)]
def wp_X7_grown (s : SS) (size : Int) (what : Int) (P : Int → SS → Prop) : Prop :=
  ∃ (I2 : Int → SS → Prop) (μ3 : Int → SS → Nat), I2 0 s ∧ ∀ (x3_1 : Int) (s0_1 : SS), rg x3_1 → RG s0_1 → I2 x3_1 s0_1 → (((x3_1 < 370) → ((0 ≤ x3_1 ∧ x3_1 < 370) ∧ (rg (x3_1 + 1) ∧ (I2 (x3_1 + 1) (sA s0_1 5 (uZ (s0_1.2 5) x3_1 ((s0_1.2 0) x3_1))) ∧ μ3 (x3_1 + 1) (sA s0_1 5 (uZ (s0_1.2 5) x3_1 ((s0_1.2 0) x3_1))) < μ3 x3_1 s0_1)))) ∧ ((¬ (x3_1 < 370)) → ((Vb (s0_1.2 0)) ∧ ((2 ≤ size ∧ size ≤ 20) ∧ ((rg ((s0_1.2 0) 7 + rowsAt (s0_1.2 0) 1)) ∧ (((s0_1.2 0) 4 + 1 + manyZ (s0_1.2 0) 1 ≤ 900000000) ∧ ((rg ((s0_1.2 0) 9 + 1)) ∧ ((Vb (graZ (s0_1.2 0) size)) ∧ ((2 ≤ (graZ (s0_1.2 0) size) 0 ∧ (graZ (s0_1.2 0) size) 0 ≤ 20) ∧ (((manyZ (graZ (s0_1.2 0) size) 0 + pz ((graZ (s0_1.2 0) size) 2 = 1 ∧ 0 < rowsAt (graZ (s0_1.2 0) size) 1 ∨ (graZ (s0_1.2 0) size) 5 = 1) < 2 ∨ 1 < waysZ ((graZ (s0_1.2 0) size) 0)) → ((Vz (graZ (s0_1.2 0) size)) ∧ ((Bd (graZ (s0_1.2 0) size) 50000) ∧ ((crZ (graZ (s0_1.2 0) size)) ∧ (∀ (z66 : Int) (u_s64 : SS), rg z66 → RG u_s64 → (∃ y : Int → Int, u_s64 = sA (sA s0_1 0 (graZ (s0_1.2 0) size)) 0 y ∧ AllZ (finZ (graZ (s0_1.2 0) size)) y ∧ z66 = y 8 - (graZ (s0_1.2 0) size) 8 ∧ Vz y ∧ y 4 ≤ (graZ (s0_1.2 0) size) 4 + 50000 ∧ y 7 ≤ (graZ (s0_1.2 0) size) 7 + 100000 ∧ y 8 ≤ (graZ (s0_1.2 0) size) 8 + 50000 ∧ y 9 = (graZ (s0_1.2 0) size) 9 ∧ (graZ (s0_1.2 0) size) 8 ≤ y 8) → ((0 ≤ what ∧ what < 370) ∧ (rg (((u_s64.2 0) what) - ((u_s64.2 5) what)) ∧ (∃ (I75 : Int → SS → Prop) (μ76 : Int → SS → Nat), I75 0 u_s64 ∧ ∀ (x4_74 : Int) (s0_74 : SS), rg x4_74 → RG s0_74 → I75 x4_74 s0_74 → (((x4_74 < 370) → ((0 ≤ x4_74 ∧ x4_74 < 370) ∧ (rg (x4_74 + 1) ∧ (I75 (x4_74 + 1) (sA s0_74 0 (uZ (s0_74.2 0) x4_74 ((s0_74.2 5) x4_74))) ∧ μ76 (x4_74 + 1) (sA s0_74 0 (uZ (s0_74.2 0) x4_74 ((s0_74.2 5) x4_74))) < μ76 x4_74 s0_74)))) ∧ ((¬ (x4_74 < 370)) → (P (((u_s64.2 0) what) - ((u_s64.2 5) what)) s0_74))))))))))) ∧ ((¬ (manyZ (graZ (s0_1.2 0) size) 0 + pz ((graZ (s0_1.2 0) size) 2 = 1 ∧ 0 < rowsAt (graZ (s0_1.2 0) size) 1 ∨ (graZ (s0_1.2 0) size) 5 = 1) < 2 ∨ 1 < waysZ ((graZ (s0_1.2 0) size) 0))) → (∃ (I39 : Int → SS → Prop) (μ40 : Int → SS → Nat), I39 0 (sA s0_1 0 (graZ (s0_1.2 0) size)) ∧ ∀ (x4_38 : Int) (s0_38 : SS), rg x4_38 → RG s0_38 → I39 x4_38 s0_38 → (((x4_38 < 370) → ((0 ≤ x4_38 ∧ x4_38 < 370) ∧ (rg (x4_38 + 1) ∧ (I39 (x4_38 + 1) (sA s0_38 0 (uZ (s0_38.2 0) x4_38 ((s0_38.2 5) x4_38))) ∧ μ40 (x4_38 + 1) (sA s0_38 0 (uZ (s0_38.2 0) x4_38 ((s0_38.2 5) x4_38))) < μ40 x4_38 s0_38)))) ∧ ((¬ (x4_38 < 370)) → (P (-3) s0_38)))))))))))))))
set_option maxHeartbeats 1000000 in
theorem sp_X7_grown (s : SS) (size : Int) (what : Int)  (r_s : RG s) (r_size : rg size) (r_what : rg what) (p0 : Vz (s.2 0)) (p1 : Bd (s.2 0) 60000) (p2 : 0 ≤ (s.1 2) ∧ (s.1 2) ≤ 4) (p3 : 2 ≤ size ∧ size ≤ 20) (p4 : what = 7 ∨ what = 8) : wp_X7_grown s size what (fun r s' => (∃ f : Int → Int, s' = sA s 5 f) ∧ growZ (s.2 0) size what r) := by
  unfold wp_X7_grown
  have hb := p0.1
  have ⟨v1, v2, v3, v4, v5⟩ := hb
  obtain ⟨b4, b7, b8, b9⟩ := p1
  obtain ⟨f1, f2, f3, f4, f5, f6⟩ := pubF p0 (⟨by omega, by omega, by omega, by omega⟩ : Bd (s.2 0) 50000)
  obtain ⟨g1, g2, g3, g4, g5, g6, g7, g8, g9, g10, g11⟩ := graZ_Vz p0 p3 f3
  have go : ∀ k, k < 0 ∨ 370 ≤ k → graZ (s.2 0) size k = (s.2 0) k := fun k hk => graZ_out v2 hk
  refine ⟨fun k t => 0 ≤ k ∧ k ≤ 370 ∧ t = sA s 5 (cpP (s.2 0) (s.2 5) 0 k), fun k _ => (370 - k).toNat, ⟨by omega, by omega, by rw [cpP_0, sA_self]⟩, ?_⟩
  intro k t rk rt ⟨k0, k1, k2⟩
  subst k2
  have e0 : (sA s 5 (cpP (s.2 0) (s.2 5) 0 k)).2 0 = s.2 0 := sA_ne (by decide)
  dsimp only
  rw [e0, sA_at]
  refine ⟨fun c => ⟨by omega, by unfold rg; omega, ⟨by omega, by omega, ?_⟩, by omega⟩, fun c => ⟨hb, p3, f2, f3, f4, g1.1, by omega, fun d => ?_, fun d => ?_⟩⟩
  · rw [sA_sA, cpP_S k0 (by rw [Int.zero_add])]
  · have hk : k = 370 := by omega
    subst hk
    have gb : Bd (graZ (s.2 0) size) 50000 := ⟨by omega, by omega, by omega, by omega⟩
    refine ⟨g1, gb, d, ?_⟩
    intro r u rr ru ⟨y, eu, hA, er, hy, y4, y7, y8, y9, y88⟩
    have u0 : u.2 0 = y := by rw [eu]; exact sA_at
    have u5 : u.2 5 = cpP (s.2 0) (s.2 5) 0 370 := by rw [eu]; exact (sA_ne (by decide)).trans ((sA_ne (by decide)).trans sA_at)
    have f3' : finZ (graZ (s.2 0) size) 3 = (s.2 0) 3 := by unfold finZ; rw [uZ_ne (by omega), wriZ_lo (by omega) (by omega) (by omega)]; exact g9
    have yo : ∀ k, k < 0 ∨ 370 ≤ k → y k = (s.2 0) k := fun k hk => by
      rw [AllZ_out (by omega) (by omega) hA hk, finZ_out (by omega) hk]; exact go k hk
    have yp7 := hy.2.1.2.2.2.2.2.1
    have yp8 := hy.2.1.2.2.2.2.2.2.1
    have zp7 := p0.2.1.2.2.2.2.2.1
    have zp8 := p0.2.1.2.2.2.2.2.2.1
    have ew : cpP (s.2 0) (s.2 5) 0 370 what = (s.2 0) what := by rw [cpP_in (by omega) (by omega), Int.zero_add]
    rw [u0, u5, ew]
    refine ⟨by omega, by rcases p4 with e | e <;> (subst e; unfold rg; omega), ?_⟩
    refine ⟨fun k t => 0 ≤ k ∧ k ≤ 370 ∧ t = sA (sA s 5 (cpP (s.2 0) (s.2 5) 0 370)) 0 (cpP (cpP (s.2 0) (s.2 5) 0 370) y 0 k), fun k _ => (370 - k).toNat, ⟨by omega, by omega, by rw [cpP_0, eu, sA_sA]⟩, ?_⟩
    intro k t rk rt ⟨k0, k1, k2⟩
    subst k2
    have e5 : (sA (sA s 5 (cpP (s.2 0) (s.2 5) 0 370)) 0 (cpP (cpP (s.2 0) (s.2 5) 0 370) y 0 k)).2 5 = cpP (s.2 0) (s.2 5) 0 370 := (sA_ne (by decide)).trans sA_at
    dsimp only
    rw [e5, sA_at]
    refine ⟨fun c => ⟨by omega, by unfold rg; omega, ⟨by omega, by omega, ?_⟩, by omega⟩, fun c => ⟨⟨cpP (s.2 0) (s.2 5) 0 370, ?_⟩, Or.inl ⟨d, y, hA, rfl⟩⟩⟩
    · rw [sA_sA, cpP_S k0 (by rw [Int.zero_add])]
    · rw [show k = 370 by omega, cpP_back yo]
      exact (sA_self (s := sA s 5 (cpP (s.2 0) (s.2 5) 0 370)) (k := 0))
  · have hk : k = 370 := by omega
    subst hk
    refine ⟨fun k t => 0 ≤ k ∧ k ≤ 370 ∧ t = sA (sA s 5 (cpP (s.2 0) (s.2 5) 0 370)) 0 (cpP (cpP (s.2 0) (s.2 5) 0 370) (graZ (s.2 0) size) 0 k), fun k _ => (370 - k).toNat, ⟨by omega, by omega, by rw [cpP_0]⟩, ?_⟩
    intro k t rk rt ⟨k0, k1, k2⟩
    subst k2
    have e5 : (sA (sA s 5 (cpP (s.2 0) (s.2 5) 0 370)) 0 (cpP (cpP (s.2 0) (s.2 5) 0 370) (graZ (s.2 0) size) 0 k)).2 5 = cpP (s.2 0) (s.2 5) 0 370 := (sA_ne (by decide)).trans sA_at
    dsimp only
    rw [e5, sA_at]
    refine ⟨fun c => ⟨by omega, by unfold rg; omega, ⟨by omega, by omega, ?_⟩, by omega⟩, fun c => ⟨⟨cpP (s.2 0) (s.2 5) 0 370, ?_⟩, Or.inr ⟨d, rfl⟩⟩⟩
    · rw [sA_sA, cpP_S k0 (by rw [Int.zero_add])]
    · rw [show k = 370 by omega, cpP_back go]
      exact (sA_self (s := sA s 5 (cpP (s.2 0) (s.2 5) 0 370)) (k := 0))
def wp_X7_costsWith (s : SS) (size : Int) (P : Int → SS → Prop) : Prop :=
  ((2 ≤ size ∧ size ≤ 20) → ((Vz (s.2 0)) ∧ ((Bd (s.2 0) 60000) ∧ ((0 ≤ (s.1 2) ∧ (s.1 2) ≤ 4) ∧ ((2 ≤ size ∧ size ≤ 20) ∧ (((7 : Int) = 7 ∨ (7 : Int) = 8) ∧ (∀ (z21 : Int) (u_s19 : SS), rg z21 → RG u_s19 → ((∃ f : Int → Int, u_s19 = sA s 5 f) ∧ growZ (s.2 0) size (7 : Int) z21) → (P z21 u_s19)))))))) ∧ ((¬ (2 ≤ size ∧ size ≤ 20)) → (P (-2) s))
set_option maxHeartbeats 1000000 in
theorem sp_X7_costsWith (s : SS) (size : Int)  (r_s : RG s) (r_size : rg size) (p0 : Vz (s.2 0)) (p1 : Bd (s.2 0) 60000) (p2 : 0 ≤ (s.1 2) ∧ (s.1 2) ≤ 4) : wp_X7_costsWith s size (fun r s' => (∃ f : Int → Int, s' = sA s 5 f) ∧ (if 2 ≤ size ∧ size ≤ 20 then growZ (s.2 0) size 7 r else r = -2)) := by
  unfold wp_X7_costsWith
  exact ⟨fun c => ⟨p0, p1, p2, c, Or.inl rfl, fun r u rr ru ⟨h1, h2⟩ => ⟨h1, by rw [if_pos c]; exact h2⟩⟩, fun c => ⟨⟨s.2 5, sA_self.symm⟩, by rw [if_neg c]⟩⟩
def wp_X7_mergesWith (s : SS) (size : Int) (P : Int → SS → Prop) : Prop :=
  ((2 ≤ size ∧ size ≤ 20) → ((Vz (s.2 0)) ∧ ((Bd (s.2 0) 60000) ∧ ((0 ≤ (s.1 2) ∧ (s.1 2) ≤ 4) ∧ ((2 ≤ size ∧ size ≤ 20) ∧ (((8 : Int) = 7 ∨ (8 : Int) = 8) ∧ (∀ (z21 : Int) (u_s19 : SS), rg z21 → RG u_s19 → ((∃ f : Int → Int, u_s19 = sA s 5 f) ∧ growZ (s.2 0) size (8 : Int) z21) → (P z21 u_s19)))))))) ∧ ((¬ (2 ≤ size ∧ size ≤ 20)) → (P (-2) s))
set_option maxHeartbeats 1000000 in
theorem sp_X7_mergesWith (s : SS) (size : Int)  (r_s : RG s) (r_size : rg size) (p0 : Vz (s.2 0)) (p1 : Bd (s.2 0) 60000) (p2 : 0 ≤ (s.1 2) ∧ (s.1 2) ≤ 4) : wp_X7_mergesWith s size (fun r s' => (∃ f : Int → Int, s' = sA s 5 f) ∧ (if 2 ≤ size ∧ size ≤ 20 then growZ (s.2 0) size 8 r else r = -2)) := by
  unfold wp_X7_mergesWith
  exact ⟨fun c => ⟨p0, p1, p2, c, Or.inr rfl, fun r u rr ru ⟨h1, h2⟩ => ⟨h1, by rw [if_pos c]; exact h2⟩⟩, fun c => ⟨⟨s.2 5, sA_self.symm⟩, by rw [if_neg c]⟩⟩
def wp_X7_bestSize (s : SS)  (P : Int → SS → Prop) : Prop :=
  ∃ (I2 : Int → Int → Int → SS → Prop) (μ3 : Int → Int → Int → SS → Nat), I2 (-6) 0 2 s ∧ ∀ (x1_1 : Int) (x2_1 : Int) (x3_1 : Int) (s0_1 : SS), rg x1_1 → rg x2_1 → rg x3_1 → RG s0_1 → I2 x1_1 x2_1 x3_1 s0_1 → (((20 < x3_1) → (P x1_1 s0_1)) ∧ ((¬ (20 < x3_1)) → ((Vz (s0_1.2 0)) ∧ ((Bd (s0_1.2 0) 60000) ∧ ((0 ≤ (s0_1.1 2) ∧ (s0_1.1 2) ≤ 4) ∧ ((2 ≤ x3_1 ∧ x3_1 ≤ 20) ∧ (((7 : Int) = 7 ∨ (7 : Int) = 8) ∧ (∀ (z26 : Int) (u_s24 : SS), rg z26 → RG u_s24 → ((∃ f : Int → Int, u_s24 = sA s0_1 5 f) ∧ growZ (s0_1.2 0) x3_1 (7 : Int) z26) → (((z26 < 0) → (rg (x3_1 + 1) ∧ (I2 x1_1 x2_1 (x3_1 + 1) u_s24 ∧ μ3 x1_1 x2_1 (x3_1 + 1) u_s24 < μ3 x1_1 x2_1 x3_1 s0_1))) ∧ ((¬ (z26 < 0)) → (((x1_1 = (-6)) → (rg (x3_1 + 1) ∧ (I2 x3_1 z26 (x3_1 + 1) u_s24 ∧ μ3 x3_1 z26 (x3_1 + 1) u_s24 < μ3 x1_1 x2_1 x3_1 s0_1))) ∧ ((¬ (x1_1 = (-6))) → (((z26 < x2_1) → (rg (x3_1 + 1) ∧ (I2 x3_1 z26 (x3_1 + 1) u_s24 ∧ μ3 x3_1 z26 (x3_1 + 1) u_s24 < μ3 x1_1 x2_1 x3_1 s0_1))) ∧ ((¬ (z26 < x2_1)) → (rg (x3_1 + 1) ∧ (I2 x1_1 x2_1 (x3_1 + 1) u_s24 ∧ μ3 x1_1 x2_1 (x3_1 + 1) u_s24 < μ3 x1_1 x2_1 x3_1 s0_1))))))))))))))))
set_option maxHeartbeats 1000000 in
theorem sp_X7_bestSize (s : SS)   (r_s : RG s)  (p0 : Vz (s.2 0)) (p1 : Bd (s.2 0) 60000) (p2 : 0 ≤ (s.1 2) ∧ (s.1 2) ≤ 4) : wp_X7_bestSize s (fun r s' => (∃ f : Int → Int, s' = sA s 5 f) ∧ ∃ c : Int → Int, (∀ k, 2 ≤ k → k ≤ 20 → growZ (s.2 0) k 7 (c k)) ∧ r = bsF c 19) := by
  unfold wp_X7_bestSize
  refine ⟨fun b l k t => (2 ≤ k ∧ k ≤ 21) ∧ (∃ f : Int → Int, t = sA s 5 f) ∧ ∃ c : Int → Int, (∀ j, 2 ≤ j → j < k → growZ (s.2 0) j 7 (c j)) ∧ b = bsF c (k - 2).toNat ∧ (b = -6 ∨ l = c b), fun _ _ k _ => (21 - k).toNat, ⟨by omega, ⟨s.2 5, sA_self.symm⟩, fun _ => 0, fun j h1 h2 => by omega, rfl, Or.inl rfl⟩, ?_⟩
  intro b l k t rb rl rk rt ⟨⟨k1, k2⟩, ⟨f, hf⟩, c, c1, c2, c3⟩
  have e0 : t.2 0 = s.2 0 := by rw [hf]; exact sA_ne (by decide)
  have e2 : t.1 2 = s.1 2 := by rw [hf]; rfl
  refine ⟨fun d => ⟨⟨f, hf⟩, c, fun j h1 h2 => c1 j h1 (by omega), by rw [c2, show k = 21 by omega]; rfl⟩, fun d => ?_⟩
  rw [e0, e2]
  refine ⟨p0, p1, p2, by omega, Or.inl rfl, ?_⟩
  intro r u rr ru ⟨⟨g, hg⟩, hr⟩
  have hu : ∃ f : Int → Int, u = sA s 5 f := ⟨g, by rw [hg, hf, sA_sA]⟩
  have c' : ∀ j, 2 ≤ j → j < k + 1 → growZ (s.2 0) j 7 (uZ c k r j) := fun j h1 h2 => by
    by_cases w : j = k
    · rw [w, uZ_at]; exact hr
    · rw [uZ_ne w]; exact c1 j h1 (by omega)
  have bs := bsF_u (c := c) (k := k) (r := r) k1
  have bg := bsF_rng c (k - 2).toNat
  have bS : bsF (uZ c k r) (k + 1 - 2).toNat = if 0 ≤ r ∧ (b = -6 ∨ r < c b) then k else b := by
    rw [show (k + 1 - 2).toNat = (k - 2).toNat + 1 by omega, bsF, bs, ← c2, show (2 + (((k - 2).toNat : Nat) : Int)) = k by omega, uZ_at]
    by_cases w : b = -6
    · rw [w]; simp
    · rw [uZ_ne (i := k) (j := b) (by omega)]
  have old : ¬ (0 ≤ r ∧ (b = -6 ∨ r < c b)) → (2 ≤ k + 1 ∧ k + 1 ≤ 21) ∧ (∃ f : Int → Int, u = sA s 5 f) ∧ ∃ c : Int → Int, (∀ j, 2 ≤ j → j < k + 1 → growZ (s.2 0) j 7 (c j)) ∧ b = bsF c (k + 1 - 2).toNat ∧ (b = -6 ∨ l = c b) := fun w => ⟨by omega, hu, uZ c k r, c', by rw [bS, if_neg w], by
    rcases c3 with q | q
    · exact Or.inl q
    · by_cases w2 : b = -6
      · exact Or.inl w2
      · exact Or.inr (by rw [uZ_ne (by omega)]; exact q)⟩
  have new : (0 ≤ r ∧ (b = -6 ∨ r < c b)) → (2 ≤ k + 1 ∧ k + 1 ≤ 21) ∧ (∃ f : Int → Int, u = sA s 5 f) ∧ ∃ c : Int → Int, (∀ j, 2 ≤ j → j < k + 1 → growZ (s.2 0) j 7 (c j)) ∧ k = bsF c (k + 1 - 2).toNat ∧ (k = -6 ∨ r = c k) := fun w => ⟨by omega, hu, uZ c k r, c', by rw [bS, if_pos w], Or.inr (by rw [uZ_at])⟩
  have hk : rg (k + 1) := by unfold rg; omega
  refine ⟨fun w => ⟨hk, old (by omega), by dsimp only; omega⟩, fun w => ⟨fun w2 => ⟨hk, new (by omega), by dsimp only; omega⟩, fun w2 => ?_⟩⟩
  have hl : l = c b := c3.resolve_left w2
  subst hl
  exact ⟨fun w3 => ⟨hk, new (by omega), by dsimp only; omega⟩, fun w3 => ⟨hk, old (by omega), by dsimp only; omega⟩⟩
