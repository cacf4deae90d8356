def wp_X5_runToEnd (s : SS)  (P : Int → SS → Prop) : Prop :=
  ∃ (g1 : Int → Int), (Rep s g1) ∧ ((Vb g1 ∧ g1 4 + 1 ≤ 900000000) ∧ ((rg (g1 7 + rowsAt g1 1)) ∧ (∀ (u_s9 : SS), RG u_s9 → (Rep u_s9 (uZ (wriZ g1) 2 0)) → (∃ (g14 : Int → Int), (Rep u_s9 g14) ∧ ((Vz g14) ∧ ((Bd g14 (120 : Int)) ∧ ((1 ≤ (120 : Int) ∧ (120 : Int) ≤ 200) ∧ (∀ (z26 : Int) (u_s24 : SS), rg z26 → RG u_s24 → (∃ w : Nat → Int → Int, w 0 = g14 ∧ (∀ i : Nat, (i : Int) < z26 → (w i) 5 = 1 ∧ w (i + 1) = stpZ (w i)) ∧ 0 ≤ z26 ∧ z26 ≤ (120 : Int) ∧ (z26 < (120 : Int) → (w z26.toNat) 5 = 0) ∧ Rep u_s24 (w z26.toNat)) → (∃ (I31 : Int → SS → Prop) (μ32 : Int → SS → Nat), I31 0 u_s24 ∧ ∀ (x1_30 : Int) (s0_30 : SS), rg x1_30 → RG s0_30 → I31 x1_30 s0_30 → (((x1_30 < 120) → ((2 ≤ (s0_30.1 4) ∧ (s0_30.1 4) ≤ 20) ∧ ((((s0_30.1 3) = 0 ∧ ¬ 0 < (s0_30.1 18) ∧ 2 ≤ (s0_30.1 17) ∧ 2 ≤ waysZ (s0_30.1 4)) → (∃ (g53 : Int → Int), (Rep s0_30 g53) ∧ ((Vb g53) ∧ ((2 ≤ g53 0 ∧ g53 0 ≤ 20) ∧ ((rg (g53 8 + 1)) ∧ ((riZ g53 = 0) ∧ (∀ (z67 : Int) (u_s65 : SS), rg z67 → RG u_s65 → (z67 = begN g53 ∧ Rep u_s65 (begZ g53)) → (∃ (g71 : Int → Int), (Rep u_s65 g71) ∧ ((Vz g71) ∧ ((Bd g71 (120 : Int)) ∧ (∀ (z81 : Int) (u_s79 : SS), rg z81 → RG u_s79 → (∃ w : Nat → Int → Int, w 0 = g71 ∧ (∀ i : Nat, (i : Int) < z81 → (w i) 5 = 1 ∧ w (i + 1) = stpZ (w i)) ∧ 0 ≤ z81 ∧ z81 ≤ (120 : Int) ∧ (z81 < (120 : Int) → (w z81.toNat) 5 = 0) ∧ Rep u_s79 (w z81.toNat)) → (rg (x1_30 + 1) ∧ (I31 (x1_30 + 1) u_s79 ∧ μ32 (x1_30 + 1) u_s79 < μ32 x1_30 s0_30))))))))))))) ∧ ((¬ ((s0_30.1 3) = 0 ∧ ¬ 0 < (s0_30.1 18) ∧ 2 ≤ (s0_30.1 17) ∧ 2 ≤ waysZ (s0_30.1 4))) → (P x1_30 s0_30))))) ∧ ((¬ (x1_30 < 120)) → (P x1_30 s0_30))))))))))))
set_option maxHeartbeats 1000000 in
theorem sp_X5_runToEnd (s : SS)  (z : Int → Int) (r_s : RG s)  (p0 : Rep s z) (p1 : Vz z) (p2 : Bd z 50000) (p3 : goC (finZ z)) : wp_X5_runToEnd s (fun r s' => ∃ z' : Int → Int, AllZ (finZ z) z' ∧ r = z' 8 - z 8 ∧ Rep s' z') := by
  unfold wp_X5_runToEnd
  have hb := p1.1
  have ⟨b1, b2, b3, b4, b5⟩ := hb
  obtain ⟨B4, B7, B8, B9⟩ := p2
  have hra := rowsAt_le (z := z) (p := 1) b1
  have s7 := p1.2.1.2.2.2.2.2.1
  have s8 := p1.2.1.2.2.2.2.2.2.1
  have hf := finZ_Vz p1 (by omega)
  have f4 : finZ z 4 ≤ z 4 + 1 := by
    unfold finZ
    rw [uZ_ne (by omega), wriZ_4 b1]
    have := pz_01 (0 < rowsAt z 1); omega
  have f7 : finZ z 7 = z 7 + rowsAt z 1 := by unfold finZ; rw [uZ_ne (by omega), wriZ_7]
  have f8 : finZ z 8 = z 8 := by unfold finZ; rw [uZ_ne (by omega), wriZ_lo (by omega) (by omega) (by omega)]
  have f9 : finZ z 9 = z 9 := by unfold finZ; rw [uZ_ne (by omega), wriZ_lo (by omega) (by omega) (by omega)]
  have f2 : finZ z 2 = 0 := by unfold finZ; rw [uZ_at]
  have fB : Bd (finZ z) 120 := ⟨by omega, by omega, by omega, by omega⟩
  refine ⟨z, p0, ⟨hb, by omega⟩, by unfold rg; omega, ?_⟩
  intro u ru hu
  refine ⟨finZ z, hu, hf, fB, by omega, ?_⟩
  intro n v rn rv ⟨w, w0, w1, w2, w3, w4, w5⟩
  obtain ⟨⟨g1, g2, g3, g4, g5, g6, g7, g8, g9⟩, ga, _⟩ := ms_all hf f2 fB w2 w3 w0 w1 w4
  have gm := runs_rows (kind := 0) g1.1
  have gm3 := g1.1.2.1
  refine ⟨fun k t => 0 ≤ k ∧ k ≤ 120 ∧ ∃ y : Int → Int, Rep t y ∧ Vz y ∧ y 5 = 0 ∧ y 2 = 0 ∧ goC y ∧ (∀ y', AllZ y y' → AllZ (finZ z) y') ∧ y 8 = z 8 + k ∧ manyZ y 0 + k ≤ 120 ∧ y 4 ≤ z 4 + 121 + 120 * k ∧ y 7 ≤ z 7 + 360 + 240 * k ∧ y 9 = z 9, fun k _ => (120 - k).toNat, ⟨by omega, by omega, w n.toNat, w5, g1, g9, g2, ⟨g2, ?_⟩, ga, by omega, by omega, by omega, by omega, by omega⟩, ?_⟩
  · rw [g3, g4, g9]
    have := p3.2
    omega
  intro k t rk rt ⟨k0, k1, y, hR, hV, h5, h2, hC, hA, h8, hM, h4, h7, h9⟩
  have ⟨v1, v2, v3, v4, v5⟩ := hV.1
  have ⟨_, ⟨c1, c2, c3, c4, c5, c6, c7, c8⟩, _, hd, hin, _⟩ := hR
  have y0 := hV.2.1.1
  have vr : y 5 = 1 ↔ 0 < riZ y := by obtain ⟨_, _, _, _, _, _, _, vr, _⟩ := hV; exact vr
  have r0 := (riZ_le v1).1
  have hri := Rep_ri hV.1 hR
  have y7 := hV.2.1.2.2.2.2.2.1
  have n17 := RLs_many hd v1 v3 (Or.inl rfl)
  refine ⟨fun c => ⟨by omega, fun d => ?_, fun d => ?_⟩, fun c => ?_⟩
  · refine ⟨y, hR, hV.1, y0, by unfold rg; omega, by omega, ?_⟩
    intro N x rN rx ⟨eN, hx⟩
    have hwy : 2 ≤ waysZ (y 0) := by rw [← c3]; exact d.2.2.2
    have hN2 : 2 ≤ begN y := by unfold begN; omega
    have hbz := begZ_Vz hV h2 h5 (by omega)
    have e4 : begZ y 4 = y 4 := begZ_lo hV.1 (by omega) (by omega) (by omega) (by omega)
    have e7 : begZ y 7 = y 7 := begZ_lo hV.1 (by omega) (by omega) (by omega) (by omega)
    have e9 : begZ y 9 = y 9 := begZ_lo hV.1 (by omega) (by omega) (by omega) (by omega)
    have e2 : begZ y 2 = y 2 := begZ_lo hV.1 (by omega) (by omega) (by omega) (by omega)
    have e0 : begZ y 0 = y 0 := begZ_lo hV.1 (by omega) (by omega) (by omega) (by omega)
    have e8 : begZ y 8 = y 8 + 1 := begZ_8
    have e5 : begZ y 5 = 1 := begZ_5
    have hB2 : Bd (begZ y) 120 := ⟨by omega, by omega, by omega, by omega⟩
    refine ⟨begZ y, hx, hbz, hB2, ?_⟩
    intro m a rm ra ⟨w, x0, x1, x2, x3, x4, x5⟩
    obtain ⟨⟨q1, q2, q3, q4, q5, q6, q7, q8, q9⟩, _, qa⟩ := ms_all hbz (by omega) hB2 x2 x3 x0 x1 x4
    have hmm := begZ_many hV.1 (by omega)
    refine ⟨by unfold rg; omega, ⟨by omega, by omega, w m.toNat, x5, q1, q9, q2, ⟨q2, Or.inr (by rw [q3, e0]; exact hwy)⟩, fun y' hy => hA y' (AllZ_step (Or.inr (by omega)) ?_), by omega, by omega, by omega, by omega, by omega⟩, by dsimp only; omega⟩
    unfold oneZ
    rw [if_pos h5]
    exact qa e5 y' hy
  · have n1 : ¬ goOn y := fun q => by
      rcases q with q | q
      · omega
      · rcases hC.2 with e | e
        · omega
        · exact d ⟨by omega, by omega, by omega, by rw [c3]; exact e⟩
    exact ⟨y, hA y (AllZ_0 n1), by omega, hR⟩
  · have n1 : ¬ goOn y := fun q => by
      rcases q with q | q
      · omega
      · omega
    exact ⟨y, hA y (AllZ_0 n1), by omega, hR⟩
