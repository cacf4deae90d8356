def wp_X7_allSteps (s : SS)  (P : Int → SS → Prop) : Prop :=
  (((((s.2 0) 2) = 1) → ((Vb (s.2 0)) ∧ ((rg ((s.2 0) 7 + rowsAt (s.2 0) 1)) ∧ (True)))) ∧ ((¬ (((s.2 0) 2) = 1)) → (True))) ∧ (∃ (I20 : SS → Prop) (μ21 : SS → Nat), I20 (sA s 0 (if ((s.2 0) 2) = 1 then uZ (wriZ (s.2 0)) 2 0 else (s.2 0))) ∧ ∀ (s0_19 : SS), RG s0_19 → I20 s0_19 → (((((s0_19.2 0) 5) = 1) → (((((s0_19.2 0) 5) = 0) → ((Vb (s0_19.2 0)) ∧ ((2 ≤ (s0_19.2 0) 0 ∧ (s0_19.2 0) 0 ≤ 20) ∧ ((rg ((s0_19.2 0) 8 + 1)) ∧ ((Vb (begZ (s0_19.2 0))) ∧ ((0 < riZ (begZ (s0_19.2 0))) ∧ ((rg ((begZ (s0_19.2 0)) 7 + 2) ∧ 0 ≤ (begZ (s0_19.2 0)) 7) ∧ ((∀ r, 0 ≤ r → r < (begZ (s0_19.2 0)) 3 → 0 ≤ (begZ (s0_19.2 0)) (130 + r) ∧ (begZ (s0_19.2 0)) (130 + r) ≤ 120) ∧ (I20 (sA s0_19 0 (stpZ (begZ (s0_19.2 0)))) ∧ μ21 (sA s0_19 0 (stpZ (begZ (s0_19.2 0)))) < μ21 s0_19))))))))) ∧ ((¬ (((s0_19.2 0) 5) = 0)) → ((Vb (s0_19.2 0)) ∧ ((0 < riZ (s0_19.2 0)) ∧ ((rg ((s0_19.2 0) 7 + 2) ∧ 0 ≤ (s0_19.2 0) 7) ∧ ((∀ r, 0 ≤ r → r < (s0_19.2 0) 3 → 0 ≤ (s0_19.2 0) (130 + r) ∧ (s0_19.2 0) (130 + r) ≤ 120) ∧ (I20 (sA s0_19 0 (stpZ (s0_19.2 0))) ∧ μ21 (sA s0_19 0 (stpZ (s0_19.2 0))) < μ21 s0_19)))))))) ∧ ((¬ (((s0_19.2 0) 5) = 1)) → ((Vb (s0_19.2 0)) ∧ (((1 < (manyZ (s0_19.2 0) 0)) → (((((s0_19.2 0) 5) = 0) → ((2 ≤ (s0_19.2 0) 0 ∧ (s0_19.2 0) 0 ≤ 20) ∧ ((rg ((s0_19.2 0) 8 + 1)) ∧ ((Vb (begZ (s0_19.2 0))) ∧ ((0 < riZ (begZ (s0_19.2 0))) ∧ ((rg ((begZ (s0_19.2 0)) 7 + 2) ∧ 0 ≤ (begZ (s0_19.2 0)) 7) ∧ ((∀ r, 0 ≤ r → r < (begZ (s0_19.2 0)) 3 → 0 ≤ (begZ (s0_19.2 0)) (130 + r) ∧ (begZ (s0_19.2 0)) (130 + r) ≤ 120) ∧ (I20 (sA s0_19 0 (stpZ (begZ (s0_19.2 0)))) ∧ μ21 (sA s0_19 0 (stpZ (begZ (s0_19.2 0)))) < μ21 s0_19)))))))) ∧ ((¬ (((s0_19.2 0) 5) = 0)) → ((0 < riZ (s0_19.2 0)) ∧ ((rg ((s0_19.2 0) 7 + 2) ∧ 0 ≤ (s0_19.2 0) 7) ∧ ((∀ r, 0 ≤ r → r < (s0_19.2 0) 3 → 0 ≤ (s0_19.2 0) (130 + r) ∧ (s0_19.2 0) (130 + r) ≤ 120) ∧ (I20 (sA s0_19 0 (stpZ (s0_19.2 0))) ∧ μ21 (sA s0_19 0 (stpZ (s0_19.2 0))) < μ21 s0_19))))))) ∧ ((¬ (1 < (manyZ (s0_19.2 0) 0))) → (rg (((s0_19.2 0) 8) - ((if ((s.2 0) 2) = 1 then uZ (wriZ (s.2 0)) 2 0 else (s.2 0)) 8)) ∧ (P (((s0_19.2 0) 8) - ((if ((s.2 0) 2) = 1 then uZ (wriZ (s.2 0)) 2 0 else (s.2 0)) 8)) s0_19))))))))
set_option maxHeartbeats 1000000 in
theorem sp_X7_allSteps (s : SS)   (r_s : RG s)  (p0 : Vz (s.2 0)) (p1 : Bd (s.2 0) 50000) (p2 : crZ (s.2 0)) : wp_X7_allSteps s (fun r s' => ∃ y : Int → Int, s' = sA s 0 y ∧ AllZ (finZ (s.2 0)) y ∧ r = y 8 - (s.2 0) 8 ∧ Vz y ∧ y 4 ≤ (s.2 0) 4 + 50000 ∧ y 7 ≤ (s.2 0) 7 + 100000 ∧ y 8 ≤ (s.2 0) 8 + 50000 ∧ y 9 = (s.2 0) 9 ∧ (s.2 0) 8 ≤ y 8) := by
  unfold wp_X7_allSteps
  obtain ⟨b4, b7, b8, b9⟩ := p1
  have hb := p0.1
  have ⟨v1, v2, v3, v4, v5⟩ := hb
  have s2 := p0.2.1.2.2.1
  have s7 := p0.2.1.2.2.2.2.2.1
  have s8 := p0.2.1.2.2.2.2.2.2.1
  have hra := rowsAt_le (z := s.2 0) (p := 1) v1
  have eF : (if s.2 0 2 = 1 then uZ (wriZ (s.2 0)) 2 0 else s.2 0) = finZ (s.2 0) := by
    by_cases c : s.2 0 2 = 1
    · rw [if_pos c]; rfl
    · rw [if_neg c]
      have h2 : s.2 0 2 = 0 := by omega
      exact (finZ_same h2 (p0.2.2.2.2.2.1 h2)).symm
  rw [eF]
  have hf := finZ_Vz p0 (by omega)
  have hg := finZ_goC p0 p2
  have f4 : finZ (s.2 0) 4 ≤ s.2 0 4 + 1 := by
    unfold finZ
    rw [uZ_ne (by omega), wriZ_4 v1]
    have := pz_01 (0 < rowsAt (s.2 0) 1); omega
  have f7 : finZ (s.2 0) 7 = s.2 0 7 + rowsAt (s.2 0) 1 := by unfold finZ; rw [uZ_ne (by omega), wriZ_7]
  have f8 : finZ (s.2 0) 8 = s.2 0 8 := by unfold finZ; rw [uZ_ne (by omega), wriZ_lo (by omega) (by omega) (by omega)]
  have f9 : finZ (s.2 0) 9 = s.2 0 9 := by unfold finZ; rw [uZ_ne (by omega), wriZ_lo (by omega) (by omega) (by omega)]
  have f3 : finZ (s.2 0) 3 = s.2 0 3 := by unfold finZ; rw [uZ_ne (by omega), wriZ_lo (by omega) (by omega) (by omega)]
  have phi : phiZ (finZ (s.2 0)) ≤ 24520 := by
    have h1 := (riZ_le hf.1.1).2
    have h5 : finZ (s.2 0) 5 = 0 ∨ finZ (s.2 0) 5 = 1 := hf.2.1.2.2.2.1
    have h6 := runs_rows (kind := 0) hf.1
    unfold phiZ
    rw [f3] at h1 h6
    omega
  refine ⟨⟨fun _ => ⟨hb, by unfold rg; omega, trivial⟩, fun _ => trivial⟩, ?_⟩
  refine ⟨fun t => ∃ y : Int → Int, t = sA s 0 y ∧ Vz y ∧ goC y ∧ (∀ y', AllZ y y' → AllZ (finZ (s.2 0)) y') ∧ 0 ≤ phiZ y ∧ phiZ y ≤ 24520 ∧ y 4 + phiZ y ≤ s.2 0 4 + 24521 ∧ y 7 + 2 * phiZ y ≤ s.2 0 7 + 49160 ∧ y 8 + phiZ y ≤ s.2 0 8 + 24520 ∧ y 9 = s.2 0 9 ∧ s.2 0 8 ≤ y 8, fun t => (phiZ (t.2 0)).toNat, ⟨_, rfl, hf, hg, fun _ h => h, phi_nn hf, phi, by omega, by omega, by omega, f9, by omega⟩, ?_⟩
  intro t rt ⟨y, ht, hy, hc, hall, q0, q1, q4, q7, q8, q9, q10⟩
  subst ht
  dsimp only
  rw [sA_at, sA_sA, sA_sA]
  have y5 := hy.2.1.2.2.2.1
  have y7 := hy.2.1.2.2.2.2.2.1
  have y8 := hy.2.1.2.2.2.2.2.2.1
  have y0 := hy.2.1.1
  have key : goOn y → Vz (oneZ y) ∧ (∃ y2 : Int → Int, sA s 0 (oneZ y) = sA s 0 y2 ∧ Vz y2 ∧ goC y2 ∧ (∀ y', AllZ y2 y' → AllZ (finZ (s.2 0)) y') ∧ 0 ≤ phiZ y2 ∧ phiZ y2 ≤ 24520 ∧ y2 4 + phiZ y2 ≤ s.2 0 4 + 24521 ∧ y2 7 + 2 * phiZ y2 ≤ s.2 0 7 + 49160 ∧ y2 8 + phiZ y2 ≤ s.2 0 8 + 24520 ∧ y2 9 = s.2 0 9 ∧ s.2 0 8 ≤ y2 8) ∧ (phiZ (oneZ y)).toNat < (phiZ y).toNat := by
    intro hgo
    obtain ⟨hw, hc2⟩ := goC_one hy hgo hc (by omega)
    obtain ⟨g1, g2, g3, g4, g5, g6, g7, g8, g9, g10⟩ := oneZ_all hy hc.1 hw hgo (by omega)
    have hn := phi_nn g1
    exact ⟨g1, ⟨_, rfl, g1, hc2, fun y' h => hall y' (AllZ_step hgo h), hn, by omega, by omega, by omega, by omega, by omega, by omega⟩, by omega⟩
  have beg : goOn y → y 5 = 0 → Vb y ∧ (2 ≤ y 0 ∧ y 0 ≤ 20) ∧ rg (y 8 + 1) ∧ Vb (begZ y) ∧ 0 < riZ (begZ y) ∧ (rg (begZ y 7 + 2) ∧ 0 ≤ begZ y 7) ∧ (∀ r, 0 ≤ r → r < begZ y 3 → 0 ≤ begZ y (130 + r) ∧ begZ y (130 + r) ≤ 120) := by
    intro hgo h5
    have hw := (goC_one hy hgo hc (by omega)).1
    have hm : 1 < manyZ y 0 := by rcases hgo with q | q; omega; exact q
    have hN : 2 ≤ begN y := by unfold begN; omega
    have hbz := begZ_Vz hy hc.1 h5 (by omega)
    rw [begZ_lo (i := 7) hy.1 (by omega) (by omega) (by omega) (by omega)]
    exact ⟨hy.1, y0, by unfold rg; omega, hbz.1, begZ_ri hy.1 (by omega), ⟨by unfold rg; omega, y7⟩, hbz.cnt⟩
  have stp : y 5 = 1 → Vb y ∧ 0 < riZ y ∧ (rg (y 7 + 2) ∧ 0 ≤ y 7) ∧ (∀ r, 0 ≤ r → r < y 3 → 0 ≤ y (130 + r) ∧ y (130 + r) ≤ 120) := fun h5 => ⟨hy.1, hy.2.2.2.2.2.2.2.1.mp h5, ⟨by unfold rg; omega, y7⟩, hy.cnt⟩
  have one1 : y 5 = 0 → stpZ (begZ y) = oneZ y := fun h => by unfold oneZ; rw [if_pos h]
  have one2 : ¬ y 5 = 0 → stpZ y = oneZ y := fun h => by unfold oneZ; rw [if_neg h]
  refine ⟨fun c => ⟨fun c0 => absurd c0 (by omega), fun c0 => ?_⟩, fun c => ⟨hy.1, fun cm => ⟨fun c0 => ?_, fun c0 => absurd c0 (by omega)⟩, fun cm => ?_⟩⟩
  · obtain ⟨k1, k2, k3⟩ := key (Or.inl c)
    obtain ⟨a1, a2, a3, a4⟩ := stp c
    rw [one2 c0, sA_at]
    exact ⟨a1, a2, a3, a4, k2, k3⟩
  · obtain ⟨k1, k2, k3⟩ := key (Or.inr cm)
    obtain ⟨a1, a2, a3, a4, a5, a6, a7⟩ := beg (Or.inr cm) c0
    rw [one1 c0, sA_at]
    exact ⟨a2, a3, a4, a5, a6, a7, k2, k3⟩
  · have hst : ¬ goOn y := fun h => by rcases h with q | q; exact c q; exact cm q
    rw [f8]
    exact ⟨by unfold rg; omega, y, rfl, hall y (AllZ_0 hst), rfl, hy, by omega, by omega, by omega, q9, q10⟩
def wp_X7_record (s : SS)  (P : SS → Prop) : Prop :=
  (((s.1 2) = 4) → (∃ (I34 : Int → SS → Prop) (μ35 : Int → SS → Nat), I34 0 s ∧ ∀ (x1_33 : Int) (s0_33 : SS), rg x1_33 → RG s0_33 → I34 x1_33 s0_33 → (((x1_33 < 1110) → (rg (x1_33 + 370) ∧ ((0 ≤ (x1_33 + 370) ∧ (x1_33 + 370) < 1480) ∧ ((0 ≤ x1_33 ∧ x1_33 < 1480) ∧ (rg (x1_33 + 1) ∧ (I34 (x1_33 + 1) (sA s0_33 1 (uZ (s0_33.2 1) x1_33 ((s0_33.2 1) (x1_33 + 370)))) ∧ μ35 (x1_33 + 1) (sA s0_33 1 (uZ (s0_33.2 1) x1_33 ((s0_33.2 1) (x1_33 + 370)))) < μ35 x1_33 s0_33)))))) ∧ ((¬ (x1_33 < 1110)) → (rg ((s0_33.1 2) - 1) ∧ (∃ (I48 : Int → SS → Prop) (μ49 : Int → SS → Nat), I48 0 (sS s0_33 2 ((s0_33.1 2) - 1)) ∧ ∀ (x1_47 : Int) (s0_47 : SS), rg x1_47 → RG s0_47 → I48 x1_47 s0_47 → (((x1_47 < 370) → (rg ((s0_47.1 2) * 370) ∧ (rg (((s0_47.1 2) * 370) + x1_47) ∧ ((0 ≤ x1_47 ∧ x1_47 < 370) ∧ ((0 ≤ (((s0_47.1 2) * 370) + x1_47) ∧ (((s0_47.1 2) * 370) + x1_47) < 1480) ∧ (rg (x1_47 + 1) ∧ (I48 (x1_47 + 1) (sA s0_47 1 (uZ (s0_47.2 1) (((s0_47.1 2) * 370) + x1_47) ((s0_47.2 0) x1_47))) ∧ μ49 (x1_47 + 1) (sA s0_47 1 (uZ (s0_47.2 1) (((s0_47.1 2) * 370) + x1_47) ((s0_47.2 0) x1_47))) < μ49 x1_47 s0_47))))))) ∧ ((¬ (x1_47 < 370)) → (rg ((s0_47.1 2) + 1) ∧ (P (sS s0_47 2 ((s0_47.1 2) + 1)))))))))))) ∧ ((¬ ((s.1 2) = 4)) → (∃ (I6 : Int → SS → Prop) (μ7 : Int → SS → Nat), I6 0 s ∧ ∀ (x1_5 : Int) (s0_5 : SS), rg x1_5 → RG s0_5 → I6 x1_5 s0_5 → (((x1_5 < 370) → (rg ((s0_5.1 2) * 370) ∧ (rg (((s0_5.1 2) * 370) + x1_5) ∧ ((0 ≤ x1_5 ∧ x1_5 < 370) ∧ ((0 ≤ (((s0_5.1 2) * 370) + x1_5) ∧ (((s0_5.1 2) * 370) + x1_5) < 1480) ∧ (rg (x1_5 + 1) ∧ (I6 (x1_5 + 1) (sA s0_5 1 (uZ (s0_5.2 1) (((s0_5.1 2) * 370) + x1_5) ((s0_5.2 0) x1_5))) ∧ μ7 (x1_5 + 1) (sA s0_5 1 (uZ (s0_5.2 1) (((s0_5.1 2) * 370) + x1_5) ((s0_5.2 0) x1_5))) < μ7 x1_5 s0_5))))))) ∧ ((¬ (x1_5 < 370)) → (rg ((s0_5.1 2) + 1) ∧ (P (sS s0_5 2 ((s0_5.1 2) + 1))))))))
set_option maxHeartbeats 1000000 in
theorem sp_X7_record (s : SS)  (r_s : RG s)  (p0 : 0 ≤ (s.1 2) ∧ (s.1 2) ≤ 4) : wp_X7_record s (fun o0 => o0 = (sS (sA s 1 (recP (s.2 1) (s.1 2) (s.2 0))) 2 (recN (s.1 2) + 1))) := by
  unfold wp_X7_record
  have two : ∀ (t : SS) (m : Int) (g : Int → Int), 0 ≤ m → m ≤ 3 → t = sA (sS s 2 m) 1 g → ∃ (I : Int → SS → Prop) (μ : Int → SS → Nat), I 0 t ∧ ∀ (k : Int) (t : SS), rg k → RG t → I k t → (k < 370 → rg (t.1 2 * 370) ∧ rg (t.1 2 * 370 + k) ∧ (0 ≤ k ∧ k < 370) ∧ (0 ≤ t.1 2 * 370 + k ∧ t.1 2 * 370 + k < 1480) ∧ rg (k + 1) ∧ I (k + 1) (sA t 1 (uZ (t.2 1) (t.1 2 * 370 + k) (t.2 0 k))) ∧ μ (k + 1) (sA t 1 (uZ (t.2 1) (t.1 2 * 370 + k) (t.2 0 k))) < μ k t) ∧ (¬ k < 370 → rg (t.1 2 + 1) ∧ sS t 2 (t.1 2 + 1) = sS (sA s 1 (ofP (s.2 0) g (m * 370) 370)) 2 (m + 1)) := by
    intro t m g h0 h1 ht
    refine ⟨fun k t => 0 ≤ k ∧ k ≤ 370 ∧ t = sA (sS s 2 m) 1 (ofP (s.2 0) g (m * 370) k), fun k _ => (370 - k).toNat, ⟨by omega, by omega, by rw [ofP_0, ht]⟩, ?_⟩
    intro k t rk rt ⟨k0, k1, k2⟩
    subst k2
    have e2 : (sA (sS s 2 m) 1 (ofP (s.2 0) g (m * 370) k)).1 2 = m := (sS_at : (sS s 2 m).1 2 = m)
    have e0 : (sA (sS s 2 m) 1 (ofP (s.2 0) g (m * 370) k)).2 0 = s.2 0 := sA_ne (by decide)
    dsimp only
    rw [e2, e0, sA_at]
    refine ⟨fun c => ⟨by unfold rg; omega, by unfold rg; omega, by omega, by omega, by unfold rg; omega, ⟨by omega, by omega, ?_⟩, by omega⟩, fun c => ⟨by unfold rg; omega, ?_⟩⟩
    · rw [sA_sA, ofP_S k0 rfl]
    · rw [show k = 370 by omega]
      show sS (sS (sA s 1 _) 2 m) 2 (m + 1) = _
      rw [sS_sS]
  refine ⟨fun c => ?_, fun c => ?_⟩
  · refine ⟨fun k t => 0 ≤ k ∧ k ≤ 1110 ∧ t = sA s 1 (cpP (s.2 1) (s.2 1) 370 k), fun k _ => (1110 - k).toNat, ⟨by omega, by omega, by rw [cpP_0, sA_self]⟩, ?_⟩
    intro k t rk rt ⟨k0, k1, k2⟩
    subst k2
    have e2 : (sA s 1 (cpP (s.2 1) (s.2 1) 370 k)).1 2 = s.1 2 := rfl
    dsimp only
    rw [e2, sA_at, c]
    refine ⟨fun c2 => ⟨by unfold rg; omega, by omega, by omega, by unfold rg; omega, ⟨by omega, by omega, ?_⟩, by omega⟩, fun c2 => ⟨by unfold rg; omega, ?_⟩⟩
    · rw [sA_sA, cpP_S k0 (by rw [cpP_out (by omega), Int.add_comm])]
    · have h9 := two (sS (sA s 1 (cpP (s.2 1) (s.2 1) 370 k)) 2 (4 - 1)) 3 (cpP (s.2 1) (s.2 1) 370 1110) (by omega) (by omega) (by rw [show k = 1110 by omega]; rfl)
      have eR : recP (s.2 1) 4 (s.2 0) = ofP (s.2 0) (cpP (s.2 1) (s.2 1) 370 1110) (3 * 370) 370 := rfl
      have eN : recN 4 + 1 = 3 + 1 := rfl
      rw [eR, eN]
      exact h9
  · have h9 := two s (s.1 2) (s.2 1) (by omega) (by omega) (by rw [sS_self, sA_self])
    have eR : recP (s.2 1) (s.1 2) (s.2 0) = ofP (s.2 0) (s.2 1) (s.1 2 * 370) 370 := by unfold recP recN; rw [if_neg c, if_neg c]
    have eN : recN (s.1 2) + 1 = s.1 2 + 1 := by unfold recN; rw [if_neg c]
    rw [eR, eN]
    exact h9
def wp_X7_undo (s : SS)  (P : Int → SS → Prop) : Prop :=
  (((s.1 2) = 0) → (P (-3) s)) ∧ ((¬ ((s.1 2) = 0)) → (rg ((s.1 2) - 1) ∧ (∃ (I8 : Int → SS → Prop) (μ9 : Int → SS → Nat), I8 0 (sS s 2 ((s.1 2) - 1)) ∧ ∀ (x1_7 : Int) (s0_7 : SS), rg x1_7 → RG s0_7 → I8 x1_7 s0_7 → (((x1_7 < 370) → (rg ((s0_7.1 2) * 370) ∧ (rg (((s0_7.1 2) * 370) + x1_7) ∧ ((0 ≤ (((s0_7.1 2) * 370) + x1_7) ∧ (((s0_7.1 2) * 370) + x1_7) < 1480) ∧ ((0 ≤ x1_7 ∧ x1_7 < 370) ∧ (rg (x1_7 + 1) ∧ (I8 (x1_7 + 1) (sA s0_7 0 (uZ (s0_7.2 0) x1_7 ((s0_7.2 1) (((s0_7.1 2) * 370) + x1_7)))) ∧ μ9 (x1_7 + 1) (sA s0_7 0 (uZ (s0_7.2 0) x1_7 ((s0_7.2 1) (((s0_7.1 2) * 370) + x1_7)))) < μ9 x1_7 s0_7))))))) ∧ ((¬ (x1_7 < 370)) → (P (s0_7.1 2) s0_7))))))
set_option maxHeartbeats 1000000 in
theorem sp_X7_undo (s : SS)  (r_s : RG s)  (p0 : 0 ≤ (s.1 2) ∧ (s.1 2) ≤ 4) : wp_X7_undo s (fun z o0 => z = (if (s.1 2) = 0 then -3 else (s.1 2) - 1) ∧ o0 = (sS (sA s 0 (if (s.1 2) = 0 then (s.2 0) else cpF (s.2 1) (s.2 0) (((s.1 2) - 1) * 370))) 2 (if (s.1 2) = 0 then (s.1 2) else (s.1 2) - 1))) := by
  unfold wp_X7_undo
  refine ⟨fun c => ?_, fun c => ⟨by unfold rg; omega, ?_⟩⟩
  · rw [if_pos c, if_pos c, if_pos c, sA_self, sS_self]; exact ⟨rfl, rfl⟩
  rw [if_neg c, if_neg c, if_neg c]
  refine ⟨fun k t => 0 ≤ k ∧ k ≤ 370 ∧ t = sA (sS s 2 (s.1 2 - 1)) 0 (cpP (s.2 1) (s.2 0) ((s.1 2 - 1) * 370) k), fun k _ => (370 - k).toNat, ⟨by omega, by omega, ?_⟩, ?_⟩
  · rw [cpP_0]
    exact (sA_self (s := sS s 2 (s.1 2 - 1)) (k := 0)).symm
  intro k t rk rt ⟨k0, k1, k2⟩
  subst k2
  have e2 : (sA (sS s 2 (s.1 2 - 1)) 0 (cpP (s.2 1) (s.2 0) ((s.1 2 - 1) * 370) k)).1 2 = s.1 2 - 1 := (sS_at : (sS s 2 (s.1 2 - 1)).1 2 = s.1 2 - 1)
  have e1 : (sA (sS s 2 (s.1 2 - 1)) 0 (cpP (s.2 1) (s.2 0) ((s.1 2 - 1) * 370) k)).2 1 = s.2 1 := sA_ne (by decide)
  dsimp only
  rw [e2, e1, sA_at]
  refine ⟨fun c2 => ⟨by unfold rg; omega, by unfold rg; omega, by omega, by omega, by unfold rg; omega, ⟨by omega, by omega, ?_⟩, by omega⟩, fun c2 => ⟨rfl, ?_⟩⟩
  · rw [sA_sA, cpP_S k0 rfl]
  · rw [show k = 370 by omega]; rfl
def wp_X7_save (s : SS)  (P : Int → SS → Prop) : Prop :=
  ∃ (I2 : Int → SS → Prop) (μ3 : Int → SS → Nat), I2 0 (sS s 4 1) ∧ ∀ (x1_1 : Int) (s0_1 : SS), rg x1_1 → RG s0_1 → I2 x1_1 s0_1 → (((x1_1 < 370) → ((0 ≤ x1_1 ∧ x1_1 < 370) ∧ (rg (x1_1 + 1) ∧ (I2 (x1_1 + 1) (sA s0_1 3 (uZ (s0_1.2 3) x1_1 ((s0_1.2 0) x1_1))) ∧ μ3 (x1_1 + 1) (sA s0_1 3 (uZ (s0_1.2 3) x1_1 ((s0_1.2 0) x1_1))) < μ3 x1_1 s0_1)))) ∧ ((¬ (x1_1 < 370)) → (P ((s0_1.2 0) 3) s0_1)))
set_option maxHeartbeats 1000000 in
theorem sp_X7_save (s : SS)  (r_s : RG s)   : wp_X7_save s (fun z o0 => z = ((s.2 0) 3) ∧ o0 = (sS (sA s 3 (cpF (s.2 0) (s.2 3) 0)) 4 1)) := by
  unfold wp_X7_save
  refine ⟨fun k t => 0 ≤ k ∧ k ≤ 370 ∧ t = sA (sS s 4 1) 3 (cpP (s.2 0) (s.2 3) 0 k), fun k _ => (370 - k).toNat, ⟨by omega, by omega, ?_⟩, ?_⟩
  · rw [cpP_0]
    exact (sA_self (s := sS s 4 1) (k := 3)).symm
  intro k t rk rt ⟨k0, k1, k2⟩
  subst k2
  have e0 : (sA (sS s 4 1) 3 (cpP (s.2 0) (s.2 3) 0 k)).2 0 = s.2 0 := sA_ne (by decide)
  dsimp only
  rw [e0, sA_at]
  refine ⟨fun c2 => ⟨by omega, by unfold rg; omega, ⟨by omega, by omega, ?_⟩, by omega⟩, fun c2 => ⟨rfl, ?_⟩⟩
  · rw [sA_sA, cpP_S k0 (by rw [Int.zero_add])]
  · rw [show k = 370 by omega]; rfl
