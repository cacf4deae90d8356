def wp_X5_beginMerge (s : SS)  (P : Int → SS → Prop) : Prop :=
  (2 ≤ (s.1 4) ∧ (s.1 4) ≤ 20) ∧ (∃ (I7 : Int → SS → Prop) (μ8 : Int → SS → Nat), I7 0 s ∧ ∀ (x2_6 : Int) (s0_6 : SS), rg x2_6 → RG s0_6 → I7 x2_6 s0_6 → (((x2_6 < (min (waysZ (s.1 4)) (s.1 17))) → ((1 ≤ (s0_6.1 17) ∧ (s0_6.1 17) ≤ 120) ∧ (∀ (z24 : Int), rg z24 → (0 ≤ z24 ∧ z24 < (s0_6.1 17) ∧ (∀ j, 0 ≤ j → j < (s0_6.1 17) → (s0_6.2 5) z24 ≤ (s0_6.2 5) j) ∧ ∀ j, 0 ≤ j → j < z24 → (s0_6.2 5) z24 < (s0_6.2 5) j) → ((0 ≤ z24 ∧ z24 < 120) ∧ ((0 ≤ (s0_6.1 18) ∧ (s0_6.1 18) < 120) ∧ (∀ (u_nu41 : Int → Int) (u_fi42 : Int → Int) (u_le43 : Int → Int) (u_to44 : Int), rgA u_nu41 → rgA u_fi42 → rgA u_le43 → rg u_to44 → ((u_to44 = (s0_6.1 18) + 1 ∧ ∃ q, 0 ≤ q ∧ q ≤ (s0_6.1 18) ∧ (∀ j, q ≤ j → j < (s0_6.1 18) → ((s0_6.2 3) z24) < (s0_6.2 6) j) ∧ (q = 0 ∨ (s0_6.2 6) (q - 1) ≤ ((s0_6.2 3) z24)) ∧ ∀ j, 0 ≤ j → j ≤ (s0_6.1 18) → u_nu41 j = insI (s0_6.2 6) q ((s0_6.2 3) z24) j ∧ u_fi42 j = insI (s0_6.2 7) q ((s0_6.2 4) z24) j ∧ u_le43 j = insI (s0_6.2 8) q (if 0 ≤ z24 ∧ z24 < 120 then (s0_6.2 5) z24 else 0) j)) → ((0 ≤ z24 ∧ z24 < (s0_6.1 17) ∧ (s0_6.1 17) ≤ 120) ∧ (rg (x2_6 + 1) ∧ (I7 (x2_6 + 1) (sS (sS (sA (sA (sA (sA (sA (sA s0_6 3 (cI (s0_6.2 3) (s0_6.2 3) (z24 + 1) z24 ((s0_6.1 17) - z24 - 1))) 4 (cI (s0_6.2 4) (s0_6.2 4) (z24 + 1) z24 ((s0_6.1 17) - z24 - 1))) 5 (cI (s0_6.2 5) (s0_6.2 5) (z24 + 1) z24 ((s0_6.1 17) - z24 - 1))) 6 u_nu41) 7 u_fi42) 8 u_le43) 17 ((s0_6.1 17) - 1)) 18 u_to44) ∧ μ8 (x2_6 + 1) (sS (sS (sA (sA (sA (sA (sA (sA s0_6 3 (cI (s0_6.2 3) (s0_6.2 3) (z24 + 1) z24 ((s0_6.1 17) - z24 - 1))) 4 (cI (s0_6.2 4) (s0_6.2 4) (z24 + 1) z24 ((s0_6.1 17) - z24 - 1))) 5 (cI (s0_6.2 5) (s0_6.2 5) (z24 + 1) z24 ((s0_6.1 17) - z24 - 1))) 6 u_nu41) 7 u_fi42) 8 u_le43) 17 ((s0_6.1 17) - 1)) 18 u_to44) < μ8 x2_6 s0_6))))))))) ∧ ((¬ (x2_6 < (min (waysZ (s.1 4)) (s.1 17)))) → (rg ((s0_6.1 13) + 1) ∧ (P (s0_6.1 18) (sS (sS s0_6 8 (s0_6.1 18)) 13 ((s0_6.1 13) + 1)))))))
set_option maxHeartbeats 1000000 in
theorem sp_X5_beginMerge (s : SS)  (z : Int → Int) (r_s : RG s)  (p0 : Rep s z) (p1 : Vb z) (p2 : 2 ≤ z 0 ∧ z 0 ≤ 20) (p3 : rg (z 8 + 1)) (p4 : riZ z = 0) : wp_X5_beginMerge s (fun r s' => r = begN z ∧ Rep s' (begZ z)) := by
  unfold wp_X5_beginMerge
  have hb := p1
  have ⟨b1, b2, b3, b4, b5⟩ := hb
  have ⟨_, ⟨c1, c2, c3, c4, c5, c6, c7, c8⟩, _, hd, _, _⟩ := p0
  have n17 := RLs_many hd b1 b3 (Or.inl rfl)
  have hw : waysZ (s.1 4) = waysZ (z 0) := by rw [c3]
  have hN : begN z = min (waysZ (s.1 4)) (s.1 17) := by unfold begN; rw [n17, hw]; omega
  have hbZ : Vb (uZ z 6 (begN z)) := Vb_lo hb (by omega) (by omega) (by omega)
  have mZ : manyZ (uZ z 6 (begN z)) 0 = manyZ z 0 := manyZ_lo (by omega) (by omega) (by omega)
  have i0 : s.1 18 = 0 := by
    have := Rep_ri hb p0
    have := p0.2.2.2.2.1.1
    omega
  have hwb : 1 ≤ waysZ (z 0) ∧ waysZ (z 0) ≤ 8 := by unfold waysZ; omega
  have hN1 : begN z ≤ manyZ z 0 ∧ begN z ≤ 8 ∧ 0 ≤ begN z := by unfold begN; have := manyZ_nn (z := z) (k := 0) b3; omega
  have R0 : Rep (sS s 8 (begN z)) (uZ z 6 (begN z)) := Rep_sc p0 rfl rfl rfl rfl rfl rfl rfl rfl ⟨c1, c2, c3, by rw [uZ_at]; rfl, c5, c6, c7, c8⟩ (fun i g => uZ_ne (by omega)) rfl (Int.le_refl _)
  have S0 : Sep (uZ z 6 (begN z)) := Sep_0 b1 ((riZ_cong (z := z) (z' := uZ z 6 (begN z)) rfl (fun r g1 g2 => by rw [uZ_ne (by omega)])).trans p4)
  have h120 := hd.1
  refine ⟨by rw [c3]; exact p2, ?_⟩
  rw [← hN]
  refine ⟨fun k t => 0 ≤ k ∧ k ≤ begN z ∧ Rep (sS t 8 (begN z)) (bgI (uZ z 6 (begN z)) k.toNat) ∧ Sep (bgI (uZ z 6 (begN z)) k.toNat) ∧ t.1 17 = s.1 17 - k ∧ t.1 18 = k, fun k _ => (begN z - k).toNat, ⟨by omega, by omega, R0, S0, by omega, i0⟩, ?_⟩
  intro k t rk rt ⟨k0, k1, hR, hS, h17, h18⟩
  obtain ⟨g1, g2, g3⟩ := bg_inv hbZ k.toNat (by rw [mZ]; omega)
  refine ⟨fun c => ⟨by omega, fun y ry ⟨y0, y1, ym, ym2⟩ => ⟨by omega, by omega, ?_⟩⟩, fun c => ?_⟩
  · intro nu fi le to rn rf rl rt2 ⟨e18, q, q0, q1, qa, qb, ql⟩
    have e := Rep_beg (nu := nu) (fi := fi) (le := le) (i := y) (q := q) g1 hR hS ⟨y0, y1⟩ ym ym2 (show t.1 18 + 1 ≤ 120 by omega) ⟨q0, q1⟩ qa qb (fun j j0 j1 => by
      have := ql j j0 j1
      rw [if_pos (by omega)] at this
      exact this)
    have ek : (k + 1).toNat = k.toNat + 1 := by omega
    refine ⟨by omega, by unfold rg; omega, ⟨by omega, by omega, ?_, ?_, ?_, ?_⟩, by dsimp only; omega⟩
    · rw [ek, bgI, e18, sS_cm (k := 18) (by omega), sS_cm (k := 17) (by omega)]
      exact e.1
    · rw [ek, bgI]
      exact e.2
    · show t.1 17 - 1 = s.1 17 - (k + 1)
      omega
    · show to = k + 1
      omega
  · have hk : k = begN z := by omega
    have t13 : t.1 13 = z 8 := by
      have := hR.2.1.2.2.2.2.2.1
      rw [g2 8 (by omega), uZ_ne (by omega)] at this
      exact this
    refine ⟨by rw [t13]; exact p3, by omega, ?_⟩
    have ⟨_, ⟨d1, d2, d3, d4, d5, d6, d7, d8⟩, _⟩ := hR
    rw [hk] at hR d1 d2 d3 d4 d5 d6 d7 d8
    refine Rep_sc hR rfl rfl rfl rfl rfl rfl rfl rfl ⟨d1, d2, d3, ?_, d5, ?_, d7, d8⟩ (fun i g => by unfold begZ; rw [uZ_ne (by omega), uZ_ne (by omega)]) (by unfold begZ; rw [uZ_ne (by omega), uZ_ne (by omega)]) (by unfold begZ; rw [uZ_ne (by omega), uZ_ne (by omega)]; exact Int.le_refl _)
    · have d9 : begN z = bgI (uZ z 6 (begN z)) (begN z).toNat 6 := d4
      have : begZ z 6 = bgI (uZ z 6 (begN z)) (begN z).toNat 6 := by unfold begZ; rw [uZ_ne (by omega), uZ_ne (by omega)]
      rw [this, ← d9]
      show t.1 18 = begN z
      omega
    · rw [begZ_8]
      show t.1 13 + 1 = z 8 + 1
      rw [t13]
