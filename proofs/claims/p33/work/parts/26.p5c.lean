def wp_X5_cutShort (s : SS)  (P : Int → SS → Prop) : Prop :=
  ∃ (g1 : Int → Int), (Rep s g1) ∧ ((Vb g1 ∧ g1 4 + 1 ≤ 900000000) ∧ (∀ (u_s7 : SS), RG u_s7 → (Rep u_s7 (if 0 < rowsAt g1 2 then becm g1 2 else g1)) → (∃ (I13 : Int → SS → Prop) (μ14 : Int → SS → Nat), I13 0 u_s7 ∧ ∀ (x2_12 : Int) (s0_12 : SS), rg x2_12 → RG s0_12 → I13 x2_12 s0_12 → (((x2_12 < (s0_12.1 18)) → ((0 ≤ x2_12 ∧ x2_12 < 120) ∧ ((0 ≤ (s0_12.1 17) ∧ (s0_12.1 17) < 120) ∧ ((∀ i, 0 ≤ i → i < (s0_12.1 17) → (s0_12.2 3) i < (s0_12.1 15)) ∧ ((rg ((s0_12.1 15) + 1)) ∧ (∀ (z48 : Int) (u_s46 : SS), rg z48 → RG u_s46 → (z48 = (s0_12.1 15) ∧ ∃ nu fi le : Int → Int, u_s46 = sS (sS (sA (sA (sA s0_12 3 nu) 4 fi) 5 le) 15 ((s0_12.1 15) + 1)) 17 ((s0_12.1 17) + 1) ∧ (∀ j, 0 ≤ j → j < (s0_12.1 17) → nu j = (s0_12.2 3) j ∧ fi j = (s0_12.2 4) j ∧ le j = (s0_12.2 5) j) ∧ nu (s0_12.1 17) = (s0_12.1 15) ∧ fi (s0_12.1 17) = ((s0_12.2 7) x2_12) ∧ le (s0_12.1 17) = (if 0 ≤ x2_12 ∧ x2_12 < 120 then (s0_12.2 8) x2_12 else 0)) → (rg (x2_12 + 1) ∧ (I13 (x2_12 + 1) u_s46 ∧ μ14 (x2_12 + 1) u_s46 < μ14 x2_12 s0_12)))))))) ∧ ((¬ (x2_12 < (s0_12.1 18))) → (rg ((s0_12.1 14) + 1) ∧ (rg ((s0_12.1 15) - (s.1 15)) ∧ (P ((s0_12.1 15) - (s.1 15)) (sS (sS s0_12 14 ((s0_12.1 14) + 1)) 18 0)))))))))
set_option maxHeartbeats 1000000 in
theorem sp_X5_cutShort (s : SS)  (z : Int → Int) (r_s : RG s)  (p0 : Rep s z) (p1 : Vb z ∧ z 4 + 1 + manyZ z 1 ≤ 900000000) (p2 : rg (z 9 + 1)) : wp_X5_cutShort s (fun r s' => r = pz (0 < rowsAt z 2) + manyZ z 1 ∧ Rep s' (cutZ z)) := by
  unfold wp_X5_cutShort
  have hb := p1.1
  have ⟨b1, b2, b3, b4, b5⟩ := hb
  have hm := manyZ_nn (z := z) (k := 1) b3
  have ho := pz_01 (0 < rowsAt z 2)
  have c8 : s.1 15 = z 4 := p0.2.1.2.2.2.2.2.2.2
  have e14 : s.1 14 = z 9 := p0.2.1.2.2.2.2.2.2.1
  have V : ∀ K, 0 ≤ K → K ≤ z 4 → Vb (ctF z K) ∧ z 4 + pz (0 < rowsAt z 2) + sumI (fun k => pz (0 < rowsAt z (10 + 2 * k + 1))) K.toNat ≤ z 4 + 1 + manyZ z 1 := by
    intro K h0 h1
    have h2 : sumI (fun k => pz (0 < rowsAt z (10 + 2 * k + 1))) K.toNat ≤ manyZ z 1 := sumI_mono (fun k => pz_nn _) (by omega)
    exact ⟨ctF_Vb hb h0 (by omega), by omega⟩
  refine ⟨z, p0, ⟨hb, by omega⟩, ?_⟩
  intro u ru hu
  rw [← ctF_0] at hu
  have em : u.1 18 = s.1 18 ∨ True := Or.inr trivial
  -- the inputs of u are the inputs of z
  have hi : RLs (u.2 2) (u.2 6) (u.2 7) (u.2 8) (u.1 18) (ctF z 0) 1 := hu.2.2.2.2.1
  have hpl0 : ∀ r, 0 ≤ r → r < z 3 → (11 ≤ z (250 + r) ∧ z (250 + r) % 2 = 1) → ctF z 0 (250 + r) = z (250 + r) := fun r g1 g2 g3 => by
    rw [ctF_pl g1 g2, if_neg (by omega), if_neg (by omega)]
  have e30 : ctF z 0 3 = z 3 := ctF_lo (by omega) (by omega)
  have has : ∀ i, 0 ≤ i → i < u.1 18 → 0 ≤ u.2 6 i ∧ u.2 6 i < z 4 ∧ 0 < rowsAt z (10 + 2 * u.2 6 i + 1) := fun i g1 g2 => by
    obtain ⟨a1, a2, a3, a4⟩ := hi.2.1 i g1 g2
    obtain ⟨x1, x2, x3⟩ := a4.1 0 (by omega)
    rw [e30] at x2
    have x4 : z (250 + chn (u.2 2) (u.2 7 i) 0) = 10 + 2 * u.2 6 i + 1 := by
      rw [ctF_pl x1 x2] at x3
      split at x3
      · omega
      · split at x3
        · omega
        · exact x3
    have := b5 _ x1 x2
    exact ⟨a1, by omega, rowsAt_pos.mpr ⟨_, x1, x2, x4⟩⟩
  have hno : ∀ k, 0 ≤ k → 0 < rowsAt z (10 + 2 * k + 1) → ∃ i, 0 ≤ i ∧ i < u.1 18 ∧ u.2 6 i = k := fun k g0 g => by
    obtain ⟨r, g1, g2, g3⟩ := rowsAt_pos.mp g
    have e := hpl0 r g1 g2 (by omega)
    obtain ⟨i, q1, q2, q3⟩ := hi.2.2.2 r g1 (by omega) (by omega) (by omega)
    exact ⟨i, q1, q2, by omega⟩
  have hsk : ∀ k, 0 ≤ k → k ≤ u.1 18 → ∀ K, 0 ≤ K → (∀ i, 0 ≤ i → i < k → u.2 6 i < K) → ∀ K', K ≤ K' → (k = u.1 18 ∧ K' = z 4 ∨ k < u.1 18 ∧ K' = u.2 6 k) → ctF z K' = ctF z K := fun k k0 k1 K K0 hlt K' hle hor => ctF_skip K0 hle (fun x x1 x2 => by
    have hnn := rowsAt_pos (z := z) (p := 10 + 2 * x + 1)
    by_cases c : 0 < rowsAt z (10 + 2 * x + 1)
    · obtain ⟨i, q1, q2, q3⟩ := hno x (by omega) c
      rcases Int.lt_or_le i k with q | q
      · have := hlt i q1 q; omega
      · rcases hor with ⟨w1, w2⟩ | ⟨w1, w2⟩
        · omega
        · rcases Int.lt_or_eq_of_le q with q' | q'
          · have := hi.2.2.1 k i k0 q' q2; omega
          · rw [← q'] at q3; omega
    · have := rowsAt_le (z := z) (p := 10 + 2 * x + 1) b1; omega)
  have hsort := hi.2.2.1
  have hm0 := hi.1
  refine ⟨fun k t => 0 ≤ k ∧ k ≤ u.1 18 ∧ ∃ K, 0 ≤ K ∧ K ≤ z 4 ∧ (k = u.1 18 ∧ K = z 4 ∨ k < u.1 18 ∧ K = u.2 6 k) ∧ RepI k (u.1 18) u t (ctF z K), fun k _ => (u.1 18 - k).toNat, ?_, ?_⟩
  · refine ⟨by omega, by omega, ?_⟩
    have q := RepI_0 hu
    by_cases c : (0 : Int) < u.1 18
    · obtain ⟨a1, a2, a3⟩ := has 0 (by omega) c
      refine ⟨u.2 6 0, a1, by omega, Or.inr ⟨c, rfl⟩, ?_⟩
      rw [hsk 0 (by omega) (by omega) 0 (by omega) (fun i _ _ => by omega) (u.2 6 0) a1 (Or.inr ⟨c, rfl⟩)]
      exact q
    · refine ⟨z 4, b3, Int.le_refl _, Or.inl ⟨by omega, rfl⟩, ?_⟩
      rw [hsk 0 (by omega) (by omega) 0 (by omega) (fun i _ _ => by omega) (z 4) b3 (Or.inl ⟨by omega, rfl⟩)]
      exact q
  intro k t rk rt ⟨k0, k1, K, K0, K1, hor, hR⟩
  dsimp only
  obtain ⟨hv, hs⟩ := V K K0 K1
  have f18 : t.1 18 = u.1 18 := hR.2.1
  have t15 : t.1 15 = ctF z K 4 := hR.1.2.1.2.2.2.2.2.2.2
  have t14 : t.1 14 = ctF z K 9 := hR.1.2.1.2.2.2.2.2.2.1
  rw [ctF_4] at t15
  rw [ctF_lo (by omega) (by omega)] at t14
  have hv4 := hv.2.2.1
  rw [ctF_4] at hv4
  refine ⟨fun c => ?_, fun c => ?_⟩
  · have ck : k < u.1 18 := by omega
    have hK : K = u.2 6 k := by omega
    obtain ⟨g1, g2⟩ := RepI_few hv ck hR
    refine ⟨by omega, g1, g2, by unfold rg; omega, ?_⟩
    intro r w rr rw2 ⟨_, nu, fi, le, e, hl, e1, e2, e3⟩
    rw [if_pos (by omega)] at e3
    have q := RepI_step hv ck hR hl e1 (by rw [e2, hR.2.2.2.1]) (by rw [e3, hR.2.2.2.2])
    obtain ⟨a1, a2, a3⟩ := has k k0 ck
    rw [← e, ← hK, ctF_step K0 (by rw [hK]; exact a3)] at q
    refine ⟨by unfold rg at *; omega, ⟨by omega, by omega, ?_⟩, by omega⟩
    by_cases cc : k + 1 < u.1 18
    · obtain ⟨a4, a5, a6⟩ := has (k + 1) (by omega) cc
      have := hsort k (k + 1) k0 (by omega) cc
      refine ⟨u.2 6 (k + 1), a4, by omega, Or.inr ⟨cc, rfl⟩, ?_⟩
      rw [hsk (k + 1) (by omega) (by omega) (K + 1) (by omega) (fun i i0 i1 => by
        rcases Int.lt_or_eq_of_le (show i ≤ k by omega) with y | y
        · have := hsort i k i0 y ck; omega
        · rw [y]; omega) (u.2 6 (k + 1)) (by omega) (Or.inr ⟨cc, rfl⟩)]
      exact q
    · refine ⟨z 4, b3, Int.le_refl _, Or.inl ⟨by omega, rfl⟩, ?_⟩
      rw [hsk (k + 1) (by omega) (by omega) (K + 1) (by omega) (fun i i0 i1 => by
        rcases Int.lt_or_eq_of_le (show i ≤ k by omega) with y | y
        · have := hsort i k i0 y ck; omega
        · rw [y]; omega) (z 4) (by omega) (Or.inl ⟨by omega, rfl⟩)]
      exact q
  · have hk : k = u.1 18 := by omega
    have hK : K = z 4 := by omega
    subst hk
    subst hK
    have h5 : sumI (fun k => pz (0 < rowsAt z (10 + 2 * k + 1))) (z 4).toNat = manyZ z 1 := rfl
    rw [h5] at t15
    refine ⟨by rw [t14]; exact p2, by unfold rg; omega, by omega, ?_⟩
    rw [← ctF_end hb]
    exact RepI_end hR (fun i h5 h9 => by rw [uZ_ne h9, uZ_ne h5]) (by rw [uZ_at, ctF_lo (by omega) (by omega)])
