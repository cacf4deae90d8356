def wp_X5_makeSteps (s : SS) (most : Int) (P : Int → SS → Prop) : Prop :=
  ((0 < (s.1 18)) → (∃ (I9 : Int → SS → Prop) (μ10 : Int → SS → Nat), I9 0 s ∧ ∀ (x2_8 : Int) (s0_8 : SS), rg x2_8 → RG s0_8 → I9 x2_8 s0_8 → (((x2_8 < most) → (((0 < (s0_8.1 18)) → (∃ (g62 : Int → Int), (Rep s0_8 g62) ∧ ((Vz g62) ∧ ((0 < riZ g62) ∧ ((rg (g62 7 + 2)) ∧ (∀ (u_s72 : SS), RG u_s72 → (Rep u_s72 (stp0 g62)) → (rg (x2_8 + 1) ∧ (I9 (x2_8 + 1) u_s72 ∧ μ10 (x2_8 + 1) u_s72 < μ10 x2_8 s0_8)))))))) ∧ ((¬ (0 < (s0_8.1 18))) → (∃ (g50 : Int → Int), (Rep s0_8 g50) ∧ ((Vb g50 ∧ g50 4 + 1 ≤ 900000000) ∧ (∀ (u_s56 : SS), RG u_s56 → (Rep u_s56 (if 0 < rowsAt g50 2 then becm g50 2 else g50)) → (P x2_8 u_s56))))))) ∧ ((¬ (x2_8 < most)) → (((0 < (s0_8.1 18)) → (P x2_8 s0_8)) ∧ ((¬ (0 < (s0_8.1 18))) → (∃ (g28 : Int → Int), (Rep s0_8 g28) ∧ ((Vb g28 ∧ g28 4 + 1 ≤ 900000000) ∧ (∀ (u_s34 : SS), RG u_s34 → (Rep u_s34 (if 0 < rowsAt g28 2 then becm g28 2 else g28)) → (P x2_8 u_s34)))))))))) ∧ ((¬ (0 < (s.1 18))) → (P 0 s))
set_option maxHeartbeats 1000000 in
theorem sp_X5_makeSteps (s : SS) (most : Int) (z : Int → Int) (r_s : RG s) (r_most : rg most) (p0 : Rep s z) (p1 : Vz z) (p2 : Bd z most) (p3 : 1 ≤ most ∧ most ≤ 200) : wp_X5_makeSteps s most (fun r s' => ∃ w : Nat → Int → Int, w 0 = z ∧ (∀ i : Nat, (i : Int) < r → (w i) 5 = 1 ∧ w (i + 1) = stpZ (w i)) ∧ 0 ≤ r ∧ r ≤ most ∧ (r < most → (w r.toNat) 5 = 0) ∧ Rep s' (w r.toNat)) := by
  unfold wp_X5_makeSteps
  have hb := p1.1
  have hri := Rep_ri hb p0
  have vr : z 5 = 1 ↔ 0 < riZ z := by obtain ⟨_, _, _, _, _, _, _, vr, _⟩ := p1; exact vr
  have v5 : z 5 = 0 ∨ z 5 = 1 := by obtain ⟨_, ⟨_, _, _, v5, _⟩, _⟩ := p1; exact v5
  have hB7 := p2.2.1
  refine ⟨fun c => ?_, fun c => ⟨wSq z, rfl, fun i hi => by omega, by omega, by omega, fun _ => (by
    rcases v5 with w | w
    · exact w
    · exact absurd (hri.mpr (vr.mp w)) c), p0⟩⟩
  refine ⟨StI z most, fun k _ => (most - k).toNat, ⟨by omega, fun i hi => by omega, p1, (show z 4 ≤ z 4 + 0 by omega), (show z 7 ≤ z 7 + 2 * 0 by omega), Or.inl ⟨c, p0, vr.mpr (hri.mp c)⟩⟩, ?_⟩
  intro k t rk rt hI
  have hI1 := hI.1
  have h7 := hI.2.2.2.2.1
  refine ⟨fun d => ⟨fun e => ?_, fun e => ?_⟩, fun d => ⟨fun e => ?_, fun e => ?_⟩⟩
  · obtain ⟨_, g1, g2⟩ := hI.2.2.2.2.2.resolve_right (fun w => w.1 e)
    have hv := hI.2.2.1
    have v7 : 0 ≤ (wSq z k.toNat) 7 := by obtain ⟨_, ⟨_, _, _, _, _, v7, _⟩, _⟩ := hv; exact v7
    refine ⟨_, g1, hv, (Rep_ri hv.1 g1).mp e, by unfold rg; omega, fun u ru hu => ⟨by unfold rg at *; omega, StI_step p2 hI d e hu, by dsimp only; omega⟩⟩
  · obtain ⟨_, q2, y, q3, q4, q5, q6, q7⟩ := hI.2.2.2.2.2.resolve_left (fun w => e w.1)
    refine ⟨y, q3, ⟨q4, q5⟩, fun u ru hu => ?_⟩
    rw [if_pos q6] at hu
    exact ⟨wSq z, rfl, fun i hi => ⟨hI.2.1 i hi, rfl⟩, hI.1.1, hI.1.2, fun _ => q2, by rw [q7]; exact Rep_5 hu⟩
  · obtain ⟨_, g1, g2⟩ := hI.2.2.2.2.2.resolve_right (fun w => w.1 e)
    exact ⟨wSq z, rfl, fun i hi => ⟨hI.2.1 i hi, rfl⟩, hI.1.1, hI.1.2, fun w => absurd w d, g1⟩
  · obtain ⟨_, q2, y, q3, q4, q5, q6, q7⟩ := hI.2.2.2.2.2.resolve_left (fun w => e w.1)
    refine ⟨y, q3, ⟨q4, q5⟩, fun u ru hu => ?_⟩
    rw [if_pos q6] at hu
    exact ⟨wSq z, rfl, fun i hi => ⟨hI.2.1 i hi, rfl⟩, hI.1.1, hI.1.2, fun _ => q2, by rw [q7]; exact Rep_5 hu⟩
