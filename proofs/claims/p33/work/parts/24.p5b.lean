def wp_X5_closeOutput (s : SS)  (P : SS → Prop) : Prop :=
  ((0 < (s.1 11)) → ((0 ≤ (s.1 17) ∧ (s.1 17) < 120) ∧ ((∀ i, 0 ≤ i → i < (s.1 17) → (s.2 3) i < (s.1 15)) ∧ ((rg ((s.1 15) + 1)) ∧ (∀ (z14 : Int) (u_s12 : SS), rg z14 → RG u_s12 → (z14 = (s.1 15) ∧ ∃ nu fi le : Int → Int, u_s12 = sS (sS (sA (sA (sA s 3 nu) 4 fi) 5 le) 15 ((s.1 15) + 1)) 17 ((s.1 17) + 1) ∧ (∀ j, 0 ≤ j → j < (s.1 17) → nu j = (s.2 3) j ∧ fi j = (s.2 4) j ∧ le j = (s.2 5) j) ∧ nu (s.1 17) = (s.1 15) ∧ fi (s.1 17) = (s.1 9) ∧ le (s.1 17) = (s.1 11)) → (P (sS u_s12 11 0))))))) ∧ ((¬ (0 < (s.1 11))) → (P (sS s 11 0)))
set_option maxHeartbeats 1000000 in
theorem sp_X5_closeOutput (s : SS)  (z : Int → Int) (r_s : RG s)  (p0 : Rep s z) (p1 : Vb z ∧ z 4 + 1 ≤ 900000000) : wp_X5_closeOutput s (fun s' => Rep s' (if 0 < rowsAt z 2 then becm z 2 else z)) := by
  unfold wp_X5_closeOutput
  have e11 := Rep_n11 p1.1 p0
  refine ⟨fun c => ?_, fun c => ?_⟩
  · obtain ⟨g1, g2⟩ := RLs_few2 p1.1 p0 c
    have c8 : s.1 15 = z 4 := p0.2.1.2.2.2.2.2.2.2
    have := p1.1.2.2.1
    refine ⟨g1, g2, by unfold rg; omega, ?_⟩
    intro r u rr ru ⟨_, nu, fi, le, e, hl, e1, e2, e3⟩
    rw [if_pos (by omega), e]
    exact Rep_close p1.1 p0 c hl e1 e2 e3
  · have : 0 ≤ s.1 11 := p0.2.2.2.2.2.1
    rw [if_neg (by omega), sS_same (by omega)]
    exact p0
