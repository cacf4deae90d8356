def wp_X7_readItem (s : SS)  (P : SS → Prop) : Prop :=
  rg (3 * (s.1 9)) ∧ ((0 ≤ (s.1 7) ∧ (s.1 7) ≤ 80) ∧ ((Bf s) ∧ (((s.1 11) = -6) ∧ ((0 ≤ (s.1 10) ∧ (s.1 10) ≤ (s.1 7)) ∧ ((StA (s.2 6) (s.1 10) (0, 0, 0, 0)) ∧ (∀ (z15 : Int) (u_s13 : SS), rg z15 → RG u_s13 → (psA s u_s13 0 0 z15 0 999) → ((0 ≤ (3 * (s.1 9)) ∧ (3 * (s.1 9)) < 123) ∧ (rg ((3 * (s.1 9)) + 1) ∧ ((0 ≤ ((3 * (s.1 9)) + 1) ∧ ((3 * (s.1 9)) + 1) < 123) ∧ (rg ((3 * (s.1 9)) + 2) ∧ ((0 ≤ ((3 * (s.1 9)) + 2) ∧ ((3 * (s.1 9)) + 2) < 123) ∧ ((((u_s13.1 11) = (-6)) → ((0 ≤ (u_s13.1 7) ∧ (u_s13.1 7) ≤ 80) ∧ ((0 ≤ (u_s13.1 10)) ∧ ((((letZ (sA u_s13 8 (uZ (uZ (uZ (u_s13.2 8) (3 * (s.1 9)) z15) ((3 * (s.1 9)) + 1) 1) ((3 * (s.1 9)) + 2) 0))) = 120) → (rg ((u_s13.1 10) + 1) ∧ (∃ (g137 : Int), (Bf (sS (sA u_s13 8 (uZ (uZ (uZ (u_s13.2 8) (3 * (s.1 9)) z15) ((3 * (s.1 9)) + 1) 1) ((3 * (s.1 9)) + 2) 0)) 10 ((u_s13.1 10) + 1))) ∧ (((u_s13.1 11) = -6) ∧ ((0 ≤ ((u_s13.1 10) + 1) ∧ ((u_s13.1 10) + 1) ≤ (u_s13.1 7)) ∧ ((StA (u_s13.2 6) ((u_s13.1 10) + 1) (1, g137, 0, 0)) ∧ (∀ (z149 : Int) (u_s147 : SS), rg z149 → RG u_s147 → (psA (sS (sA u_s13 8 (uZ (uZ (uZ (u_s13.2 8) (3 * (s.1 9)) z15) ((3 * (s.1 9)) + 1) 1) ((3 * (s.1 9)) + 2) 0)) 10 ((u_s13.1 10) + 1)) u_s147 1 g137 z149 2 20) → (rg ((u_s147.1 9) + 1) ∧ (P (sS (sA u_s147 8 (uZ (u_s147.2 8) ((3 * (s.1 9)) + 1) z149)) 9 ((u_s147.1 9) + 1))))))))))) ∧ ((¬ ((letZ (sA u_s13 8 (uZ (uZ (uZ (u_s13.2 8) (3 * (s.1 9)) z15) ((3 * (s.1 9)) + 1) 1) ((3 * (s.1 9)) + 2) 0))) = 120)) → ((((letZ (sA u_s13 8 (uZ (uZ (uZ (u_s13.2 8) (3 * (s.1 9)) z15) ((3 * (s.1 9)) + 1) 1) ((3 * (s.1 9)) + 2) 0))) = 45) → (((z15 < 999) → ((0 ≤ (u_s13.1 10) ∧ (u_s13.1 10) ≤ 80) ∧ (((u_s13.1 11) = -6) ∧ ((((-6) = (-6)) → ((Bf (sS (sS (sA u_s13 8 (uZ (uZ (uZ (u_s13.2 8) (3 * (s.1 9)) z15) ((3 * (s.1 9)) + 1) 1) ((3 * (s.1 9)) + 2) 0)) 10 ((u_s13.1 10) + 1)) 11 (-6))) ∧ (((-6) = -6) ∧ ((0 ≤ ((u_s13.1 10) + 1) ∧ ((u_s13.1 10) + 1) ≤ (u_s13.1 7)) ∧ ((0 ≤ z15 ∧ z15 < 999) ∧ ((StA (u_s13.2 6) ((u_s13.1 10) + 1) (2, z15, 0, 0)) ∧ (∀ (z124 : Int) (u_s122 : SS), rg z124 → RG u_s122 → (psA (sS (sS (sA u_s13 8 (uZ (uZ (uZ (u_s13.2 8) (3 * (s.1 9)) z15) ((3 * (s.1 9)) + 1) 1) ((3 * (s.1 9)) + 2) 0)) 10 ((u_s13.1 10) + 1)) 11 (-6)) u_s122 2 z15 z124 (z15 + 1) 999) → (rg (z124 - z15) ∧ (rg ((z124 - z15) + 1) ∧ (rg ((u_s122.1 9) + 1) ∧ (P (sS (sA u_s122 8 (uZ (uZ (u_s122.2 8) ((3 * (s.1 9)) + 1) ((z124 - z15) + 1)) ((3 * (s.1 9)) + 2) 1)) 9 ((u_s122.1 9) + 1))))))))))))) ∧ ((¬ ((-6) = (-6))) → (rg ((u_s13.1 9) + 1) ∧ (P (sS (sS (sS (sA u_s13 8 (uZ (uZ (uZ (u_s13.2 8) (3 * (s.1 9)) z15) ((3 * (s.1 9)) + 1) 1) ((3 * (s.1 9)) + 2) 0)) 9 ((u_s13.1 9) + 1)) 10 ((u_s13.1 10) + 1)) 11 (-6))))))))) ∧ ((¬ (z15 < 999)) → ((0 ≤ (u_s13.1 10) ∧ (u_s13.1 10) ≤ 80) ∧ (((u_s13.1 11) = -6) ∧ ((((u_s13.1 10) = (-6)) → ((Bf (sS (sS (sA u_s13 8 (uZ (uZ (uZ (u_s13.2 8) (3 * (s.1 9)) z15) ((3 * (s.1 9)) + 1) 1) ((3 * (s.1 9)) + 2) 0)) 10 ((u_s13.1 10) + 1)) 11 (u_s13.1 10))) ∧ (((u_s13.1 10) = -6) ∧ ((0 ≤ ((u_s13.1 10) + 1) ∧ ((u_s13.1 10) + 1) ≤ (u_s13.1 7)) ∧ ((0 ≤ z15 ∧ z15 < 999) ∧ ((StA (u_s13.2 6) ((u_s13.1 10) + 1) (2, z15, 0, 0)) ∧ (∀ (z87 : Int) (u_s85 : SS), rg z87 → RG u_s85 → (psA (sS (sS (sA u_s13 8 (uZ (uZ (uZ (u_s13.2 8) (3 * (s.1 9)) z15) ((3 * (s.1 9)) + 1) 1) ((3 * (s.1 9)) + 2) 0)) 10 ((u_s13.1 10) + 1)) 11 (u_s13.1 10)) u_s85 2 z15 z87 (z15 + 1) 999) → (rg (z87 - z15) ∧ (rg ((z87 - z15) + 1) ∧ (rg ((u_s85.1 9) + 1) ∧ (P (sS (sA u_s85 8 (uZ (uZ (u_s85.2 8) ((3 * (s.1 9)) + 1) ((z87 - z15) + 1)) ((3 * (s.1 9)) + 2) 1)) 9 ((u_s85.1 9) + 1))))))))))))) ∧ ((¬ ((u_s13.1 10) = (-6))) → (rg ((u_s13.1 9) + 1) ∧ (P (sS (sS (sS (sA u_s13 8 (uZ (uZ (uZ (u_s13.2 8) (3 * (s.1 9)) z15) ((3 * (s.1 9)) + 1) 1) ((3 * (s.1 9)) + 2) 0)) 9 ((u_s13.1 9) + 1)) 10 ((u_s13.1 10) + 1)) 11 (u_s13.1 10))))))))))) ∧ ((¬ ((letZ (sA u_s13 8 (uZ (uZ (uZ (u_s13.2 8) (3 * (s.1 9)) z15) ((3 * (s.1 9)) + 1) 1) ((3 * (s.1 9)) + 2) 0))) = 45)) → (rg ((u_s13.1 9) + 1) ∧ (P (sS (sA u_s13 8 (uZ (uZ (uZ (u_s13.2 8) (3 * (s.1 9)) z15) ((3 * (s.1 9)) + 1) 1) ((3 * (s.1 9)) + 2) 0)) 9 ((u_s13.1 9) + 1))))))))))) ∧ ((¬ ((u_s13.1 11) = (-6))) → (rg ((u_s13.1 9) + 1) ∧ (P (sS (sA u_s13 8 (uZ (uZ (uZ (u_s13.2 8) (3 * (s.1 9)) z15) ((3 * (s.1 9)) + 1) 1) ((3 * (s.1 9)) + 2) 0)) 9 ((u_s13.1 9) + 1)))))))))))))))))
set_option maxHeartbeats 1000000 in
theorem sp_X7_readItem (s : SS)   (r_s : RG s)  (p0 : 0 ≤ (s.1 7) ∧ (s.1 7) ≤ 80) (p1 : Bf s) (p2 : (s.1 11) = -6) (p3 : 0 ≤ (s.1 10) ∧ (s.1 10) ≤ (s.1 7)) (p4 : StA (s.2 6) (s.1 10) (0, 0, 0, 0)) (p5 : 0 ≤ (s.1 9) ∧ 2 * (s.1 9) ≤ (s.1 10)) : wp_X7_readItem s (fun s' => rdA s s') := by
  unfold wp_X7_readItem
  refine ⟨by unfold rg; omega, p0, p1, p2, p3, p4, ?_⟩
  intro r u rr ru ⟨p, w, eu, hk⟩
  subst eu
  have kp : ∀ (x y v : Int), x = 3 * s.1 9 + 1 → ∀ i, i < 3 * s.1 9 → uZ (uZ (uZ (s.2 8) (3 * s.1 9) r) (3 * s.1 9 + 1) 1) (3 * s.1 9 + 2) 0 i = s.2 8 i := fun x y v _ i hi => by rw [uZ_ne (by omega), uZ_ne (by omega), uZ_ne (by omega)]
  have kp := kp _ 0 0 rfl
  refine ⟨by omega, by unfold rg; omega, by omega, by unfold rg; omega, by omega, fun c => ?_, fun c => ?_⟩
  · have hw : w = -6 := c
    obtain ⟨_, h1, h2, h3, h4, h5, h6⟩ := hk.resolve_right (fun q => q.1 hw)
    have wh0 : whQ 0 0 1 r := ⟨rfl, by rw [mxQ_0]; omega, by rw [mnQ_0]; omega⟩
    refine ⟨p0, by show 0 ≤ p; omega, fun d => ?_, fun d => ⟨fun d2 => ⟨fun g => ⟨by show 0 ≤ p ∧ p ≤ 80; omega, hw, fun _ => ?_, fun q => absurd rfl q⟩, fun g => ⟨by show 0 ≤ p ∧ p ≤ 80; omega, hw, fun q => ?_, fun q => ⟨by show rg (s.1 9 + 1); unfold rg; omega, ?_⟩⟩⟩, fun d2 => ⟨by show rg (s.1 9 + 1); unfold rg; omega, ?_⟩⟩⟩
    · have d' : (if p < s.1 7 then s.2 6 p else -6) = 120 := d
      have dp : p < s.1 7 := by by_cases q : p < s.1 7; exact q; rw [if_neg q] at d'; omega
      rw [if_pos dp] at d'
      refine ⟨by show rg (p + 1); unfold rg; omega, r, p1, hw, by show 0 ≤ p + 1 ∧ p + 1 ≤ s.1 7; omega, StA_step h4 (by show accQ 0 0 1 r (s.2 6 p); rw [d']; exact (acc_non (by omega)).mpr ⟨wh0, Or.inr ⟨rfl, Or.inl rfl⟩⟩) (by show nxQ 0 0 r (s.2 6 p) = (1, r, 0, 0); rw [d']; unfold nxQ; rw [if_neg (by omega), if_neg (by omega), if_pos rfl]), ?_⟩
      intro r2 v rr2 rv ⟨q, w2, ev, hn⟩
      subst ev
      refine ⟨by show rg (s.1 9 + 1); unfold rg; omega, q, w2, uZ (uZ (uZ (uZ (s.2 8) (3 * s.1 9) r) (3 * s.1 9 + 1) 1) (3 * s.1 9 + 2) 0) (3 * s.1 9 + 1) r2, (SS_ext3 rfl rfl rfl rfl (fun j a b c => by simp only [sS, sA, if_neg a, if_neg b, if_neg c]) (fun j a => by simp only [sS, sA, if_neg a])), fun i hi => by rw [uZ_ne (by omega)]; exact kp i hi, ?_⟩
      rcases hn with ⟨n1, n2, n3, n4, n5, n6, n7⟩ | n
      · have n2' : p + 1 < q := n2
        have wh1 : whQ 1 r 1 r2 := ⟨rfl, by rw [mxQ_1]; omega, by rw [mnQ_1]; omega⟩
        refine Or.inl ⟨n1, by omega, n3, ⟨(1, r, 1, r2), n5, wh1, ⟨by rw [uZ_ne (by omega), uZ_ne (by omega), uZ_ne (by omega), uZ_at]; rfl, by rw [uZ_at]; rfl, by rw [uZ_ne (by omega), uZ_at]; rfl⟩, fun a b => fun e => ?_⟩, ?_⟩
        · by_cases y : 48 ≤ s.2 6 q ∧ s.2 6 q ≤ 57
          · exact n6 a y e
          · have e2 := ((acc_non y).mp e).2
            rcases e2 with e2 | ⟨e2, _⟩
            · exact b e2
            · exact absurd e2 (by show ¬ (1 : Int) = 0; omega)
        · have n7' : cnA (s.2 6) q = cnA (s.2 6) (p + 1) := n7
          rw [n7', cnA_S (by omega) (by omega), h6]
      · exact Or.inr ⟨n.1, n.2.1, n.2.2.1⟩
    · have d' : (if p < s.1 7 then s.2 6 p else -6) = 45 := d2
      have dp : p < s.1 7 := by by_cases q : p < s.1 7; exact q; rw [if_neg q] at d'; omega
      rw [if_pos dp] at d'
      refine ⟨p1, rfl, by show 0 ≤ p + 1 ∧ p + 1 ≤ s.1 7; omega, by omega, StA_step h4 (by show accQ 0 0 1 r (s.2 6 p); rw [d']; exact (acc_non (by omega)).mpr ⟨wh0, Or.inr ⟨rfl, Or.inr ⟨rfl, g⟩⟩⟩) (by show nxQ 0 0 r (s.2 6 p) = (2, r, 0, 0); rw [d']; unfold nxQ; rw [if_neg (by omega), if_neg (by omega), if_neg (by omega)]), ?_⟩
      intro r2 v rr2 rv ⟨q, w2, ev, hn⟩
      subst ev
      have rb : -6 ≤ r2 ∧ r2 ≤ 1000 := by
        rcases hn with ⟨n1, n2, n3, n4, n5, n6, n7⟩ | ⟨n1, n2, n3, n4⟩
        · omega
        · exact n4
      refine ⟨by unfold rg; omega, by unfold rg; omega, by show rg (s.1 9 + 1); unfold rg; omega, q, w2, uZ (uZ (uZ (uZ (uZ (s.2 8) (3 * s.1 9) r) (3 * s.1 9 + 1) 1) (3 * s.1 9 + 2) 0) (3 * s.1 9 + 1) (r2 - r + 1)) (3 * s.1 9 + 2) 1, (SS_ext3 rfl rfl rfl rfl (fun j a b c => by simp only [sS, sA, if_neg a, if_neg b, if_neg c]) (fun j a => by simp only [sS, sA, if_neg a])), fun i hi => by rw [uZ_ne (by omega), uZ_ne (by omega)]; exact kp i hi, ?_⟩
      rcases hn with ⟨n1, n2, n3, n4, n5, n6, n7⟩ | ⟨n1, n2, n3, n4⟩
      · have n2' : p + 1 < q := n2
        have wh1 : whQ 2 r 1 r2 := ⟨rfl, by rw [mxQ_2]; omega, by rw [mnQ_2]; omega⟩
        refine Or.inl ⟨n1, by omega, n3, ⟨(2, r, 1, r2), n5, wh1, ⟨by rw [uZ_ne (by omega), uZ_ne (by omega), uZ_ne (by omega), uZ_ne (by omega), uZ_at]; rfl, by rw [uZ_ne (by omega), uZ_at]; rfl, by rw [uZ_at]; rfl⟩, fun a b => fun e => ?_⟩, ?_⟩
        · by_cases y : 48 ≤ s.2 6 q ∧ s.2 6 q ≤ 57
          · exact n6 a y e
          · have e2 := ((acc_non y).mp e).2
            rcases e2 with e2 | ⟨e2, _⟩
            · exact b e2
            · exact absurd e2 (by show ¬ (2 : Int) = 0; omega)
        · have n7' : cnA (s.2 6) q = cnA (s.2 6) (p + 1) := n7
          rw [n7', cnA_S (by omega) (by omega), h6]
      · exact Or.inr ⟨n1, n2, n3⟩
    · have q' : p = -6 := q
      omega
    · have d' : (if p < s.1 7 then s.2 6 p else -6) = 45 := d2
      have dp : p < s.1 7 := by by_cases q : p < s.1 7; exact q; rw [if_neg q] at d'; omega
      rw [if_pos dp] at d'
      refine ⟨p + 1, p, uZ (uZ (uZ (s.2 8) (3 * s.1 9) r) (3 * s.1 9 + 1) 1) (3 * s.1 9 + 2) 0, (SS_ext3 rfl rfl rfl rfl (fun j a b c => by simp only [sS, sA, if_neg a, if_neg b, if_neg c]) (fun j a => by simp only [sS, sA, if_neg a])), kp, Or.inr ⟨by omega, ⟨by omega, h2, _, h4, Or.inl ⟨dp, fun e => ?_⟩⟩, by omega⟩⟩
      have e' : accQ 0 0 1 r (s.2 6 p) := e
      rw [d'] at e'
      have e2 := ((acc_non (by omega)).mp e').2
      rcases e2 with e2 | ⟨_, e2 | e2⟩
      · omega
      · omega
      · omega
    · refine ⟨p, w, uZ (uZ (uZ (s.2 8) (3 * s.1 9) r) (3 * s.1 9 + 1) 1) (3 * s.1 9 + 2) 0, (SS_ext3 rfl rfl rfl rfl (fun j a b c => by simp only [sS, sA, if_neg a, if_neg b, if_neg c]) (fun j a => by simp only [sS, sA, if_neg a])), kp, Or.inl ⟨hw, h1, h2, ⟨(0, 0, 1, r), h4, wh0, ⟨by rw [uZ_ne (by omega), uZ_ne (by omega), uZ_at]; rfl, by rw [uZ_ne (by omega), uZ_at]; rfl, by rw [uZ_at]; rfl⟩, fun a b => fun e => ?_⟩, h6⟩⟩
      by_cases y : 48 ≤ s.2 6 p ∧ s.2 6 p ≤ 57
      · exact h5 a y e
      · have e2 := ((acc_non y).mp e).2
        have d' : ¬ (if p < s.1 7 then s.2 6 p else -6) = 120 := d
        have d2' : ¬ (if p < s.1 7 then s.2 6 p else -6) = 45 := d2
        rw [if_pos a] at d' d2'
        rcases e2 with e2 | ⟨_, e2 | e2⟩
        · exact b e2
        · exact d' e2
        · exact d2' e2.1
  · have hw : ¬ w = -6 := c
    obtain ⟨n1, n2, n3, n4⟩ := hk.resolve_left (fun q => hw q.1)
    exact ⟨by show rg (s.1 9 + 1); unfold rg; omega, p, w, uZ (uZ (uZ (s.2 8) (3 * s.1 9) r) (3 * s.1 9 + 1) 1) (3 * s.1 9 + 2) 0, (SS_ext3 rfl rfl rfl rfl (fun j a b c => by simp only [sS, sA, if_neg a, if_neg b, if_neg c]) (fun j a => by simp only [sS, sA, if_neg a])), kp, Or.inr ⟨n1, n2, n3⟩⟩
def wp_X7_errorPosition (s : SS)  (P : Int → SS → Prop) : Prop :=
  ∃ (I2 : Int → SS → Prop) (μ3 : Int → SS → Nat), I2 1 (sS (sS (sS s 9 0) 10 0) 11 (-6)) ∧ ∀ (x1_1 : Int) (s0_1 : SS), rg x1_1 → RG s0_1 → I2 x1_1 s0_1 → (((x1_1 = 0) → (P (s0_1.1 11) s0_1)) ∧ ((¬ (x1_1 = 0)) → ((0 ≤ (s0_1.1 7) ∧ (s0_1.1 7) ≤ 80) ∧ ((Bf s0_1) ∧ (((s0_1.1 11) = -6) ∧ ((0 ≤ (s0_1.1 10) ∧ (s0_1.1 10) ≤ (s0_1.1 7)) ∧ ((StA (s0_1.2 6) (s0_1.1 10) (0, 0, 0, 0)) ∧ ((0 ≤ (s0_1.1 9) ∧ 2 * (s0_1.1 9) ≤ (s0_1.1 10)) ∧ (∀ (u_s26 : SS), RG u_s26 → (rdA s0_1 u_s26) → ((((u_s26.1 11) = (-6)) → ((((u_s26.1 10) < (u_s26.1 7)) → ((0 ≤ (u_s26.1 7) ∧ (u_s26.1 7) ≤ 80) ∧ ((0 ≤ (u_s26.1 10)) ∧ ((((letZ u_s26) = 44) → ((0 ≤ (u_s26.1 10) ∧ (u_s26.1 10) ≤ 80) ∧ (((u_s26.1 11) = -6) ∧ ((((-6) = (-6)) → (I2 1 (sS (sS u_s26 10 ((u_s26.1 10) + 1)) 11 (-6)) ∧ μ3 1 (sS (sS u_s26 10 ((u_s26.1 10) + 1)) 11 (-6)) < μ3 x1_1 s0_1)) ∧ ((¬ ((-6) = (-6))) → (I2 0 (sS (sS u_s26 10 ((u_s26.1 10) + 1)) 11 (-6)) ∧ μ3 0 (sS (sS u_s26 10 ((u_s26.1 10) + 1)) 11 (-6)) < μ3 x1_1 s0_1)))))) ∧ ((¬ ((letZ u_s26) = 44)) → ((0 ≤ (u_s26.1 10) ∧ (u_s26.1 10) ≤ 80) ∧ (((u_s26.1 11) = -6) ∧ ((((u_s26.1 10) = (-6)) → (I2 1 (sS (sS u_s26 10 ((u_s26.1 10) + 1)) 11 (u_s26.1 10)) ∧ μ3 1 (sS (sS u_s26 10 ((u_s26.1 10) + 1)) 11 (u_s26.1 10)) < μ3 x1_1 s0_1)) ∧ ((¬ ((u_s26.1 10) = (-6))) → (I2 0 (sS (sS u_s26 10 ((u_s26.1 10) + 1)) 11 (u_s26.1 10)) ∧ μ3 0 (sS (sS u_s26 10 ((u_s26.1 10) + 1)) 11 (u_s26.1 10)) < μ3 x1_1 s0_1)))))))))) ∧ ((¬ ((u_s26.1 10) < (u_s26.1 7))) → (I2 0 u_s26 ∧ μ3 0 u_s26 < μ3 x1_1 s0_1)))) ∧ ((¬ ((u_s26.1 11) = (-6))) → (I2 0 u_s26 ∧ μ3 0 u_s26 < μ3 x1_1 s0_1))))))))))))
set_option maxHeartbeats 1000000 in
theorem sp_X7_errorPosition (s : SS)   (r_s : RG s)  (p0 : 0 ≤ (s.1 7) ∧ (s.1 7) ≤ 80) (p1 : Bf s) : wp_X7_errorPosition s (fun r s' => epA s s' r) := by
  unfold wp_X7_errorPosition
  refine ⟨fun x t => (x = 0 ∨ x = 1) ∧ ∃ (k p w : Int) (f : Int → Int), t = sS (sS (sS (sA s 8 f) 9 k) 10 p) 11 w ∧ (x = 1 → w = -6 ∧ (0 ≤ p ∧ p ≤ s.1 7) ∧ StA (s.2 6) p (0, 0, 0, 0) ∧ k = cnA (s.2 6) p ∧ (0 ≤ k ∧ 2 * k ≤ p) ∧ ∀ j, 0 ≤ j → j < p → s.2 6 j = 44 → itmA f (cnA (s.2 6) j) (gA (s.2 6) j.toNat)) ∧ (x = 0 → (w = -6 ∧ OkA (s.2 6) (s.1 7) ∧ tldA (s.2 6) f (s.1 7) ∧ k = cnA (s.2 6) (s.1 7) + 1) ∨ (w ≠ -6 ∧ FaA (s.2 6) (s.1 7) w)), fun x t => if x = 0 then 0 else (s.1 7 - t.1 10).toNat + 1, ⟨Or.inr rfl, 0, 0, -6, s.2 8, by rw [sA_self], fun _ => ⟨rfl, by omega, StA_0, rfl, by omega, fun j h1 h2 => by omega⟩, fun q => by omega⟩, ?_⟩
  intro x t rx rt ⟨hx, k, p, w, f, et, h1, h0⟩
  subst et
  refine ⟨fun c => ⟨k, p, w, f, rfl, rfl, h0 c⟩, fun c => ?_⟩
  have x1 : x = 1 := by omega
  obtain ⟨hw, hp, hs, hk, hk2, hi⟩ := h1 x1
  have m1 : (if x = 0 then 0 else (s.1 7 - p).toNat + 1) = (s.1 7 - p).toNat + 1 := if_neg c
  refine ⟨p0, p1, hw, hp, hs, hk2, ?_⟩
  intro u ru ⟨q, v, g, eu, gk, hu⟩
  have eu' : u = sS (sS (sS (sA s 8 g) 9 (k + 1)) 10 q) 11 v := by rw [eu]; exact (SS_ext3 rfl rfl rfl rfl (fun j a b c => by simp only [sS, sA, if_neg a, if_neg b, if_neg c]) (fun j a => by simp only [sS, sA, if_neg a]))
  clear eu
  subst eu'
  have gk' : ∀ i, i < 3 * k → g i = f i := gk
  have z1 : ∀ t : SS, (if (0 : Int) = 0 then 0 else (s.1 7 - t.1 10).toNat + 1) = 0 := fun t => if_pos rfl
  have keep : ∀ j, 0 ≤ j → j < p → s.2 6 j = 44 → itmA g (cnA (s.2 6) j) (gA (s.2 6) j.toNat) := fun j j0 j1 j2 => by
    have := hi j j0 j1 j2
    have hm : cnA (s.2 6) j + 1 ≤ cnA (s.2 6) p := by
      rw [← cnA_C j0 j2]
      exact cnA_mono (by omega)
    unfold itmA at this ⊢
    rw [gk' _ (by omega), gk' _ (by omega), gk' _ (by omega)]
    exact this
  refine ⟨fun c2 => ?_, fun c2 => ⟨⟨Or.inl rfl, k + 1, q, v, g, rfl, fun e => by omega, fun _ => Or.inr ?_⟩, ?_⟩⟩
  · have hv : v = -6 := c2
    obtain ⟨_, a1, a2, ⟨a, a3, a4, a5, a6⟩, a7⟩ := hu.resolve_right (fun e => e.1 hv)
    have a1' : p < q := a1
    have a5' : itmA g k a := a5
    have a7' : cnA (s.2 6) q = cnA (s.2 6) p := a7
    have a3' : StA (s.2 6) q a := a3
    have ga : gA (s.2 6) q.toNat = a := a3'.2.2
    have nc : ∀ j, p ≤ j → j < q → ¬ s.2 6 j = 44 := fun j j1 j2 j3 => by
      have e1 := cnA_C (cs := s.2 6) (j := j) (by omega) j3
      have e2 := cnA_mono (cs := s.2 6) (i := j + 1) (j := q) (by omega)
      have e3 := cnA_mono (cs := s.2 6) (i := p) (j := j) j1
      omega
    have keep2 : ∀ j, 0 ≤ j → j < q → s.2 6 j = 44 → itmA g (cnA (s.2 6) j) (gA (s.2 6) j.toNat) := fun j j0 j1 j2 => by
      by_cases e : j < p
      · exact keep j j0 e j2
      · exact absurd j2 (nc j (by omega) j1)
    have last : itmA g (cnA (s.2 6) q) (gA (s.2 6) q.toNat) := by rw [ga, a7', ← hk]; exact a5'
    refine ⟨fun c3 => ⟨p0, by show 0 ≤ q; omega, fun c4 => ⟨by show 0 ≤ q ∧ q ≤ 80; have : q < s.1 7 := c3; omega, hv, fun _ => ?_, fun e => absurd rfl e⟩, fun c4 => ⟨by show 0 ≤ q ∧ q ≤ 80; have : q < s.1 7 := c3; omega, hv, fun e => ?_, fun _ => ?_⟩⟩, fun c3 => ?_⟩
    · have c3' : q < s.1 7 := c3
      have c4' : (if q < s.1 7 then s.2 6 q else -6) = 44 := c4
      rw [if_pos c3'] at c4'
      refine ⟨⟨Or.inr rfl, k + 1, q + 1, -6, g, (SS_ext3 rfl rfl rfl rfl (fun j a b c => by simp only [sS, sA, if_neg a, if_neg b, if_neg c]) (fun j a => by simp only [sS, sA, if_neg a])), fun _ => ⟨rfl, by omega, StA_step a3' ?_ ?_, ?_, by omega, fun j j0 j1 j2 => ?_⟩, fun e => by omega⟩, ?_⟩
      · show accQ _ _ _ _ _
        rw [c4']
        exact (acc_non (by omega)).mpr ⟨a4, Or.inl rfl⟩
      · show nxQ _ _ _ _ = _
        rw [c4']
        unfold nxQ
        rw [if_neg (by omega), if_pos rfl]
      · rw [cnA_C (by omega) c4', a7', hk]
      · by_cases e : j = q
        · rw [e]; exact last
        · exact keep2 j j0 (by omega) j2
      · show (if (1 : Int) = 0 then 0 else (s.1 7 - (q + 1)).toNat + 1) < (if x = 0 then 0 else (s.1 7 - p).toNat + 1)
        rw [m1, if_neg (by omega)]
        omega
    · have e' : q = -6 := e
      omega
    · have c3' : q < s.1 7 := c3
      have c4' : ¬ (if q < s.1 7 then s.2 6 q else -6) = 44 := c4
      rw [if_pos c3'] at c4'
      refine ⟨⟨Or.inl rfl, k + 1, q + 1, q, g, (SS_ext3 rfl rfl rfl rfl (fun j a b c => by simp only [sS, sA, if_neg a, if_neg b, if_neg c]) (fun j a => by simp only [sS, sA, if_neg a])), fun e => by omega, fun _ => Or.inr ⟨by omega, by omega, by omega, a, a3', Or.inl ⟨c3', a6 c3' c4'⟩⟩⟩, ?_⟩
      show (if (0 : Int) = 0 then 0 else _) < (if x = 0 then 0 else (s.1 7 - p).toNat + 1)
      rw [m1, if_pos rfl]
      omega
    · have c3' : ¬ q < s.1 7 := c3
      have a2' : q ≤ s.1 7 := a2
      have eq : q = s.1 7 := by omega
      refine ⟨⟨Or.inl rfl, k + 1, q, v, g, rfl, fun e => by omega, fun _ => Or.inl ⟨hv, ⟨a, by rw [← eq]; exact a3', a4⟩, ⟨by rw [← eq]; exact keep2, by rw [← eq]; exact last⟩, by rw [← eq, a7', hk]⟩⟩, ?_⟩
      show (if (0 : Int) = 0 then 0 else _) < (if x = 0 then 0 else (s.1 7 - p).toNat + 1)
      rw [m1, if_pos rfl]
      omega
  · have hv : ¬ v = -6 := c2
    obtain ⟨n1, n2, n3⟩ := hu.resolve_left (fun e => hv e.1)
    exact ⟨n1, n2⟩
  · show (if (0 : Int) = 0 then 0 else _) < (if x = 0 then 0 else (s.1 7 - p).toNat + 1)
    rw [m1, if_pos rfl]
    omega
