def wp_X5_writeMemory (s : SS)  (P : Int → SS → Prop) : Prop :=
  ((0 < (s.1 6)) → ((0 ≤ (s.1 6) ∧ (s.1 6) ≤ 20) ∧ ((∀ i, 0 ≤ i → i < (s.1 6) → 0 ≤ (s.2 9) i ∧ (s.2 9) i < 120) ∧ ((∀ i j, 0 ≤ i → i < j → j < (s.1 6) → (s.2 9) i ≠ (s.2 9) j) ∧ (∀ (u_s11 : SS), RG u_s11 → (∃ f : Int → Int, u_s11 = sA s 9 f ∧ (∀ i j, 0 ≤ i → i < j → j < (s.1 6) → ((s.2 0) (f i) < (s.2 0) (f j) ∨ (s.2 0) (f i) = (s.2 0) (f j) ∧ f i < f j)) ∧ (∀ i, 0 ≤ i → i < (s.1 6) → ∃ j, 0 ≤ j ∧ j < (s.1 6) ∧ f i = (s.2 9) j) ∧ ∀ i, 0 ≤ i → i < (s.1 6) → ∃ j, 0 ≤ j ∧ j < (s.1 6) ∧ (s.2 9) i = f j) → (∃ (I17 : Int → SS → Prop) (μ18 : Int → SS → Nat), I17 1 u_s11 ∧ ∀ (x1_16 : Int) (s0_16 : SS), rg x1_16 → RG s0_16 → I17 x1_16 s0_16 → (((x1_16 < (s0_16.1 6)) → (rg (x1_16 - 1) ∧ ((0 ≤ (x1_16 - 1) ∧ (x1_16 - 1) < 20) ∧ ((0 ≤ x1_16 ∧ x1_16 < 20) ∧ ((0 ≤ ((s0_16.2 9) (x1_16 - 1)) ∧ ((s0_16.2 9) (x1_16 - 1)) < 120) ∧ (rg (x1_16 + 1) ∧ (I17 (x1_16 + 1) (sA s0_16 2 (uZ (s0_16.2 2) ((s0_16.2 9) (x1_16 - 1)) ((s0_16.2 9) x1_16))) ∧ μ18 (x1_16 + 1) (sA s0_16 2 (uZ (s0_16.2 2) ((s0_16.2 9) (x1_16 - 1)) ((s0_16.2 9) x1_16))) < μ18 x1_16 s0_16))))))) ∧ ((¬ (x1_16 < (s0_16.1 6))) → (rg ((s0_16.1 12) + (s0_16.1 6)) ∧ ((0 ≤ (0 : Int) ∧ (0 : Int) < 20) ∧ ((0 ≤ (s0_16.1 17) ∧ (s0_16.1 17) < 120) ∧ ((∀ i, 0 ≤ i → i < (s0_16.1 17) → (s0_16.2 3) i < (s0_16.1 15)) ∧ ((rg ((s0_16.1 15) + 1)) ∧ (∀ (z43 : Int) (u_s41 : SS), rg z43 → RG u_s41 → (z43 = (s0_16.1 15) ∧ ∃ nu fi le : Int → Int, u_s41 = sS (sS (sA (sA (sA (sS s0_16 12 ((s0_16.1 12) + (s0_16.1 6))) 3 nu) 4 fi) 5 le) 15 ((s0_16.1 15) + 1)) 17 ((s0_16.1 17) + 1) ∧ (∀ j, 0 ≤ j → j < (s0_16.1 17) → nu j = (s0_16.2 3) j ∧ fi j = (s0_16.2 4) j ∧ le j = (s0_16.2 5) j) ∧ nu (s0_16.1 17) = (s0_16.1 15) ∧ fi (s0_16.1 17) = ((s0_16.2 9) (0 : Int)) ∧ le (s0_16.1 17) = (s0_16.1 6)) → (P z43 (sS u_s41 6 0)))))))))))))))) ∧ ((¬ (0 < (s.1 6))) → (P (-6) s))
set_option maxHeartbeats 1000000 in
theorem sp_X5_writeMemory (s : SS)  (z : Int → Int) (r_s : RG s)  (p0 : Rep s z) (p1 : Vb z ∧ z 4 + 1 ≤ 900000000) (p2 : rg (z 7 + rowsAt z 1)) : wp_X5_writeMemory s (fun r s' => r = (if rowsAt z 1 = 0 then -6 else z 4) ∧ Rep s' (wriZ z)) := by
  unfold wp_X5_writeMemory
  have hb := p1.1
  have ⟨b1, b2, b3, b4, b5⟩ := hb
  have e6 := Rep_n6 hb p0
  have hm := p0.2.2.1
  have c8 : s.1 15 = z 4 := p0.2.1.2.2.2.2.2.2.2
  have c12 : s.1 12 = z 7 := p0.2.1.2.2.2.2.1
  have hr := p0.2.2.2.1
  refine ⟨fun c => ?_, fun c => ?_⟩
  · refine ⟨hm.1, fun i g1 g2 => by obtain ⟨q1, q2, q3⟩ := hm.2.1 i g1 g2; omega, fun i j g1 g2 g3 => by have := hm.2.2.1 i j g1 g2 g3; omega, ?_⟩
    intro u ru ⟨f, e, s1, s2, s3⟩
    subst e
    refine ⟨fun k t => 1 ≤ k ∧ ∃ h : Int → Int, t = sA (sA s 9 f) 2 h ∧ (∀ j, 1 ≤ j → j < k → j < s.1 6 → h (f (j - 1)) = f j) ∧ ∀ r, 0 ≤ r → r < z 3 → z (250 + r) ≠ 1 → h r = s.2 2 r, fun k _ => (s.1 6 - k).toNat, ⟨by omega, s.2 2, rfl2 s f, fun j g1 g2 => by omega, fun r _ _ _ => rfl⟩, ?_⟩
    intro k t rk rt ⟨k1, h, e, i1, i2⟩
    subst e
    dsimp only
    have in1 : ∀ i, 0 ≤ i → i < s.1 6 → 0 ≤ f i ∧ f i < z 3 ∧ z (250 + f i) = 1 := fun i a b => by
      obtain ⟨j, q1, q2, q3⟩ := s2 i a b
      rw [q3]; exact hm.2.1 j q1 q2
    have x6 : (sA (sA s 9 f) 2 h).1 6 = s.1 6 := rfl
    have x12 : (sA (sA s 9 f) 2 h).1 12 = s.1 12 := rfl
    have x15 : (sA (sA s 9 f) 2 h).1 15 = s.1 15 := rfl
    have x17 : (sA (sA s 9 f) 2 h).1 17 = s.1 17 := rfl
    have x9 : (sA (sA s 9 f) 2 h).2 9 = f := rfl
    have x3 : (sA (sA s 9 f) 2 h).2 3 = s.2 3 := rfl
    have x4 : (sA (sA s 9 f) 2 h).2 4 = s.2 4 := rfl
    have x5 : (sA (sA s 9 f) 2 h).2 5 = s.2 5 := rfl
    rw [x6, x12, x15, x17, x9, x3, x4, x5, sA_at, sA_sA]
    have hm20 := hm.1
    refine ⟨fun ck => ?_, fun ck => ?_⟩
    · obtain ⟨q1, q2, q3⟩ := in1 (k - 1) (by omega) (by omega)
      refine ⟨by unfold rg at *; omega, by omega, by omega, by omega, by unfold rg at *; omega, ⟨by omega, _, rfl, fun j g1 g2 g3 => ?_, fun r g1 g2 g3 => ?_⟩, by omega⟩
      · by_cases w : j = k
        · rw [w, uZ_at]
        · have w2 : f (j - 1) ≠ f (k - 1) := fun w3 => by
            have := s1 (j - 1) (k - 1) (by omega) (by omega) (by omega)
            rw [w3] at this
            omega
          rw [uZ_ne w2]
          exact i1 j g1 (by omega) g3
      · rw [uZ_ne (fun w => g3 (by rw [w]; exact q3))]
        exact i2 r g1 g2 g3
    · have hc : ChL h z 1 (f 0) (s.1 6) := ChL_sorted p0 s1 s2 s3 (fun j g1 g2 => i1 j g1 (by omega) g2)
      obtain ⟨y1, y2, y3⟩ := in1 0 (by omega) c
      have hf := RLs_few hr b1 (Or.inl rfl) y1 y2 (by omega)
      have h170 := hr.1.1
      refine ⟨by rw [c12, ← e6]; exact p2, by omega, by omega, fun i g1 g2 => by have := (hr.2.1 i g1 g2).2.1; omega, by unfold rg; omega, ?_⟩
      intro r u2 rr ru2 ⟨er, nu, fi, le, e, hl, e1, e2, e3⟩
      have nz : ¬ rowsAt z 1 = 0 := by omega
      rw [e, if_neg nz]
      unfold wriZ
      rw [if_neg nz, e6]
      exact ⟨by omega, Rep_write hb p0 c hc i2 hl e1 e2 e3⟩
  · have : 0 ≤ s.1 6 := hm.1.1
    have nz : rowsAt z 1 = 0 := by omega
    unfold wriZ
    rw [if_pos nz, if_pos nz]
    exact ⟨rfl, p0⟩
def wp_X5_endCollecting (s : SS)  (P : SS → Prop) : Prop :=
  ∃ (g1 : Int → Int), (Rep s g1) ∧ ((Vb g1 ∧ g1 4 + 1 ≤ 900000000) ∧ ((rg (g1 7 + rowsAt g1 1)) ∧ (∀ (z11 : Int) (u_s9 : SS), rg z11 → RG u_s9 → (z11 = (if rowsAt g1 1 = 0 then -6 else g1 4) ∧ Rep u_s9 (wriZ g1)) → (P (sS u_s9 3 0)))))
set_option maxHeartbeats 1000000 in
theorem sp_X5_endCollecting (s : SS)  (z : Int → Int) (r_s : RG s)  (p0 : Rep s z) (p1 : Vb z ∧ z 4 + 1 ≤ 900000000) (p2 : rg (z 7 + rowsAt z 1)) : wp_X5_endCollecting s (fun s' => Rep s' (uZ (wriZ z) 2 0)) := by
  unfold wp_X5_endCollecting
  exact ⟨z, p0, p1, p2, fun r u rr ru h => Rep_noCol h.2⟩
