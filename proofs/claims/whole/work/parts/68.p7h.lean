def wp_X7_read (s : SS)  (P : Int → SS → Prop) : Prop :=
  (0 ≤ (s.1 7) ∧ (s.1 7) ≤ 80) ∧ ((Bf s) ∧ (∀ (z7 : Int) (u_s5 : SS), rg z7 → RG u_s5 → (epA s u_s5 z7) → (((z7 = (-6)) → (((((u_s5.2 0) 2) = 0) → (P (-3) u_s5)) ∧ ((¬ (((u_s5.2 0) 2) = 0)) → ((0 ≤ (u_s5.1 2) ∧ (u_s5.1 2) ≤ 4) ∧ (∃ (I25 : Int → SS → Prop) (μ26 : Int → SS → Nat), I25 0 (sS (sA u_s5 1 (recP (u_s5.2 1) (u_s5.1 2) (u_s5.2 0))) 2 (recN (u_s5.1 2) + 1)) ∧ ∀ (x2_24 : Int) (s0_24 : SS), rg x2_24 → RG s0_24 → I25 x2_24 s0_24 → (((x2_24 < (s0_24.1 9)) → (∃ (I40 : Int → SS → Prop) (μ41 : Int → SS → Nat), I40 0 s0_24 ∧ ∀ (x3_39 : Int) (s0_39 : SS), rg x3_39 → RG s0_39 → I40 x3_39 s0_39 → (rg (3 * x2_24) ∧ (rg ((3 * x2_24) + 1) ∧ ((0 ≤ ((3 * x2_24) + 1) ∧ ((3 * x2_24) + 1) < 123) ∧ (((x3_39 < ((s0_39.2 8) ((3 * x2_24) + 1))) → (((((s0_39.2 0) 3) < 120) → ((0 ≤ (3 * x2_24) ∧ (3 * x2_24) < 123) ∧ (rg ((3 * x2_24) + 2) ∧ ((0 ≤ ((3 * x2_24) + 2) ∧ ((3 * x2_24) + 2) < 123) ∧ (rg (x3_39 * ((s0_39.2 8) ((3 * x2_24) + 2))) ∧ (rg (((s0_39.2 8) (3 * x2_24)) + (x3_39 * ((s0_39.2 8) ((3 * x2_24) + 2)))) ∧ ((Vb (s0_39.2 0)) ∧ ((rg ((s0_39.2 0) 7 + rowsAt (s0_39.2 0) 1)) ∧ (((s0_39.2 0) 3 < 120) ∧ ((∀ r, 0 ≤ r → r < (s0_39.2 0) 3 → 0 ≤ (s0_39.2 0) (130 + r) ∧ (s0_39.2 0) (130 + r) ≤ 120) ∧ (rg (x3_39 + 1) ∧ (I40 (x3_39 + 1) (sA s0_39 0 (addZ (s0_39.2 0) (((s0_39.2 8) (3 * x2_24)) + (x3_39 * ((s0_39.2 8) ((3 * x2_24) + 2)))))) ∧ μ41 (x3_39 + 1) (sA s0_39 0 (addZ (s0_39.2 0) (((s0_39.2 8) (3 * x2_24)) + (x3_39 * ((s0_39.2 8) ((3 * x2_24) + 2)))))) < μ41 x3_39 s0_39)))))))))))) ∧ ((¬ (((s0_39.2 0) 3) < 120)) → (rg (x2_24 + 1) ∧ (I25 (x2_24 + 1) s0_39 ∧ μ26 (x2_24 + 1) s0_39 < μ26 x2_24 s0_24))))) ∧ ((¬ (x3_39 < ((s0_39.2 8) ((3 * x2_24) + 1)))) → (rg (x2_24 + 1) ∧ (I25 (x2_24 + 1) s0_39 ∧ μ26 (x2_24 + 1) s0_39 < μ26 x2_24 s0_24))))))))) ∧ ((¬ (x2_24 < (s0_24.1 9))) → (rg (((s0_24.2 0) 3) - ((u_s5.2 0) 3)) ∧ (P (((s0_24.2 0) 3) - ((u_s5.2 0) 3)) (sS s0_24 7 0)))))))))) ∧ ((¬ (z7 = (-6))) → (P (-5) u_s5)))))
set_option maxHeartbeats 1000000 in
theorem sp_X7_read (s : SS)   (r_s : RG s)  (p0 : Vz (s.2 0)) (p1 : Bd (s.2 0) 60000) (p2 : 0 ≤ (s.1 2) ∧ (s.1 2) ≤ 4) (p3 : 0 ≤ (s.1 7) ∧ (s.1 7) ≤ 80) (p4 : Bf s) : wp_X7_read s (fun r s' => rl_read s r s') := by
  unfold wp_X7_read
  refine ⟨p3, p4, ?_⟩
  intro r u rr ru ⟨k, p, w, f, eu, er, h⟩
  subst eu
  subst er
  have same0 : sameM s (sS (sS (sS (sA s 8 f) 9 k) 10 p) 11 r) := ⟨rfl, rfl, rfl, rfl, rfl, rfl, rfl⟩
  refine ⟨fun c => ?_, fun c => Or.inl ⟨FaA_no (h.resolve_left (fun q => c q.1)).2, rfl, same0⟩⟩
  obtain ⟨_, hO, hT, hk⟩ := h.resolve_right (fun q => q.1 c)
  obtain ⟨b4, b7, b8, b9⟩ := p1
  have z2 := p0.2.1.2.2.1
  have z7 := p0.2.1.2.2.2.2.2.1
  have hcn : 0 ≤ cnA (s.2 6) (s.1 7) := sumI_nn (fun r _ => pz_nn _)
  refine ⟨fun d => Or.inr (Or.inl ⟨hO, d, rfl, same0⟩), fun d => ⟨p2, ?_⟩⟩
  have d' : ¬ s.2 0 2 = 0 := d
  have h2 : s.2 0 2 = 1 := by omega
  have hV : ∀ j, 0 ≤ j → j < k → itV (f (3 * j)) (f (3 * j + 1)) (f (3 * j + 2)) := fun j j0 j1 => rdT_V p3.1 hO hT j0 (by omega)
  have hG := rdT_grow (f := f) (z := s.2 0) (K := k) p0 h2 (by omega) hV
  have k41 : k ≤ 41 := by
    have h81 := sum_k hO p3
    omega
  refine ⟨fun j t => 0 ≤ j ∧ j ≤ k ∧ t = nxM (sS (sS (sS (sA s 8 f) 9 k) 10 p) 11 r) (rdT f (s.2 0) j.toNat), fun j _ => (k - j).toNat, ⟨by omega, by omega, (sA_self (s := recM (sS (sS (sS (sA s 8 f) 9 k) 10 p) 11 r)) (k := 0)).symm⟩, ?_⟩
  intro j t rj rt ⟨j0, j1, et⟩
  subst et
  have g := hG j.toNat (by omega)
  obtain ⟨a1, a2, a3, a4, a5, a6, a7, a8, a9⟩ := g
  have y3 := a1.1.2.1
  have z3 := p0.1.1
  refine ⟨fun e => ?_, fun e => ?_⟩
  · have e' : j < k := e
    have v := hV j j0 e'
    obtain ⟨v1, v2, v3⟩ := v
    have eT : rdT f (s.2 0) (j + 1).toNat = itmZ (rdT f (s.2 0) j.toNat) (f (3 * j)) (f (3 * j + 1)) (f (3 * j + 2)) := by
      rw [show (j + 1).toNat = j.toNat + 1 by omega, rdT, show ((j.toNat : Nat) : Int) = j by omega]
    refine ⟨fun i t => 0 ≤ i ∧ i ≤ f (3 * j + 1) ∧ i ≤ 120 - (rdT f (s.2 0) j.toNat) 3 ∧ t = nxM (sS (sS (sS (sA s 8 f) 9 k) 10 p) 11 r) (rdI (rdT f (s.2 0) j.toNat) (f (3 * j)) (f (3 * j + 2)) i.toNat), fun i _ => (1000 - i).toNat, ⟨by omega, by omega, by omega, rfl⟩, ?_⟩
    intro i t ri rt ⟨i0, i1, i2, et⟩
    subst et
    obtain ⟨q, q3⟩ := rdI_inv a1 a2 (hV j j0 e') (by omega) i.toNat (by omega) (by omega)
    obtain ⟨c1, c2, c3, c4, c5, c6, c7, c8, c9⟩ := q
    have f8 : (nxM (sS (sS (sS (sA s 8 f) 9 k) 10 p) 11 r) (rdI (rdT f (s.2 0) j.toNat) (f (3 * j)) (f (3 * j + 2)) i.toNat)).2 8 = f := rfl
    have f0 : (nxM (sS (sS (sS (sA s 8 f) 9 k) 10 p) 11 r) (rdI (rdT f (s.2 0) j.toNat) (f (3 * j)) (f (3 * j + 2)) i.toNat)).2 0 = rdI (rdT f (s.2 0) j.toNat) (f (3 * j)) (f (3 * j + 2)) i.toNat := rfl
    rw [f8, f0]
    have nxt : i = f (3 * j + 1) ∨ i = 120 - (rdT f (s.2 0) j.toNat) 3 → 0 ≤ j + 1 ∧ j + 1 ≤ k ∧ nxM (sS (sS (sS (sA s 8 f) 9 k) 10 p) 11 r) (rdI (rdT f (s.2 0) j.toNat) (f (3 * j)) (f (3 * j + 2)) i.toNat) = nxM (sS (sS (sS (sA s 8 f) 9 k) 10 p) 11 r) (rdT f (s.2 0) (j + 1).toNat) := fun w => ⟨by omega, by omega, by
      rw [eT]
      unfold itmZ
      rw [show min (f (3 * j + 1)) (120 - (rdT f (s.2 0) j.toNat) 3) = i by omega]⟩
    refine ⟨by unfold rg; omega, by unfold rg; omega, by omega, fun x => ⟨fun y => ?_, fun y => ⟨by unfold rg; omega, nxt (by omega), by dsimp only; omega⟩⟩, fun x => ⟨by unfold rg; omega, nxt (by omega), by dsimp only; omega⟩⟩
    obtain ⟨w1, w2, w3, w4⟩ := itV_key (hV j j0 e') i0 x
    have hra := rowsAt_le (z := rdI (rdT f (s.2 0) j.toNat) (f (3 * j)) (f (3 * j + 2)) i.toNat) (p := 1) c1.1.1
    have c77 := c1.2.1.2.2.2.2.2.1
    refine ⟨by omega, by unfold rg; omega, by omega, by unfold rg; omega, by unfold rg; omega, c1.1, by unfold rg; omega, y, c1.cnt, by unfold rg; omega, ⟨by omega, by omega, by omega, ?_⟩, by dsimp only; omega⟩
    rw [show (i + 1).toNat = i.toNat + 1 by omega, rdI, show ((i.toNat : Nat) : Int) = i by omega]
    exact sA_sA
  · have e' : ¬ j < k := e
    have ej : j.toNat = (cnA (s.2 6) (s.1 7) + 1).toNat := by omega
    have eZ := rdT_Z (z := s.2 0) p3.1 hT
    rw [ej, eZ] at a1 a2 a3 a4 a5 a6 a7 a8 a9 y3
    rw [ej, eZ]
    refine ⟨?_, Or.inr (Or.inr ⟨hO, d', rfl, ⟨rfl, rfl, rfl, rfl, rfl, rfl, rfl⟩⟩)⟩
    show rg (rdZ (s.2 6) (s.2 0) (s.1 7) 3 - (s.2 0) 3)
    unfold rg
    omega
