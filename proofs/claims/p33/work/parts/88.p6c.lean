def wp_X6_foretell (cu : SS) (fo : SS) (sv : SS) (hs : Int) (ol : Int) (tt : Int) (s0 : SS) (s1 : SS) (s2 : SS) (s3 : SS) (cs : Int → Int) (ln : Int) (kd : Int) (fk : Int) (hd : Int) (va : Int) (le : Int) (mo : Int) (size : Int) (P : Int → SS → Prop) : Prop :=
  (((cu.1 2) = 0 ∨ (cu.1 2) = 1) ∧ ((cu.1 3) = 0 ∨ (cu.1 3) = 1)) ∧ (∃ (g6 : Int → Int), (Rep cu g6) ∧ ((Vz g6) ∧ ((g6 4 + 1 + manyZ g6 1 ≤ 900000000) ∧ ((rg (g6 7 + rowsAt g6 1)) ∧ ((rg (g6 9 + 1)) ∧ ((2 ≤ size ∧ size ≤ 20) ∧ (∀ (z22 : Int) (u_s20 : SS), rg z22 → RG u_s20 → (z22 = graA g6 size ∧ Rep u_s20 (graZ g6 size)) → ((2 ≤ (u_s20.1 4) ∧ (u_s20.1 4) ≤ 20) ∧ ((0 ≤ (u_s20.1 17) ∧ (u_s20.1 17) ≤ 120) ∧ ((((u_s20.1 17) + pz (0 < (u_s20.1 6)) + pz (0 < (u_s20.1 18)) ≤ 1 ∨ 2 ≤ waysZ (u_s20.1 4)) → (∃ (g37 : Int → Int), (Rep u_s20 g37) ∧ ((Vz g37) ∧ ((Bd g37 50000) ∧ ((goC (finZ g37)) ∧ (∀ (z49 : Int) (u_s47 : SS), rg z49 → RG u_s47 → (∃ z' : Int → Int, AllZ (finZ g37) z' ∧ z49 = z' 8 - g37 8 ∧ Rep u_s47 z') → (P 1 u_s47))))))) ∧ ((¬ ((u_s20.1 17) + pz (0 < (u_s20.1 6)) + pz (0 < (u_s20.1 18)) ≤ 1 ∨ 2 ≤ waysZ (u_s20.1 4))) → (P 0 u_s20))))))))))))
set_option maxHeartbeats 1000000 in
theorem sp_X6_foretell (cu : SS) (fo : SS) (sv : SS) (hs : Int) (ol : Int) (tt : Int) (s0 : SS) (s1 : SS) (s2 : SS) (s3 : SS) (cs : Int → Int) (ln : Int) (kd : Int) (fk : Int) (hd : Int) (va : Int) (le : Int) (mo : Int) (size : Int) (m : SS) (n : Int) (r_cu : RG cu) (r_fo : RG fo) (r_sv : RG sv) (r_hs : rg hs) (r_ol : rg ol) (r_tt : rg tt) (r_s0 : RG s0) (r_s1 : RG s1) (r_s2 : RG s2) (r_s3 : RG s3) (r_cs : rgA cs) (r_ln : rg ln) (r_kd : rg kd) (r_fk : rg fk) (r_hd : rg hd) (r_va : rg va) (r_le : rg le) (r_mo : rg mo) (r_size : rg size) (p0 : Rep6 cu sv hs ol tt s0 s1 s2 s3 cs ln m n) (p1 : 0 ≤ n ∧ n ≤ 600) (p2 : 2 ≤ size ∧ size ≤ 20) : wp_X6_foretell cu fo sv hs ol tt s0 s1 s2 s3 cs ln kd fk hd va le mo size (fun r fo' => (r = 1 ∧ crZ (graZ (m.2 0) size) ∧ ∃ y, AllZ (finZ (graZ (m.2 0) size)) y ∧ Rep fo' y) ∨ (r = 0 ∧ ¬ crZ (graZ (m.2 0) size))) := by
  unfold wp_X6_foretell
  have p0' := p0
  obtain ⟨⟨hR, hI⟩, ⟨hs01, e4, hsv⟩, ⟨e2, hH⟩, ecs, eln, bln, bcs⟩ := p0'
  have hV := hI.1
  have ⟨⟨f2, f3, f4, f8, f12, f13, f14, f15, f16⟩, ⟨n6, n11, n17, n18, n5⟩, b16, b17, b18, b6⟩ := Rep_facts hV hR
  have ⟨_, ⟨v0, v1, v2, v5, v6, v7, v8, v9⟩, _⟩ := hV
  have hB := HInv_Bd hI p1.2
  obtain ⟨q1, q2, q3, q4, q5, q6⟩ := pubF hV hB.2
  obtain ⟨i4, i7, i8, i9⟩ := hB.1
  have same := Rep6_same p0
  have b01 := Rep_B01 hV hR
  have htt := hH.1
  obtain ⟨a1, a2, a3, a4, a5, a6, a7, a8, a9, a10, a11⟩ := graZ_Vz hV p2 q3
  refine ⟨b01, m.2 0, hR, hV, q3, q2, q4, p2, fun r u rr ru ⟨er, hu⟩ => ?_⟩
  have F := Rep_facts a1 hu
  have g4 := F.1.2.2.1
  have cr := cr_is a1 hu
  exact ⟨by omega, F.2.2.2.1, fun g => ⟨graZ (m.2 0) size, hu, a1, ⟨by omega, by omega, by omega, by omega⟩, finZ_goC a1 (cr.mp g), fun r2 w rr2 rw ⟨y, hA, _, hw⟩ => Or.inl ⟨rfl, cr.mp g, y, hA, hw⟩⟩, fun g => Or.inr ⟨rfl, fun q => g (cr.mpr q)⟩⟩
def wp_X6_costsWith (cu : SS) (fo : SS) (sv : SS) (hs : Int) (ol : Int) (tt : Int) (s0 : SS) (s1 : SS) (s2 : SS) (s3 : SS) (cs : Int → Int) (ln : Int) (kd : Int) (fk : Int) (hd : Int) (va : Int) (le : Int) (mo : Int) (size : Int) (P : Int → SS → Prop) : Prop :=
  ((2 ≤ size ∧ size ≤ 20) → (∃ (g8 : SS) (g9 : Int), (Rep6 cu sv hs ol tt s0 s1 s2 s3 cs ln g8 g9) ∧ ((0 ≤ g9 ∧ g9 ≤ 600) ∧ ((2 ≤ size ∧ size ≤ 20) ∧ (∀ (z19 : Int) (u_fo17 : SS), rg z19 → RG u_fo17 → ((z19 = 1 ∧ crZ (graZ (g8.2 0) size) ∧ ∃ y, AllZ (finZ (graZ (g8.2 0) size)) y ∧ Rep u_fo17 y) ∨ (z19 = 0 ∧ ¬ crZ (graZ (g8.2 0) size))) → (((z19 = 0) → (P (-3) u_fo17)) ∧ ((¬ (z19 = 0)) → (rg ((u_fo17.1 12) - (cu.1 12)) ∧ (P ((u_fo17.1 12) - (cu.1 12)) u_fo17))))))))) ∧ ((¬ (2 ≤ size ∧ size ≤ 20)) → (P (-2) fo))
set_option maxHeartbeats 1000000 in
theorem sp_X6_costsWith (cu : SS) (fo : SS) (sv : SS) (hs : Int) (ol : Int) (tt : Int) (s0 : SS) (s1 : SS) (s2 : SS) (s3 : SS) (cs : Int → Int) (ln : Int) (kd : Int) (fk : Int) (hd : Int) (va : Int) (le : Int) (mo : Int) (size : Int) (m : SS) (n : Int) (r_cu : RG cu) (r_fo : RG fo) (r_sv : RG sv) (r_hs : rg hs) (r_ol : rg ol) (r_tt : rg tt) (r_s0 : RG s0) (r_s1 : RG s1) (r_s2 : RG s2) (r_s3 : RG s3) (r_cs : rgA cs) (r_ln : rg ln) (r_kd : rg kd) (r_fk : rg fk) (r_hd : rg hd) (r_va : rg va) (r_le : rg le) (r_mo : rg mo) (r_size : rg size) (p0 : Rep6 cu sv hs ol tt s0 s1 s2 s3 cs ln m n) (p1 : 0 ≤ n ∧ n ≤ 600) : wp_X6_costsWith cu fo sv hs ol tt s0 s1 s2 s3 cs ln kd fk hd va le mo size (fun r fo' => (if 2 ≤ size ∧ size ≤ 20 then growZ (m.2 0) size 7 r else r = -2)) := by
  unfold wp_X6_costsWith
  have p0' := p0
  obtain ⟨⟨hR, hI⟩, ⟨hs01, e4, hsv⟩, ⟨e2, hH⟩, ecs, eln, bln, bcs⟩ := p0'
  have hV := hI.1
  have ⟨⟨f2, f3, f4, f8, f12, f13, f14, f15, f16⟩, ⟨n6, n11, n17, n18, n5⟩, b16, b17, b18, b6⟩ := Rep_facts hV hR
  have ⟨_, ⟨v0, v1, v2, v5, v6, v7, v8, v9⟩, _⟩ := hV
  have hB := HInv_Bd hI p1.2
  obtain ⟨q1, q2, q3, q4, q5, q6⟩ := pubF hV hB.2
  obtain ⟨i4, i7, i8, i9⟩ := hB.1
  have same := Rep6_same p0
  have b01 := Rep_B01 hV hR
  have htt := hH.1
  refine ⟨fun g => ⟨m, n, p0, p1, g, fun r u rr ru h => ⟨fun e => ?_, fun e => ?_⟩⟩, fun g => by dsimp only; rw [if_neg g]⟩
  · dsimp only
    rw [if_pos g]
    exact Or.inr ⟨(h.resolve_left (fun q => by omega)).2, rfl⟩
  · obtain ⟨_, hc, y, hA, hu⟩ := h.resolve_right (fun q => e q.1)
    obtain ⟨a1, a2, a3, a4, a5, a6, a7, a8, a9, a10, a11⟩ := graZ_Vz hV g q3
    obtain ⟨y1, y2, y3, y4, y5', y6, y7⟩ := All_upd a1 (by omega) hc hA
    have eu := hu.2.1.2.2.2.2.1
    dsimp only
    rw [if_pos g, eu, f12]
    exact ⟨by unfold rg; omega, Or.inl ⟨hc, y, hA, rfl⟩⟩
def wp_X6_mergesWith (cu : SS) (fo : SS) (sv : SS) (hs : Int) (ol : Int) (tt : Int) (s0 : SS) (s1 : SS) (s2 : SS) (s3 : SS) (cs : Int → Int) (ln : Int) (kd : Int) (fk : Int) (hd : Int) (va : Int) (le : Int) (mo : Int) (size : Int) (P : Int → SS → Prop) : Prop :=
  ((2 ≤ size ∧ size ≤ 20) → (∃ (g8 : SS) (g9 : Int), (Rep6 cu sv hs ol tt s0 s1 s2 s3 cs ln g8 g9) ∧ ((0 ≤ g9 ∧ g9 ≤ 600) ∧ ((2 ≤ size ∧ size ≤ 20) ∧ (∀ (z19 : Int) (u_fo17 : SS), rg z19 → RG u_fo17 → ((z19 = 1 ∧ crZ (graZ (g8.2 0) size) ∧ ∃ y, AllZ (finZ (graZ (g8.2 0) size)) y ∧ Rep u_fo17 y) ∨ (z19 = 0 ∧ ¬ crZ (graZ (g8.2 0) size))) → (((z19 = 0) → (P (-3) u_fo17)) ∧ ((¬ (z19 = 0)) → (rg ((u_fo17.1 13) - (cu.1 13)) ∧ (P ((u_fo17.1 13) - (cu.1 13)) u_fo17))))))))) ∧ ((¬ (2 ≤ size ∧ size ≤ 20)) → (P (-2) fo))
set_option maxHeartbeats 1000000 in
theorem sp_X6_mergesWith (cu : SS) (fo : SS) (sv : SS) (hs : Int) (ol : Int) (tt : Int) (s0 : SS) (s1 : SS) (s2 : SS) (s3 : SS) (cs : Int → Int) (ln : Int) (kd : Int) (fk : Int) (hd : Int) (va : Int) (le : Int) (mo : Int) (size : Int) (m : SS) (n : Int) (r_cu : RG cu) (r_fo : RG fo) (r_sv : RG sv) (r_hs : rg hs) (r_ol : rg ol) (r_tt : rg tt) (r_s0 : RG s0) (r_s1 : RG s1) (r_s2 : RG s2) (r_s3 : RG s3) (r_cs : rgA cs) (r_ln : rg ln) (r_kd : rg kd) (r_fk : rg fk) (r_hd : rg hd) (r_va : rg va) (r_le : rg le) (r_mo : rg mo) (r_size : rg size) (p0 : Rep6 cu sv hs ol tt s0 s1 s2 s3 cs ln m n) (p1 : 0 ≤ n ∧ n ≤ 600) : wp_X6_mergesWith cu fo sv hs ol tt s0 s1 s2 s3 cs ln kd fk hd va le mo size (fun r fo' => (if 2 ≤ size ∧ size ≤ 20 then growZ (m.2 0) size 8 r else r = -2)) := by
  unfold wp_X6_mergesWith
  have p0' := p0
  obtain ⟨⟨hR, hI⟩, ⟨hs01, e4, hsv⟩, ⟨e2, hH⟩, ecs, eln, bln, bcs⟩ := p0'
  have hV := hI.1
  have ⟨⟨f2, f3, f4, f8, f12, f13, f14, f15, f16⟩, ⟨n6, n11, n17, n18, n5⟩, b16, b17, b18, b6⟩ := Rep_facts hV hR
  have ⟨_, ⟨v0, v1, v2, v5, v6, v7, v8, v9⟩, _⟩ := hV
  have hB := HInv_Bd hI p1.2
  obtain ⟨q1, q2, q3, q4, q5, q6⟩ := pubF hV hB.2
  obtain ⟨i4, i7, i8, i9⟩ := hB.1
  have same := Rep6_same p0
  have b01 := Rep_B01 hV hR
  have htt := hH.1
  refine ⟨fun g => ⟨m, n, p0, p1, g, fun r u rr ru h => ⟨fun e => ?_, fun e => ?_⟩⟩, fun g => by dsimp only; rw [if_neg g]⟩
  · dsimp only
    rw [if_pos g]
    exact Or.inr ⟨(h.resolve_left (fun q => by omega)).2, rfl⟩
  · obtain ⟨_, hc, y, hA, hu⟩ := h.resolve_right (fun q => e q.1)
    obtain ⟨a1, a2, a3, a4, a5, a6, a7, a8, a9, a10, a11⟩ := graZ_Vz hV g q3
    obtain ⟨y1, y2, y3, y4, y5', y6, y7⟩ := All_upd a1 (by omega) hc hA
    have eu := hu.2.1.2.2.2.2.2.1
    dsimp only
    rw [if_pos g, eu, f13]
    exact ⟨by unfold rg; omega, Or.inl ⟨hc, y, hA, rfl⟩⟩
def wp_X6_bestSize (cu : SS) (fo : SS) (sv : SS) (hs : Int) (ol : Int) (tt : Int) (s0 : SS) (s1 : SS) (s2 : SS) (s3 : SS) (cs : Int → Int) (ln : Int) (kd : Int) (fk : Int) (hd : Int) (va : Int) (le : Int) (mo : Int)  (P : Int → SS → Prop) : Prop :=
  ∃ (I2 : Int → Int → Int → SS → Prop) (μ3 : Int → Int → Int → SS → Nat), I2 (-6) 0 2 fo ∧ ∀ (x1_1 : Int) (x2_1 : Int) (x3_1 : Int) (fo0_1 : SS), rg x1_1 → rg x2_1 → rg x3_1 → RG fo0_1 → I2 x1_1 x2_1 x3_1 fo0_1 → (((9 < x3_1) → (P x1_1 fo0_1)) ∧ ((¬ (9 < x3_1)) → (∃ (g14 : SS) (g15 : Int), (Rep6 cu sv hs ol tt s0 s1 s2 s3 cs ln g14 g15) ∧ ((0 ≤ g15 ∧ g15 ≤ 600) ∧ ((2 ≤ x3_1 ∧ x3_1 ≤ 20) ∧ (∀ (z25 : Int) (u_fo23 : SS), rg z25 → RG u_fo23 → ((z25 = 1 ∧ crZ (graZ (g14.2 0) x3_1) ∧ ∃ y, AllZ (finZ (graZ (g14.2 0) x3_1)) y ∧ Rep u_fo23 y) ∨ (z25 = 0 ∧ ¬ crZ (graZ (g14.2 0) x3_1))) → (((z25 = 0) → (rg (x3_1 + 1) ∧ (I2 x1_1 x2_1 (x3_1 + 1) u_fo23 ∧ μ3 x1_1 x2_1 (x3_1 + 1) u_fo23 < μ3 x1_1 x2_1 x3_1 fo0_1))) ∧ ((¬ (z25 = 0)) → (((x1_1 = (-6)) → (rg (x3_1 + 1) ∧ (I2 x3_1 (u_fo23.1 12) (x3_1 + 1) u_fo23 ∧ μ3 x3_1 (u_fo23.1 12) (x3_1 + 1) u_fo23 < μ3 x1_1 x2_1 x3_1 fo0_1))) ∧ ((¬ (x1_1 = (-6))) → ((((u_fo23.1 12) < x2_1) → (rg (x3_1 + 1) ∧ (I2 x3_1 (u_fo23.1 12) (x3_1 + 1) u_fo23 ∧ μ3 x3_1 (u_fo23.1 12) (x3_1 + 1) u_fo23 < μ3 x1_1 x2_1 x3_1 fo0_1))) ∧ ((¬ ((u_fo23.1 12) < x2_1)) → (rg (x3_1 + 1) ∧ (I2 x1_1 x2_1 (x3_1 + 1) u_fo23 ∧ μ3 x1_1 x2_1 (x3_1 + 1) u_fo23 < μ3 x1_1 x2_1 x3_1 fo0_1))))))))))))))
set_option maxHeartbeats 1000000 in
theorem sp_X6_bestSize (cu : SS) (fo : SS) (sv : SS) (hs : Int) (ol : Int) (tt : Int) (s0 : SS) (s1 : SS) (s2 : SS) (s3 : SS) (cs : Int → Int) (ln : Int) (kd : Int) (fk : Int) (hd : Int) (va : Int) (le : Int) (mo : Int)  (m : SS) (n : Int) (r_cu : RG cu) (r_fo : RG fo) (r_sv : RG sv) (r_hs : rg hs) (r_ol : rg ol) (r_tt : rg tt) (r_s0 : RG s0) (r_s1 : RG s1) (r_s2 : RG s2) (r_s3 : RG s3) (r_cs : rgA cs) (r_ln : rg ln) (r_kd : rg kd) (r_fk : rg fk) (r_hd : rg hd) (r_va : rg va) (r_le : rg le) (r_mo : rg mo)  (p0 : Rep6 cu sv hs ol tt s0 s1 s2 s3 cs ln m n) (p1 : 0 ≤ n ∧ n ≤ 600) : wp_X6_bestSize cu fo sv hs ol tt s0 s1 s2 s3 cs ln kd fk hd va le mo (fun r fo' => ∃ c : Int → Int, (∀ k, 2 ≤ k → k ≤ 20 → growZ (m.2 0) k 7 (c k)) ∧ r = bsF c 19) := by
  unfold wp_X6_bestSize
  have p0' := p0
  obtain ⟨⟨hR, hI⟩, ⟨hs01, e4, hsv⟩, ⟨e2, hH⟩, ecs, eln, bln, bcs⟩ := p0'
  have hV := hI.1
  have ⟨⟨f2, f3, f4, f8, f12, f13, f14, f15, f16⟩, ⟨n6, n11, n17, n18, n5⟩, b16, b17, b18, b6⟩ := Rep_facts hV hR
  have ⟨_, ⟨v0, v1, v2, v5, v6, v7, v8, v9⟩, _⟩ := hV
  have hB := HInv_Bd hI p1.2
  obtain ⟨q1, q2, q3, q4, q5, q6⟩ := pubF hV hB.2
  obtain ⟨i4, i7, i8, i9⟩ := hB.1
  have same := Rep6_same p0
  have b01 := Rep_B01 hV hR
  have htt := hH.1
  refine ⟨fun b l k t => (2 ≤ k ∧ k ≤ 10) ∧ ∃ c : Int → Int, (∀ j, 2 ≤ j → j < k → growZ (m.2 0) j 7 (c j)) ∧ b = bsF c (k - 2).toNat ∧ (b = -6 ∨ l = (m.2 0) 7 + c b), fun _ _ k _ => (10 - k).toNat, ⟨by omega, fun _ => 0, fun j h1 h2 => by omega, rfl, Or.inl rfl⟩, ?_⟩
  intro b l k t rb rl rk rt ⟨⟨k1, k2⟩, c, c1, c2, c3⟩
  refine ⟨fun d => ?_, fun d => ⟨m, n, p0, p1, by omega, fun r u rr ru h => ?_⟩⟩
  · obtain ⟨d', d1, d2⟩ := best_top hV hB.1 (fun j h1 h2 => c1 j h1 (by omega))
    refine ⟨d', d1, ?_⟩
    rw [c2, ← d2, show (k - 2).toNat = 8 by omega]
  have hk : rg (k + 1) := by unfold rg; omega
  have ext : ∀ v, growZ (m.2 0) k 7 v → ∀ j, 2 ≤ j → j < k + 1 → growZ (m.2 0) j 7 (uZ c k v j) := fun v hv j h1 h2 => by
    by_cases w : j = k
    · rw [w, uZ_at]; exact hv
    · rw [uZ_ne w]; exact c1 j h1 (by omega)
  have bg := bsF_rng c (k - 2).toNat
  refine ⟨fun e => ?_, fun e => ?_⟩
  · have gv : growZ (m.2 0) k 7 (-3) := Or.inr ⟨(h.resolve_left (fun q => by omega)).2, rfl⟩
    refine ⟨hk, ⟨by omega, uZ c k (-3), ext _ gv, by rw [bsF_S k1 c2, if_neg (by omega)], ?_⟩, by dsimp only; omega⟩
    rcases c3 with q | q
    · exact Or.inl q
    · by_cases w : b = -6
      · exact Or.inl w
      · exact Or.inr (by rw [uZ_ne (by omega)]; exact q)
  · obtain ⟨_, hc, y, hA, hu⟩ := h.resolve_right (fun q => e q.1)
    obtain ⟨a1, a2, a3, a4, a5, a6, a7, a8, a9, a10, a11⟩ := graZ_Vz hV (by omega : 2 ≤ k ∧ k ≤ 20) q3
    obtain ⟨y1, y2, y3, y4, y5', y6, y7⟩ := All_upd a1 (by omega) hc hA
    have eu : u.1 12 = y 7 := hu.2.1.2.2.2.2.1
    have gv : growZ (m.2 0) k 7 (y 7 - (m.2 0) 7) := Or.inl ⟨hc, y, hA, rfl⟩
    have new : (b = -6 ∨ y 7 - (m.2 0) 7 < c b) → (2 ≤ k + 1 ∧ k + 1 ≤ 10) ∧ ∃ c : Int → Int, (∀ j, 2 ≤ j → j < k + 1 → growZ (m.2 0) j 7 (c j)) ∧ k = bsF c (k + 1 - 2).toNat ∧ (k = -6 ∨ u.1 12 = (m.2 0) 7 + c k) := fun w => ⟨by omega, uZ c k (y 7 - (m.2 0) 7), ext _ gv, by rw [bsF_S k1 c2, if_pos ⟨by omega, w⟩], Or.inr (by rw [uZ_at, eu]; omega)⟩
    have old : ¬ (b = -6 ∨ y 7 - (m.2 0) 7 < c b) → (2 ≤ k + 1 ∧ k + 1 ≤ 10) ∧ ∃ c : Int → Int, (∀ j, 2 ≤ j → j < k + 1 → growZ (m.2 0) j 7 (c j)) ∧ b = bsF c (k + 1 - 2).toNat ∧ (b = -6 ∨ l = (m.2 0) 7 + c b) := fun w => ⟨by omega, uZ c k (y 7 - (m.2 0) 7), ext _ gv, by rw [bsF_S k1 c2, if_neg (fun q => w q.2)], by
      rcases c3 with q | q
      · exact absurd (Or.inl q) w
      · exact Or.inr (by rw [uZ_ne (by omega)]; exact q)⟩
    refine ⟨fun w => ⟨hk, new (Or.inl w), by dsimp only; omega⟩, fun w => ?_⟩
    have el : l = (m.2 0) 7 + c b := c3.resolve_left w
    rw [eu]
    refine ⟨fun w3 => ⟨hk, ?_, by dsimp only; omega⟩, fun w3 => ⟨hk, old (by omega), by dsimp only; omega⟩⟩
    have := new (Or.inr (by omega))
    rw [eu] at this
    exact this
