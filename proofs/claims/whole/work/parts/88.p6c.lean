def wp_X6_foretell (cu : SS) (fo : SS) (sv : SS) (hs : Int) (ol : Int) (tt : Int) (s0 : SS) (s1 : SS) (s2 : SS) (s3 : SS) (cs : Int → Int) (ln : Int) (kd : Int) (fk : Int) (hd : Int) (va : Int) (le : Int) (mo : Int) (size : Int) (P : Int → SS → Prop) : Prop :=
  (((cu.1 2) = 0 ∨ (cu.1 2) = 1) ∧ ((cu.1 3) = 0 ∨ (cu.1 3) = 1)) ∧ (∃ (g6 : Int → Int), (Rep cu g6) ∧ ((Vz g6) ∧ ((g6 4 + 1 + manyZ g6 1 ≤ 900000000) ∧ ((rg (g6 7 + rowsAt g6 1)) ∧ ((rg (g6 9 + 1)) ∧ ((2 ≤ size ∧ size ≤ 20) ∧ (∀ (z22 : Int) (u_s20 : SS), rg z22 → RG u_s20 → (z22 = graA g6 size ∧ Rep u_s20 (graZ g6 size)) → ((2 ≤ (u_s20.1 4) ∧ (u_s20.1 4) ≤ 20) ∧ ((0 ≤ (u_s20.1 17) ∧ (u_s20.1 17) ≤ 120) ∧ ((((u_s20.1 17) + pz (0 < (u_s20.1 6)) + pz (0 < (u_s20.1 18)) ≤ 1 ∨ 2 ≤ waysZ (u_s20.1 4)) → (∃ (g37 : Int → Int), (Rep u_s20 g37) ∧ ((Vz g37) ∧ ((Bd g37 50000) ∧ ((goC (finZ g37)) ∧ (∀ (z49 : Int) (u_s47 : SS), rg z49 → RG u_s47 → (∃ z' : Int → Int, AllZ (finZ g37) z' ∧ z49 = z' 8 - g37 8 ∧ Rep u_s47 z') → (P 1 u_s47))))))) ∧ ((¬ ((u_s20.1 17) + pz (0 < (u_s20.1 6)) + pz (0 < (u_s20.1 18)) ≤ 1 ∨ 2 ≤ waysZ (u_s20.1 4))) → (P 0 u_s20))))))))))))
set_option maxHeartbeats 1000000 in
theorem sp_X6_foretell (cu : SS) (fo : SS) (sv : SS) (hs : Int) (ol : Int) (tt : Int) (s0 : SS) (s1 : SS) (s2 : SS) (s3 : SS) (cs : Int → Int) (ln : Int) (kd : Int) (fk : Int) (hd : Int) (va : Int) (le : Int) (mo : Int) (size : Int) (m : SS) (n : Int) (r_cu : RG cu) (r_fo : RG fo) (r_sv : RG sv) (r_hs : rg hs) (r_ol : rg ol) (r_tt : rg tt) (r_s0 : RG s0) (r_s1 : RG s1) (r_s2 : RG s2) (r_s3 : RG s3) (r_cs : rgA cs) (r_ln : rg ln) (r_kd : rg kd) (r_fk : rg fk) (r_hd : rg hd) (r_va : rg va) (r_le : rg le) (r_mo : rg mo) (r_size : rg size) (p0 : Rep6 cu sv hs ol tt s0 s1 s2 s3 cs ln m n) (p1 : 0 ≤ n ∧ n ≤ 600) (p2 : 2 ≤ size ∧ size ≤ 20) : wp_X6_foretell cu fo sv hs ol tt s0 s1 s2 s3 cs ln kd fk hd va le mo size (fun r fo' => (r = 1 ∧ crZ (graZ (m.2 0) size) ∧ ∃ y, AllZ (finZ (graZ (m.2 0) size)) y ∧ Rep fo' y) ∨ (r = 0 ∧ ¬ crZ (graZ (m.2 0) size))) := by
  unfold wp_X6_foretell
  have p0' := p0
  obtain ⟨⟨hR, hI⟩, ⟨hs01, e4, hsv⟩, ⟨e2, hH⟩, ecs, eln, bln, bcs⟩ := p0'
  have hV := hI.1
  have ⟨⟨f2, f3, f4, f8, f12, f13, f14, f15, f16⟩, ⟨n6, n11, n17, n18, n5⟩, b16, b17, b18, b6⟩ := Rep_facts hV hR
  have ⟨_, ⟨v0, v1, v2, v5, v6, v7, v8, v9⟩, _⟩ := hV
  have hB := HInv_Bd hI p1.2
  obtain ⟨q1, q2, q3, q4, q5, q6⟩ := pubF hV hB.2
  obtain ⟨i4, i7, i8, i9⟩ := hB.1
  have same := Rep6_same p0
  have b01 := Rep_B01 hV hR
  have htt := hH.1
  obtain ⟨a1, a2, a3, a4, a5, a6, a7, a8, a9, a10, a11⟩ := graZ_Vz hV p2 q3
  refine ⟨b01, m.2 0, hR, hV, q3, q2, q4, p2, fun r u rr ru ⟨er, hu⟩ => ?_⟩
  have F := Rep_facts a1 hu
  have g4 := F.1.2.2.1
  have cr := cr_is a1 hu
  exact ⟨by omega, F.2.2.2.1, fun g => ⟨graZ (m.2 0) size, hu, a1, ⟨by omega, by omega, by omega, by omega⟩, finZ_goC a1 (cr.mp g), fun r2 w rr2 rw ⟨y, hA, _, hw⟩ => Or.inl ⟨rfl, cr.mp g, y, hA, hw⟩⟩, fun g => Or.inr ⟨rfl, fun q => g (cr.mpr q)⟩⟩
def wp_X6_costsWith (cu : SS) (fo : SS) (sv : SS) (hs : Int) (ol : Int) (tt : Int) (s0 : SS) (s1 : SS) (s2 : SS) (s3 : SS) (cs : Int → Int) (ln : Int) (kd : Int) (fk : Int) (hd : Int) (va : Int) (le : Int) (mo : Int) (size : Int) (P : Int → SS → Prop) : Prop :=
  ((2 ≤ size ∧ size ≤ 20) → (∃ (g8 : SS) (g9 : Int), (Rep6 cu sv hs ol tt s0 s1 s2 s3 cs ln g8 g9) ∧ ((0 ≤ g9 ∧ g9 ≤ 600) ∧ ((2 ≤ size ∧ size ≤ 20) ∧ (∀ (z19 : Int) (u_fo17 : SS), rg z19 → RG u_fo17 → ((z19 = 1 ∧ crZ (graZ (g8.2 0) size) ∧ ∃ y, AllZ (finZ (graZ (g8.2 0) size)) y ∧ Rep u_fo17 y) ∨ (z19 = 0 ∧ ¬ crZ (graZ (g8.2 0) size))) → (((z19 = 0) → (P (-3) u_fo17)) ∧ ((¬ (z19 = 0)) → (rg ((u_fo17.1 12) - (cu.1 12)) ∧ (P ((u_fo17.1 12) - (cu.1 12)) u_fo17))))))))) ∧ ((¬ (2 ≤ size ∧ size ≤ 20)) → (P (-2) fo))
set_option maxHeartbeats 1000000 in
theorem sp_X6_costsWith (cu : SS) (fo : SS) (sv : SS) (hs : Int) (ol : Int) (tt : Int) (s0 : SS) (s1 : SS) (s2 : SS) (s3 : SS) (cs : Int → Int) (ln : Int) (kd : Int) (fk : Int) (hd : Int) (va : Int) (le : Int) (mo : Int) (size : Int) (m : SS) (n : Int) (r_cu : RG cu) (r_fo : RG fo) (r_sv : RG sv) (r_hs : rg hs) (r_ol : rg ol) (r_tt : rg tt) (r_s0 : RG s0) (r_s1 : RG s1) (r_s2 : RG s2) (r_s3 : RG s3) (r_cs : rgA cs) (r_ln : rg ln) (r_kd : rg kd) (r_fk : rg fk) (r_hd : rg hd) (r_va : rg va) (r_le : rg le) (r_mo : rg mo) (r_size : rg size) (p0 : Rep6 cu sv hs ol tt s0 s1 s2 s3 cs ln m n) (p1 : 0 ≤ n ∧ n ≤ 600) : wp_X6_costsWith cu fo sv hs ol tt s0 s1 s2 s3 cs ln kd fk hd va le mo size (fun r fo' => (if 2 ≤ size ∧ size ≤ 20 then growZ (m.2 0) size 7 r else r = -2)) := by
  unfold wp_X6_costsWith
  have p0' := p0
  obtain ⟨⟨hR, hI⟩, ⟨hs01, e4, hsv⟩, ⟨e2, hH⟩, ecs, eln, bln, bcs⟩ := p0'
  have hV := hI.1
  have ⟨⟨f2, f3, f4, f8, f12, f13, f14, f15, f16⟩, ⟨n6, n11, n17, n18, n5⟩, b16, b17, b18, b6⟩ := Rep_facts hV hR
  have ⟨_, ⟨v0, v1, v2, v5, v6, v7, v8, v9⟩, _⟩ := hV
  have hB := HInv_Bd hI p1.2
  obtain ⟨q1, q2, q3, q4, q5, q6⟩ := pubF hV hB.2
  obtain ⟨i4, i7, i8, i9⟩ := hB.1
  have same := Rep6_same p0
  have b01 := Rep_B01 hV hR
  have htt := hH.1
  refine ⟨fun g => ⟨m, n, p0, p1, g, fun r u rr ru h => ⟨fun e => ?_, fun e => ?_⟩⟩, fun g => by dsimp only; rw [if_neg g]⟩
  · dsimp only
    rw [if_pos g]
    exact Or.inr ⟨(h.resolve_left (fun q => by omega)).2, rfl⟩
  · obtain ⟨_, hc, y, hA, hu⟩ := h.resolve_right (fun q => e q.1)
    obtain ⟨a1, a2, a3, a4, a5, a6, a7, a8, a9, a10, a11⟩ := graZ_Vz hV g q3
    obtain ⟨y1, y2, y3, y4, y5', y6, y7⟩ := All_upd a1 (by omega) hc hA
    have eu := hu.2.1.2.2.2.2.1
    dsimp only
    rw [if_pos g, eu, f12]
    exact ⟨by unfold rg; omega, Or.inl ⟨hc, y, hA, rfl⟩⟩
def wp_X6_mergesWith (cu : SS) (fo : SS) (sv : SS) (hs : Int) (ol : Int) (tt : Int) (s0 : SS) (s1 : SS) (s2 : SS) (s3 : SS) (cs : Int → Int) (ln : Int) (kd : Int) (fk : Int) (hd : Int) (va : Int) (le : Int) (mo : Int) (size : Int) (P : Int → SS → Prop) : Prop :=
  ((2 ≤ size ∧ size ≤ 20) → (∃ (g8 : SS) (g9 : Int), (Rep6 cu sv hs ol tt s0 s1 s2 s3 cs ln g8 g9) ∧ ((0 ≤ g9 ∧ g9 ≤ 600) ∧ ((2 ≤ size ∧ size ≤ 20) ∧ (∀ (z19 : Int) (u_fo17 : SS), rg z19 → RG u_fo17 → ((z19 = 1 ∧ crZ (graZ (g8.2 0) size) ∧ ∃ y, AllZ (finZ (graZ (g8.2 0) size)) y ∧ Rep u_fo17 y) ∨ (z19 = 0 ∧ ¬ crZ (graZ (g8.2 0) size))) → (((z19 = 0) → (P (-3) u_fo17)) ∧ ((¬ (z19 = 0)) → (rg ((u_fo17.1 13) - (cu.1 13)) ∧ (P ((u_fo17.1 13) - (cu.1 13)) u_fo17))))))))) ∧ ((¬ (2 ≤ size ∧ size ≤ 20)) → (P (-2) fo))
set_option maxHeartbeats 1000000 in
theorem sp_X6_mergesWith (cu : SS) (fo : SS) (sv : SS) (hs : Int) (ol : Int) (tt : Int) (s0 : SS) (s1 : SS) (s2 : SS) (s3 : SS) (cs : Int → Int) (ln : Int) (kd : Int) (fk : Int) (hd : Int) (va : Int) (le : Int) (mo : Int) (size : Int) (m : SS) (n : Int) (r_cu : RG cu) (r_fo : RG fo) (r_sv : RG sv) (r_hs : rg hs) (r_ol : rg ol) (r_tt : rg tt) (r_s0 : RG s0) (r_s1 : RG s1) (r_s2 : RG s2) (r_s3 : RG s3) (r_cs : rgA cs) (r_ln : rg ln) (r_kd : rg kd) (r_fk : rg fk) (r_hd : rg hd) (r_va : rg va) (r_le : rg le) (r_mo : rg mo) (r_size : rg size) (p0 : Rep6 cu sv hs ol tt s0 s1 s2 s3 cs ln m n) (p1 : 0 ≤ n ∧ n ≤ 600) : wp_X6_mergesWith cu fo sv hs ol tt s0 s1 s2 s3 cs ln kd fk hd va le mo size (fun r fo' => (if 2 ≤ size ∧ size ≤ 20 then growZ (m.2 0) size 8 r else r = -2)) := by
  unfold wp_X6_mergesWith
  have p0' := p0
  obtain ⟨⟨hR, hI⟩, ⟨hs01, e4, hsv⟩, ⟨e2, hH⟩, ecs, eln, bln, bcs⟩ := p0'
  have hV := hI.1
  have ⟨⟨f2, f3, f4, f8, f12, f13, f14, f15, f16⟩, ⟨n6, n11, n17, n18, n5⟩, b16, b17, b18, b6⟩ := Rep_facts hV hR
  have ⟨_, ⟨v0, v1, v2, v5, v6, v7, v8, v9⟩, _⟩ := hV
  have hB := HInv_Bd hI p1.2
  obtain ⟨q1, q2, q3, q4, q5, q6⟩ := pubF hV hB.2
  obtain ⟨i4, i7, i8, i9⟩ := hB.1
  have same := Rep6_same p0
  have b01 := Rep_B01 hV hR
  have htt := hH.1
  refine ⟨fun g => ⟨m, n, p0, p1, g, fun r u rr ru h => ⟨fun e => ?_, fun e => ?_⟩⟩, fun g => by dsimp only; rw [if_neg g]⟩
  · dsimp only
    rw [if_pos g]
    exact Or.inr ⟨(h.resolve_left (fun q => by omega)).2, rfl⟩
  · obtain ⟨_, hc, y, hA, hu⟩ := h.resolve_right (fun q => e q.1)
    obtain ⟨a1, a2, a3, a4, a5, a6, a7, a8, a9, a10, a11⟩ := graZ_Vz hV g q3
    obtain ⟨y1, y2, y3, y4, y5', y6, y7⟩ := All_upd a1 (by omega) hc hA
    have eu := hu.2.1.2.2.2.2.2.1
    dsimp only
    rw [if_pos g, eu, f13]
    exact ⟨by unfold rg; omega, Or.inl ⟨hc, y, hA, rfl⟩⟩
def wp_X6_bestSize (cu : SS) (fo : SS) (sv : SS) (hs : Int) (ol : Int) (tt : Int) (s0 : SS) (s1 : SS) (s2 : SS) (s3 : SS) (cs : Int → Int) (ln : Int) (kd : Int) (fk : Int) (hd : Int) (va : Int) (le : Int) (mo : Int)  (P : Int → SS → Prop) : Prop :=
  ∃ (I2 : Int → Int → Int → SS → Prop) (μ3 : Int → Int → Int → SS → Nat), I2 (-6) 0 2 fo ∧ ∀ (x1_1 : Int) (x2_1 : Int) (x3_1 : Int) (fo0_1 : SS), rg x1_1 → rg x2_1 → rg x3_1 → RG fo0_1 → I2 x1_1 x2_1 x3_1 fo0_1 → (((9 < x3_1) → (P x1_1 fo0_1)) ∧ ((¬ (9 < x3_1)) → (∃ (g14 : SS) (g15 : Int), (Rep6 cu sv hs ol tt s0 s1 s2 s3 cs ln g14 g15) ∧ ((0 ≤ g15 ∧ g15 ≤ 600) ∧ ((2 ≤ x3_1 ∧ x3_1 ≤ 20) ∧ (∀ (z25 : Int) (u_fo23 : SS), rg z25 → RG u_fo23 → ((z25 = 1 ∧ crZ (graZ (g14.2 0) x3_1) ∧ ∃ y, AllZ (finZ (graZ (g14.2 0) x3_1)) y ∧ Rep u_fo23 y) ∨ (z25 = 0 ∧ ¬ crZ (graZ (g14.2 0) x3_1))) → (((z25 = 0) → (rg (x3_1 + 1) ∧ (I2 x1_1 x2_1 (x3_1 + 1) u_fo23 ∧ μ3 x1_1 x2_1 (x3_1 + 1) u_fo23 < μ3 x1_1 x2_1 x3_1 fo0_1))) ∧ ((¬ (z25 = 0)) → (((x1_1 = (-6)) → (rg (x3_1 + 1) ∧ (I2 x3_1 (u_fo23.1 12) (x3_1 + 1) u_fo23 ∧ μ3 x3_1 (u_fo23.1 12) (x3_1 + 1) u_fo23 < μ3 x1_1 x2_1 x3_1 fo0_1))) ∧ ((¬ (x1_1 = (-6))) → ((((u_fo23.1 12) < x2_1) → (rg (x3_1 + 1) ∧ (I2 x3_1 (u_fo23.1 12) (x3_1 + 1) u_fo23 ∧ μ3 x3_1 (u_fo23.1 12) (x3_1 + 1) u_fo23 < μ3 x1_1 x2_1 x3_1 fo0_1))) ∧ ((¬ ((u_fo23.1 12) < x2_1)) → (rg (x3_1 + 1) ∧ (I2 x1_1 x2_1 (x3_1 + 1) u_fo23 ∧ μ3 x1_1 x2_1 (x3_1 + 1) u_fo23 < μ3 x1_1 x2_1 x3_1 fo0_1))))))))))))))
set_option maxHeartbeats 1000000 in
theorem sp_X6_bestSize (cu : SS) (fo : SS) (sv : SS) (hs : Int) (ol : Int) (tt : Int) (s0 : SS) (s1 : SS) (s2 : SS) (s3 : SS) (cs : Int → Int) (ln : Int) (kd : Int) (fk : Int) (hd : Int) (va : Int) (le : Int) (mo : Int)  (m : SS) (n : Int) (r_cu : RG cu) (r_fo : RG fo) (r_sv : RG sv) (r_hs : rg hs) (r_ol : rg ol) (r_tt : rg tt) (r_s0 : RG s0) (r_s1 : RG s1) (r_s2 : RG s2) (r_s3 : RG s3) (r_cs : rgA cs) (r_ln : rg ln) (r_kd : rg kd) (r_fk : rg fk) (r_hd : rg hd) (r_va : rg va) (r_le : rg le) (r_mo : rg mo)  (p0 : Rep6 cu sv hs ol tt s0 s1 s2 s3 cs ln m n) (p1 : 0 ≤ n ∧ n ≤ 600) : wp_X6_bestSize cu fo sv hs ol tt s0 s1 s2 s3 cs ln kd fk hd va le mo (fun r fo' => ∃ c : Int → Int, (∀ k, 2 ≤ k → k ≤ 20 → growZ (m.2 0) k 7 (c k)) ∧ r = bsF c 19) := by
  unfold wp_X6_bestSize
  have p0' := p0
  obtain ⟨⟨hR, hI⟩, ⟨hs01, e4, hsv⟩, ⟨e2, hH⟩, ecs, eln, bln, bcs⟩ := p0'
  have hV := hI.1
  have ⟨⟨f2, f3, f4, f8, f12, f13, f14, f15, f16⟩, ⟨n6, n11, n17, n18, n5⟩, b16, b17, b18, b6⟩ := Rep_facts hV hR
  have ⟨_, ⟨v0, v1, v2, v5, v6, v7, v8, v9⟩, _⟩ := hV
  have hB := HInv_Bd hI p1.2
  obtain ⟨q1, q2, q3, q4, q5, q6⟩ := pubF hV hB.2
  obtain ⟨i4, i7, i8, i9⟩ := hB.1
  have same := Rep6_same p0
  have b01 := Rep_B01 hV hR
  have htt := hH.1
  refine ⟨fun b l k t => (2 ≤ k ∧ k ≤ 10) ∧ ∃ c : Int → Int, (∀ j, 2 ≤ j → j < k → growZ (m.2 0) j 7 (c j)) ∧ b = bsF c (k - 2).toNat ∧ (b = -6 ∨ l = (m.2 0) 7 + c b), fun _ _ k _ => (10 - k).toNat, ⟨by omega, fun _ => 0, fun j h1 h2 => by omega, rfl, Or.inl rfl⟩, ?_⟩
  intro b l k t rb rl rk rt ⟨⟨k1, k2⟩, c, c1, c2, c3⟩
  refine ⟨fun d => ?_, fun d => ⟨m, n, p0, p1, by omega, fun r u rr ru h => ?_⟩⟩
  · obtain ⟨d', d1, d2⟩ := best_top hV hB.1 (fun j h1 h2 => c1 j h1 (by omega))
    refine ⟨d', d1, ?_⟩
    rw [c2, ← d2, show (k - 2).toNat = 8 by omega]
  have hk : rg (k + 1) := by unfold rg; omega
  have ext : ∀ v, growZ (m.2 0) k 7 v → ∀ j, 2 ≤ j → j < k + 1 → growZ (m.2 0) j 7 (uZ c k v j) := fun v hv j h1 h2 => by
    by_cases w : j = k
    · rw [w, uZ_at]; exact hv
    · rw [uZ_ne w]; exact c1 j h1 (by omega)
  have bg := bsF_rng c (k - 2).toNat
  refine ⟨fun e => ?_, fun e => ?_⟩
  · have gv : growZ (m.2 0) k 7 (-3) := Or.inr ⟨(h.resolve_left (fun q => by omega)).2, rfl⟩
    refine ⟨hk, ⟨by omega, uZ c k (-3), ext _ gv, by rw [bsF_S k1 c2, if_neg (by omega)], ?_⟩, by dsimp only; omega⟩
    rcases c3 with q | q
    · exact Or.inl q
    · by_cases w : b = -6
      · exact Or.inl w
      · exact Or.inr (by rw [uZ_ne (by omega)]; exact q)
  · obtain ⟨_, hc, y, hA, hu⟩ := h.resolve_right (fun q => e q.1)
    obtain ⟨a1, a2, a3, a4, a5, a6, a7, a8, a9, a10, a11⟩ := graZ_Vz hV (by omega : 2 ≤ k ∧ k ≤ 20) q3
    obtain ⟨y1, y2, y3, y4, y5', y6, y7⟩ := All_upd a1 (by omega) hc hA
    have eu : u.1 12 = y 7 := hu.2.1.2.2.2.2.1
    have gv : growZ (m.2 0) k 7 (y 7 - (m.2 0) 7) := Or.inl ⟨hc, y, hA, rfl⟩
    have new : (b = -6 ∨ y 7 - (m.2 0) 7 < c b) → (2 ≤ k + 1 ∧ k + 1 ≤ 10) ∧ ∃ c : Int → Int, (∀ j, 2 ≤ j → j < k + 1 → growZ (m.2 0) j 7 (c j)) ∧ k = bsF c (k + 1 - 2).toNat ∧ (k = -6 ∨ u.1 12 = (m.2 0) 7 + c k) := fun w => ⟨by omega, uZ c k (y 7 - (m.2 0) 7), ext _ gv, by rw [bsF_S k1 c2, if_pos ⟨by omega, w⟩], Or.inr (by rw [uZ_at, eu]; omega)⟩
    have old : ¬ (b = -6 ∨ y 7 - (m.2 0) 7 < c b) → (2 ≤ k + 1 ∧ k + 1 ≤ 10) ∧ ∃ c : Int → Int, (∀ j, 2 ≤ j → j < k + 1 → growZ (m.2 0) j 7 (c j)) ∧ b = bsF c (k + 1 - 2).toNat ∧ (b = -6 ∨ l = (m.2 0) 7 + c b) := fun w => ⟨by omega, uZ c k (y 7 - (m.2 0) 7), ext _ gv, by rw [bsF_S k1 c2, if_neg (fun q => w q.2)], by
      rcases c3 with q | q
      · exact absurd (Or.inl q) w
      · exact Or.inr (by rw [uZ_ne (by omega)]; exact q)⟩
    refine ⟨fun w => ⟨hk, new (Or.inl w), by dsimp only; omega⟩, fun w => ?_⟩
    have el : l = (m.2 0) 7 + c b := c3.resolve_left w
    rw [eu]
    refine ⟨fun w3 => ⟨hk, ?_, by dsimp only; omega⟩, fun w3 => ⟨hk, old (by omega), by dsimp only; omega⟩⟩
    have := new (Or.inr (by omega))
    rw [eu] at this
    exact this
def wp_X6_append (cu : SS) (fo : SS) (sv : SS) (hs : Int) (ol : Int) (tt : Int) (s0 : SS) (s1 : SS) (s2 : SS) (s3 : SS) (cs : Int → Int) (ln : Int) (kd : Int) (fk : Int) (hd : Int) (va : Int) (le : Int) (mo : Int) (code : Int) (P : Int → (Int → Int) → Int → Prop) : Prop :=
  ((code < 33) → (P (-2) cs ln)) ∧ ((¬ (code < 33)) → (((126 < code) → (P (-2) cs ln)) ∧ ((¬ (126 < code)) → (((0 ≤ ln ∧ ln < 80) → ((0 ≤ ln ∧ ln < 80) ∧ (P (ln + 1) (uZ cs ln code) (ln + 1)))) ∧ ((¬ (0 ≤ ln ∧ ln < 80)) → (P (-4) cs ln))))))
set_option maxHeartbeats 1000000 in
theorem sp_X6_append (cu : SS) (fo : SS) (sv : SS) (hs : Int) (ol : Int) (tt : Int) (s0 : SS) (s1 : SS) (s2 : SS) (s3 : SS) (cs : Int → Int) (ln : Int) (kd : Int) (fk : Int) (hd : Int) (va : Int) (le : Int) (mo : Int) (code : Int) (m : SS) (n : Int) (r_cu : RG cu) (r_fo : RG fo) (r_sv : RG sv) (r_hs : rg hs) (r_ol : rg ol) (r_tt : rg tt) (r_s0 : RG s0) (r_s1 : RG s1) (r_s2 : RG s2) (r_s3 : RG s3) (r_cs : rgA cs) (r_ln : rg ln) (r_kd : rg kd) (r_fk : rg fk) (r_hd : rg hd) (r_va : rg va) (r_le : rg le) (r_mo : rg mo) (r_code : rg code) (p0 : Rep6 cu sv hs ol tt s0 s1 s2 s3 cs ln m n) (p1 : 0 ≤ n ∧ n ≤ 600) : wp_X6_append cu fo sv hs ol tt s0 s1 s2 s3 cs ln kd fk hd va le mo code (fun r cs' ln' => r = an_append m code ∧ Rep6 cu sv hs ol tt s0 s1 s2 s3 cs' ln' (nx_append m code) (n + 1)) := by
  unfold wp_X6_append
  have p0' := p0
  obtain ⟨⟨hR, hI⟩, ⟨hs01, e4, hsv⟩, ⟨e2, hH⟩, ecs, eln, bln, bcs⟩ := p0'
  have hV := hI.1
  have ⟨⟨f2, f3, f4, f8, f12, f13, f14, f15, f16⟩, ⟨n6, n11, n17, n18, n5⟩, b16, b17, b18, b6⟩ := Rep_facts hV hR
  have ⟨_, ⟨v0, v1, v2, v5, v6, v7, v8, v9⟩, _⟩ := hV
  have hB := HInv_Bd hI p1.2
  obtain ⟨q1, q2, q3, q4, q5, q6⟩ := pubF hV hB.2
  obtain ⟨i4, i7, i8, i9⟩ := hB.1
  have same := Rep6_same p0
  have b01 := Rep_B01 hV hR
  have htt := hH.1
  unfold an_append nx_append
  refine ⟨fun g => ?_, fun g => ⟨fun g2 => ?_, fun g2 => ⟨fun a => ⟨a, ?_⟩, fun a => ?_⟩⟩⟩
  · rw [if_pos (by omega), if_pos (by omega)]; exact ⟨rfl, same⟩
  · rw [if_pos (by omega), if_pos (by omega)]; exact ⟨rfl, same⟩
  · rw [if_neg (by omega), if_neg (show ¬ m.1 7 = 80 by omega), if_neg (by omega), if_neg (show ¬ m.1 7 = 80 by omega)]
    obtain ⟨s1, s2, s3, s4⟩ := same
    refine ⟨by omega, s1, s2, s3, by show uZ cs ln code = uZ (m.2 6) (m.1 7) code; rw [ecs, eln], by show ln + 1 = m.1 7 + 1; rw [eln], by omega, fun i i0 i1 => ?_⟩
    by_cases w : i = ln
    · rw [w, uZ_at]; omega
    · rw [uZ_ne w]; exact bcs i i0 (by omega)
  · rw [if_neg (by omega), if_pos (show m.1 7 = 80 by omega), if_neg (by omega), if_pos (show m.1 7 = 80 by omega)]; exact ⟨rfl, same⟩
def wp_X6_clearText (cu : SS) (fo : SS) (sv : SS) (hs : Int) (ol : Int) (tt : Int) (s0 : SS) (s1 : SS) (s2 : SS) (s3 : SS) (cs : Int → Int) (ln : Int) (kd : Int) (fk : Int) (hd : Int) (va : Int) (le : Int) (mo : Int)  (P : Int → Int → Prop) : Prop :=
  P ln 0
set_option maxHeartbeats 1000000 in
theorem sp_X6_clearText (cu : SS) (fo : SS) (sv : SS) (hs : Int) (ol : Int) (tt : Int) (s0 : SS) (s1 : SS) (s2 : SS) (s3 : SS) (cs : Int → Int) (ln : Int) (kd : Int) (fk : Int) (hd : Int) (va : Int) (le : Int) (mo : Int)  (m : SS) (n : Int) (r_cu : RG cu) (r_fo : RG fo) (r_sv : RG sv) (r_hs : rg hs) (r_ol : rg ol) (r_tt : rg tt) (r_s0 : RG s0) (r_s1 : RG s1) (r_s2 : RG s2) (r_s3 : RG s3) (r_cs : rgA cs) (r_ln : rg ln) (r_kd : rg kd) (r_fk : rg fk) (r_hd : rg hd) (r_va : rg va) (r_le : rg le) (r_mo : rg mo)  (p0 : Rep6 cu sv hs ol tt s0 s1 s2 s3 cs ln m n) (p1 : 0 ≤ n ∧ n ≤ 600) : wp_X6_clearText cu fo sv hs ol tt s0 s1 s2 s3 cs ln kd fk hd va le mo (fun r ln' => r = m.1 7 ∧ Rep6 cu sv hs ol tt s0 s1 s2 s3 cs ln' (sS m 7 0) (n + 1)) := by
  unfold wp_X6_clearText
  have p0' := p0
  obtain ⟨⟨hR, hI⟩, ⟨hs01, e4, hsv⟩, ⟨e2, hH⟩, ecs, eln, bln, bcs⟩ := p0'
  have hV := hI.1
  have ⟨⟨f2, f3, f4, f8, f12, f13, f14, f15, f16⟩, ⟨n6, n11, n17, n18, n5⟩, b16, b17, b18, b6⟩ := Rep_facts hV hR
  have ⟨_, ⟨v0, v1, v2, v5, v6, v7, v8, v9⟩, _⟩ := hV
  have hB := HInv_Bd hI p1.2
  obtain ⟨q1, q2, q3, q4, q5, q6⟩ := pubF hV hB.2
  obtain ⟨i4, i7, i8, i9⟩ := hB.1
  have same := Rep6_same p0
  have b01 := Rep_B01 hV hR
  have htt := hH.1
  obtain ⟨s1, s2, s3, s4⟩ := same
  exact ⟨eln, s1, s2, s3, ecs, rfl, by omega, fun i h1 h2 => by omega⟩
def wp_X6_errorPosition (cu : SS) (fo : SS) (sv : SS) (hs : Int) (ol : Int) (tt : Int) (s0 : SS) (s1 : SS) (s2 : SS) (s3 : SS) (cs : Int → Int) (ln : Int) (kd : Int) (fk : Int) (hd : Int) (va : Int) (le : Int) (mo : Int)  (P : Int → Int → Int → Int → Int → Int → Int → Prop) : Prop :=
  ∃ (I9 : Int → Int → Int → Int → Int → Int → Int → Prop) (μ10 : Int → Int → Int → Int → Int → Int → Int → Nat), I9 0 0 fk 0 0 0 999 ∧ ∀ (x1_8 : Int) (kd0_8 : Int) (fk0_8 : Int) (hd0_8 : Int) (va0_8 : Int) (le0_8 : Int) (mo0_8 : Int), rg x1_8 → rg kd0_8 → rg fk0_8 → rg hd0_8 → rg va0_8 → rg le0_8 → rg mo0_8 → I9 x1_8 kd0_8 fk0_8 hd0_8 va0_8 le0_8 mo0_8 → (((x1_8 < ln) → ((0 ≤ x1_8 ∧ x1_8 < ln ∧ ln ≤ 80) ∧ (∃ (g36 : AT), (RA kd0_8 fk0_8 hd0_8 va0_8 le0_8 mo0_8 g36) ∧ ((0 ≤ va0_8 ∧ va0_8 ≤ 999) ∧ (∀ (z49 : Int) (u_kd42 : Int) (u_fk43 : Int) (u_hd44 : Int) (u_va45 : Int) (u_le46 : Int) (u_mo47 : Int), rg z49 → rg u_kd42 → rg u_fk43 → rg u_hd44 → rg u_va45 → rg u_le46 → rg u_mo47 → ((z49 = 1 ∧ accA g36 (cs x1_8) ∧ RA u_kd42 u_fk43 u_hd44 u_va45 u_le46 u_mo47 (nxA g36 (cs x1_8))) ∨ (z49 = 0 ∧ ¬ accA g36 (cs x1_8) ∧ RA u_kd42 u_fk43 u_hd44 u_va45 u_le46 u_mo47 g36)) → (((z49 = 0) → (P x1_8 u_kd42 u_fk43 u_hd44 u_va45 u_le46 u_mo47)) ∧ ((¬ (z49 = 0)) → (rg (x1_8 + 1) ∧ (I9 (x1_8 + 1) u_kd42 u_fk43 u_hd44 u_va45 u_le46 u_mo47 ∧ μ10 (x1_8 + 1) u_kd42 u_fk43 u_hd44 u_va45 u_le46 u_mo47 < μ10 x1_8 kd0_8 fk0_8 hd0_8 va0_8 le0_8 mo0_8))))))))) ∧ ((¬ (x1_8 < ln)) → ((hd0_8 = 0 ∨ hd0_8 = 1) ∧ (((hd0_8 = 1 ∧ va0_8 ≤ mo0_8 ∧ le0_8 ≤ va0_8) → (P (-6) kd0_8 fk0_8 hd0_8 va0_8 le0_8 mo0_8)) ∧ ((¬ (hd0_8 = 1 ∧ va0_8 ≤ mo0_8 ∧ le0_8 ≤ va0_8)) → (P ln kd0_8 fk0_8 hd0_8 va0_8 le0_8 mo0_8))))))
set_option maxHeartbeats 1000000 in
theorem sp_X6_errorPosition (cu : SS) (fo : SS) (sv : SS) (hs : Int) (ol : Int) (tt : Int) (s0 : SS) (s1 : SS) (s2 : SS) (s3 : SS) (cs : Int → Int) (ln : Int) (kd : Int) (fk : Int) (hd : Int) (va : Int) (le : Int) (mo : Int)  (m : SS) (n : Int) (r_cu : RG cu) (r_fo : RG fo) (r_sv : RG sv) (r_hs : rg hs) (r_ol : rg ol) (r_tt : rg tt) (r_s0 : RG s0) (r_s1 : RG s1) (r_s2 : RG s2) (r_s3 : RG s3) (r_cs : rgA cs) (r_ln : rg ln) (r_kd : rg kd) (r_fk : rg fk) (r_hd : rg hd) (r_va : rg va) (r_le : rg le) (r_mo : rg mo)  (p0 : Rep6 cu sv hs ol tt s0 s1 s2 s3 cs ln m n) (p1 : 0 ≤ n ∧ n ≤ 600) : wp_X6_errorPosition cu fo sv hs ol tt s0 s1 s2 s3 cs ln kd fk hd va le mo (fun r kd' fk' hd' va' le' mo' => ((r = -6 ∧ OkA (m.2 6) (m.1 7)) ∨ (r ≠ -6 ∧ FaA (m.2 6) (m.1 7) r))) := by
  unfold wp_X6_errorPosition
  have p0' := p0
  obtain ⟨⟨hR, hI⟩, ⟨hs01, e4, hsv⟩, ⟨e2, hH⟩, ecs, eln, bln, bcs⟩ := p0'
  have hV := hI.1
  have ⟨⟨f2, f3, f4, f8, f12, f13, f14, f15, f16⟩, ⟨n6, n11, n17, n18, n5⟩, b16, b17, b18, b6⟩ := Rep_facts hV hR
  have ⟨_, ⟨v0, v1, v2, v5, v6, v7, v8, v9⟩, _⟩ := hV
  have hB := HInv_Bd hI p1.2
  obtain ⟨q1, q2, q3, q4, q5, q6⟩ := pubF hV hB.2
  obtain ⟨i4, i7, i8, i9⟩ := hB.1
  have same := Rep6_same p0
  have b01 := Rep_B01 hV hR
  have htt := hH.1
  rw [← ecs, ← eln]
  refine ⟨fun x k f h v l o => (0 ≤ x ∧ x ≤ ln) ∧ ∃ a, StA cs x a ∧ RA k f h v l o a, fun x _ _ _ _ _ _ => (ln - x).toNat, ⟨by omega, _, StA_0, RA_0⟩, ?_⟩
  intro x k f h v l o _ _ _ _ _ _ _ ⟨⟨x0, x1⟩, a, hs, ha⟩
  obtain ⟨w1, w2⟩ := RA_va hs ha
  refine ⟨fun c => ⟨⟨x0, c, bln.2⟩, a, ha, w1, ?_⟩, fun c => ⟨w2, fun g => ?_, fun g => ?_⟩⟩
  · intro z k' f' h' v' l' o' _ _ _ _ _ _ _ hz
    refine ⟨fun e => ?_, fun e => ?_⟩
    · obtain ⟨_, n1, _⟩ := hz.resolve_left (fun q => by omega)
      exact Or.inr ⟨by omega, x0, x1, a, hs, Or.inl ⟨c, n1⟩⟩
    · obtain ⟨_, n1, n2⟩ := hz.resolve_right (fun q => e q.1)
      exact ⟨by unfold rg; omega, ⟨by omega, _, StA_step hs n1 rfl, n2⟩, by dsimp only; omega⟩
  · exact Or.inl ⟨rfl, a, by rw [show ln = x by omega]; exact hs, (RA_wh ha).mpr g⟩
  · exact Or.inr ⟨by omega, bln.1, Int.le_refl _, a, by rw [show ln = x by omega]; exact hs, Or.inr ⟨rfl, fun q => g ((RA_wh ha).mp q)⟩⟩
def wp_X6_undo (cu : SS) (fo : SS) (sv : SS) (hs : Int) (ol : Int) (tt : Int) (s0 : SS) (s1 : SS) (s2 : SS) (s3 : SS) (cs : Int → Int) (ln : Int) (kd : Int) (fk : Int) (hd : Int) (va : Int) (le : Int) (mo : Int)  (P : Int → SS → Int → Prop) : Prop :=
  ((tt = 0) → (P (-3) cu tt)) ∧ ((¬ (tt = 0)) → ((0 ≤ ol ∧ ol < 4 ∧ 1 ≤ tt ∧ tt ≤ 4) ∧ ((B01 (seS ((ol + (tt - 1)) % 4) s0 s1 s2 s3)) ∧ (P (tt - 1) (seS ((ol + (tt - 1)) % 4) s0 s1 s2 s3) (tt - 1)))))
set_option maxHeartbeats 1000000 in
theorem sp_X6_undo (cu : SS) (fo : SS) (sv : SS) (hs : Int) (ol : Int) (tt : Int) (s0 : SS) (s1 : SS) (s2 : SS) (s3 : SS) (cs : Int → Int) (ln : Int) (kd : Int) (fk : Int) (hd : Int) (va : Int) (le : Int) (mo : Int)  (m : SS) (n : Int) (r_cu : RG cu) (r_fo : RG fo) (r_sv : RG sv) (r_hs : rg hs) (r_ol : rg ol) (r_tt : rg tt) (r_s0 : RG s0) (r_s1 : RG s1) (r_s2 : RG s2) (r_s3 : RG s3) (r_cs : rgA cs) (r_ln : rg ln) (r_kd : rg kd) (r_fk : rg fk) (r_hd : rg hd) (r_va : rg va) (r_le : rg le) (r_mo : rg mo)  (p0 : Rep6 cu sv hs ol tt s0 s1 s2 s3 cs ln m n) (p1 : 0 ≤ n ∧ n ≤ 600) : wp_X6_undo cu fo sv hs ol tt s0 s1 s2 s3 cs ln kd fk hd va le mo (fun r cu' tt' => r = (if m.1 2 = 0 then -3 else m.1 2 - 1) ∧ Rep6 cu' sv hs ol tt' s0 s1 s2 s3 cs ln (nx_undo m) (n + 1)) := by
  unfold wp_X6_undo
  have p0' := p0
  obtain ⟨⟨hR, hI⟩, ⟨hs01, e4, hsv⟩, ⟨e2, hH⟩, ecs, eln, bln, bcs⟩ := p0'
  have hV := hI.1
  have ⟨⟨f2, f3, f4, f8, f12, f13, f14, f15, f16⟩, ⟨n6, n11, n17, n18, n5⟩, b16, b17, b18, b6⟩ := Rep_facts hV hR
  have ⟨_, ⟨v0, v1, v2, v5, v6, v7, v8, v9⟩, _⟩ := hV
  have hB := HInv_Bd hI p1.2
  obtain ⟨q1, q2, q3, q4, q5, q6⟩ := pubF hV hB.2
  obtain ⟨i4, i7, i8, i9⟩ := hB.1
  have same := Rep6_same p0
  have b01 := Rep_B01 hV hR
  have htt := hH.1
  unfold nx_undo
  refine ⟨fun g => ?_, fun g => ?_⟩
  · rw [if_pos (by omega), if_pos (by omega)]; exact ⟨rfl, same⟩
  · have hq := hH.2 (tt - 1) (by omega) (by omega)
    refine ⟨⟨htt.1, htt.2.1, by omega, by omega⟩, Rep_B01 hq.2.1 hq.1, ?_⟩
    rw [if_neg (show ¬ m.1 2 = 0 by omega), if_neg (show ¬ m.1 2 = 0 by omega)]
    obtain ⟨s1, s2, ⟨s3, s4⟩, s5⟩ := same
    refine ⟨by omega, RH_mono (RH_370 (fun k k0 k1 => ?_) hq) (by omega), s2, ⟨by show m.1 2 - 1 = tt - 1; omega, ⟨htt.1, htt.2.1, by omega, by omega⟩, fun j j0 j1 => s4.2 j j0 (by omega)⟩, s5⟩
    show cpP (m.2 1) (m.2 0) ((m.1 2 - 1) * 370) 370 k = m.2 1 ((tt - 1) * 370 + k)
    rw [cpP_in k0 k1, e2]
def wp_X6_save (cu : SS) (fo : SS) (sv : SS) (hs : Int) (ol : Int) (tt : Int) (s0 : SS) (s1 : SS) (s2 : SS) (s3 : SS) (cs : Int → Int) (ln : Int) (kd : Int) (fk : Int) (hd : Int) (va : Int) (le : Int) (mo : Int)  (P : Int → SS → Int → Prop) : Prop :=
  (((cu.1 2) = 0 ∨ (cu.1 2) = 1) ∧ ((cu.1 3) = 0 ∨ (cu.1 3) = 1)) ∧ (P (cu.1 16) cu 1)
set_option maxHeartbeats 1000000 in
theorem sp_X6_save (cu : SS) (fo : SS) (sv : SS) (hs : Int) (ol : Int) (tt : Int) (s0 : SS) (s1 : SS) (s2 : SS) (s3 : SS) (cs : Int → Int) (ln : Int) (kd : Int) (fk : Int) (hd : Int) (va : Int) (le : Int) (mo : Int)  (m : SS) (n : Int) (r_cu : RG cu) (r_fo : RG fo) (r_sv : RG sv) (r_hs : rg hs) (r_ol : rg ol) (r_tt : rg tt) (r_s0 : RG s0) (r_s1 : RG s1) (r_s2 : RG s2) (r_s3 : RG s3) (r_cs : rgA cs) (r_ln : rg ln) (r_kd : rg kd) (r_fk : rg fk) (r_hd : rg hd) (r_va : rg va) (r_le : rg le) (r_mo : rg mo)  (p0 : Rep6 cu sv hs ol tt s0 s1 s2 s3 cs ln m n) (p1 : 0 ≤ n ∧ n ≤ 600) : wp_X6_save cu fo sv hs ol tt s0 s1 s2 s3 cs ln kd fk hd va le mo (fun r sv' hs' => r = (m.2 0 3) ∧ Rep6 cu sv' hs' ol tt s0 s1 s2 s3 cs ln (nx_save m) (n + 1)) := by
  unfold wp_X6_save
  have p0' := p0
  obtain ⟨⟨hR, hI⟩, ⟨hs01, e4, hsv⟩, ⟨e2, hH⟩, ecs, eln, bln, bcs⟩ := p0'
  have hV := hI.1
  have ⟨⟨f2, f3, f4, f8, f12, f13, f14, f15, f16⟩, ⟨n6, n11, n17, n18, n5⟩, b16, b17, b18, b6⟩ := Rep_facts hV hR
  have ⟨_, ⟨v0, v1, v2, v5, v6, v7, v8, v9⟩, _⟩ := hV
  have hB := HInv_Bd hI p1.2
  obtain ⟨q1, q2, q3, q4, q5, q6⟩ := pubF hV hB.2
  obtain ⟨i4, i7, i8, i9⟩ := hB.1
  have same := Rep6_same p0
  have b01 := Rep_B01 hV hR
  have htt := hH.1
  obtain ⟨s1, s2, s3, s4⟩ := same
  refine ⟨b01, f16, s1, ⟨Or.inr rfl, rfl, fun _ => RH_370 (fun k k0 k1 => ?_) s1⟩, s3, s4⟩
  show cpP (m.2 0) (m.2 3) 0 370 k = m.2 0 k
  rw [cpP_in k0 k1, Int.zero_add]
def wp_X6_restore (cu : SS) (fo : SS) (sv : SS) (hs : Int) (ol : Int) (tt : Int) (s0 : SS) (s1 : SS) (s2 : SS) (s3 : SS) (cs : Int → Int) (ln : Int) (kd : Int) (fk : Int) (hd : Int) (va : Int) (le : Int) (mo : Int)  (P : Int → SS → Int → Int → SS → SS → SS → SS → Prop) : Prop :=
  ((hs = 0) → (P (-3) cu ol tt s0 s1 s2 s3)) ∧ ((¬ (hs = 0)) → ((0 ≤ ol ∧ ol < 4 ∧ 0 ≤ tt ∧ tt ≤ 4) ∧ ((B01 cu) ∧ ((((sv.1 2) = 0 ∨ (sv.1 2) = 1) ∧ ((sv.1 3) = 0 ∨ (sv.1 3) = 1)) ∧ (P (sv.1 16) sv (rmO ol tt) (recN tt + 1) (rmS 0 ol tt cu s0) (rmS 1 ol tt cu s1) (rmS 2 ol tt cu s2) (rmS 3 ol tt cu s3))))))
set_option maxHeartbeats 1000000 in
theorem sp_X6_restore (cu : SS) (fo : SS) (sv : SS) (hs : Int) (ol : Int) (tt : Int) (s0 : SS) (s1 : SS) (s2 : SS) (s3 : SS) (cs : Int → Int) (ln : Int) (kd : Int) (fk : Int) (hd : Int) (va : Int) (le : Int) (mo : Int)  (m : SS) (n : Int) (r_cu : RG cu) (r_fo : RG fo) (r_sv : RG sv) (r_hs : rg hs) (r_ol : rg ol) (r_tt : rg tt) (r_s0 : RG s0) (r_s1 : RG s1) (r_s2 : RG s2) (r_s3 : RG s3) (r_cs : rgA cs) (r_ln : rg ln) (r_kd : rg kd) (r_fk : rg fk) (r_hd : rg hd) (r_va : rg va) (r_le : rg le) (r_mo : rg mo)  (p0 : Rep6 cu sv hs ol tt s0 s1 s2 s3 cs ln m n) (p1 : 0 ≤ n ∧ n ≤ 600) : wp_X6_restore cu fo sv hs ol tt s0 s1 s2 s3 cs ln kd fk hd va le mo (fun r cu' ol' tt' s0' s1' s2' s3' => r = (if m.1 4 = 0 then -3 else m.2 3 3) ∧ Rep6 cu' sv hs ol' tt' s0' s1' s2' s3' cs ln (nx_restore m) (n + 1)) := by
  unfold wp_X6_restore
  have p0' := p0
  obtain ⟨⟨hR, hI⟩, ⟨hs01, e4, hsv⟩, ⟨e2, hH⟩, ecs, eln, bln, bcs⟩ := p0'
  have hV := hI.1
  have ⟨⟨f2, f3, f4, f8, f12, f13, f14, f15, f16⟩, ⟨n6, n11, n17, n18, n5⟩, b16, b17, b18, b6⟩ := Rep_facts hV hR
  have ⟨_, ⟨v0, v1, v2, v5, v6, v7, v8, v9⟩, _⟩ := hV
  have hB := HInv_Bd hI p1.2
  obtain ⟨q1, q2, q3, q4, q5, q6⟩ := pubF hV hB.2
  obtain ⟨i4, i7, i8, i9⟩ := hB.1
  have same := Rep6_same p0
  have b01 := Rep_B01 hV hR
  have htt := hH.1
  unfold nx_restore
  refine ⟨fun g => ?_, fun g => ?_⟩
  · rw [if_pos (by omega), if_pos (by omega)]; exact ⟨rfl, same⟩
  · have hq := hsv (by omega)
    have he : E370 (m.2 3) (cpF (m.2 3) (m.2 0) 0) := fun k k0 k1 => by
      show cpP (m.2 3) (m.2 0) 0 370 k = m.2 3 k
      rw [cpP_in k0 k1, Int.zero_add]
    have hq2 := RH_370 he hq
    refine ⟨htt, b01, Rep_B01 hq.2.1 hq.1, ?_⟩
    rw [if_neg (by omega), if_neg (by omega)]
    exact ⟨hq.1.1.1, Rep6_new p0 hq2.1 (HInv_mono hq2.2 (by omega))⟩
