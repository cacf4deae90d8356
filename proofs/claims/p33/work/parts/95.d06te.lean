set_option maxRecDepth 100000 in
def wp_L_tells (o_cu : SS) (o_fo : SS) (o_sv : SS) (o_hs : Int) (o_ol : Int) (o_tt : Int) (o_s0 : SS) (o_s1 : SS) (o_s2 : SS) (o_s3 : SS) (o_cs : Int → Int) (o_ln : Int) (o_kd : Int) (o_fk : Int) (o_hd : Int) (o_va : Int) (o_le : Int) (o_mo : Int) (f_x : Int → Int) (n_x : Int → Int) (l_x : Int → Int) (d_x : Int → Int) (m_x : Int → Int) (k_x : Int → Int) (c_x : Int → Int) (t_x : Int → Int) (x : Int) (P : Int → Prop) : Prop :=
  (0 ≤ (t_x 10) ∧ (t_x 10) ≤ 64) ∧ ((∀ i, 0 ≤ i → i < (t_x 10) → 0 ≤ l_x i ∧ l_x i ≤ 60) ∧ (rg ((sumI l_x ((t_x 10)).toNat) + (t_x 11)) ∧ (∀ q10 : Int, rg q10 → ((0 < (2 : Int)) ∧ (∀ (z16 : Int), rg z16 → (0 ≤ z16 ∧ z16 < (2 : Int)) → ((((z16 = 0) → (True)) ∧ ((¬ (z16 = 0)) → (True))) ∧ ((0 < ((if z16 = 0 then 1000 else 12) : Int)) ∧ (∀ (z34 : Int), rg z34 → (0 ≤ z34 ∧ z34 < ((if z16 = 0 then 1000 else 12) : Int)) → (∃ (I39 : Int → Int → Int → Prop) (μ40 : Int → Int → Int → Nat), I39 0 0 0 ∧ ∀ (x11_38 : Int) (x12_38 : Int) (x14_38 : Int), rg x11_38 → rg x12_38 → rg x14_38 → I39 x11_38 x12_38 x14_38 → (((x14_38 < (t_x 3)) → ((0 ≤ x14_38 ∧ x14_38 < 60) ∧ (rg (x11_38 + (c_x x14_38)) ∧ ((((k_x x14_38) < z34) → (rg (x12_38 + (c_x x14_38)) ∧ (rg (x14_38 + 1) ∧ (I39 (x11_38 + (c_x x14_38)) (x12_38 + (c_x x14_38)) (x14_38 + 1) ∧ μ40 (x11_38 + (c_x x14_38)) (x12_38 + (c_x x14_38)) (x14_38 + 1) < μ40 x11_38 x12_38 x14_38)))) ∧ ((¬ ((k_x x14_38) < z34)) → (rg (x12_38 + 0) ∧ (rg (x14_38 + 1) ∧ (I39 (x11_38 + (c_x x14_38)) (x12_38 + 0) (x14_38 + 1) ∧ μ40 (x11_38 + (c_x x14_38)) (x12_38 + 0) (x14_38 + 1) < μ40 x11_38 x12_38 x14_38)))))))) ∧ ((¬ (x14_38 < (t_x 3))) → ((0 ≤ t_x 10 ∧ t_x 10 ≤ 64) ∧ (((1 : Int) = 1) ∧ (∃ (I58 : Int → Int → Prop) (μ59 : Int → Int → Nat), I58 0 0 ∧ ∀ (x15_57 : Int) (x16_57 : Int), rg x15_57 → rg x16_57 → I58 x15_57 x16_57 → (((x16_57 < (t_x 10)) → ((0 ≤ x16_57 ∧ x16_57 < 64) ∧ ((((d_x x16_57) = 1) → (rg (x15_57 + (l_x x16_57)) ∧ (rg (x16_57 + 1) ∧ (I58 (x15_57 + (l_x x16_57)) (x16_57 + 1) ∧ μ59 (x15_57 + (l_x x16_57)) (x16_57 + 1) < μ59 x15_57 x16_57)))) ∧ ((¬ ((d_x x16_57) = 1)) → (rg (x15_57 + 0) ∧ (rg (x16_57 + 1) ∧ (I58 (x15_57 + 0) (x16_57 + 1) ∧ μ59 (x15_57 + 0) (x16_57 + 1) < μ59 x15_57 x16_57))))))) ∧ ((¬ (x16_57 < (t_x 10))) → (∃ (I70 : Int → Prop) (μ71 : Int → Nat), I70 0 ∧ ∀ (x16_69 : Int), rg x16_69 → I70 x16_69 → (((x16_69 < (t_x 11)) → (∃ (g497 : SS) (g498 : Int), (Rep6 o_cu o_sv o_hs o_ol o_tt o_s0 o_s1 o_s2 o_s3 o_cs o_ln g497 g498) ∧ ((0 ≤ g498 ∧ g498 ≤ 600) ∧ (∀ (z505 : Int), rg z505 → (z505 = an_inMemory (g497.2 0) x16_69) → ((0 ≤ x16_69 ∧ x16_69 < 20) ∧ ((0 ≤ (m_x x16_69) ∧ (m_x x16_69) < 60) ∧ (((z505 = (k_x (m_x x16_69))) → (rg (x16_69 + 1) ∧ (I70 (x16_69 + 1) ∧ μ71 (x16_69 + 1) < μ71 x16_69))) ∧ ((¬ (z505 = (k_x (m_x x16_69)))) → (P 0))))))))) ∧ ((¬ (x16_69 < (t_x 11))) → (∃ (g81 : SS) (g82 : Int), (Rep6 o_cu o_sv o_hs o_ol o_tt o_s0 o_s1 o_s2 o_s3 o_cs o_ln g81 g82) ∧ ((0 ≤ g82 ∧ g82 ≤ 600) ∧ (∀ (z89 : Int), rg z89 → (z89 = an_inMemory (g81.2 0) (t_x 11)) → (((z89 = (-1)) → (∃ (g98 : SS) (g99 : Int), (Rep6 o_cu o_sv o_hs o_ol o_tt o_s0 o_s1 o_s2 o_s3 o_cs o_ln g98 g99) ∧ ((0 ≤ g99 ∧ g99 ≤ 600) ∧ (∀ (z106 : Int), rg z106 → (z106 = (g98.2 0) 2) → (((z106 = (t_x 2)) → (∃ (g115 : SS) (g116 : Int), (Rep6 o_cu o_sv o_hs o_ol o_tt o_s0 o_s1 o_s2 o_s3 o_cs o_ln g115 g116) ∧ ((0 ≤ g116 ∧ g116 ≤ 600) ∧ (∀ (z123 : Int), rg z123 → (z123 = (g115.2 0) 5) → (((z123 = (t_x 5)) → (∃ (g132 : SS) (g133 : Int), (Rep6 o_cu o_sv o_hs o_ol o_tt o_s0 o_s1 o_s2 o_s3 o_cs o_ln g132 g133) ∧ ((0 ≤ g133 ∧ g133 ≤ 600) ∧ (∀ (z140 : Int), rg z140 → (z140 = an_isDone (g132.2 0)) → (((((t_x 2) = 0) → ((((t_x 5) = 0) → ((((t_x 10) < 2) → (True)) ∧ ((¬ ((t_x 10) < 2)) → (True)))) ∧ ((¬ ((t_x 5) = 0)) → (True)))) ∧ ((¬ ((t_x 2) = 0)) → (True))) ∧ (((z140 = ((if (t_x 2) = 0 then (if (t_x 5) = 0 then (if (t_x 10) < 2 then 1 else 0) else 0) else 0) : Int)) → (∃ (g170 : SS) (g171 : Int), (Rep6 o_cu o_sv o_hs o_ol o_tt o_s0 o_s1 o_s2 o_s3 o_cs o_ln g170 g171) ∧ ((0 ≤ g171 ∧ g171 ≤ 600) ∧ (∀ (z178 : Int), rg z178 → (z178 = an_memory (g170.2 0) (0 : Int)) → (((z178 = (t_x 0)) → (∃ (g187 : SS) (g188 : Int), (Rep6 o_cu o_sv o_hs o_ol o_tt o_s0 o_s1 o_s2 o_s3 o_cs o_ln g187 g188) ∧ ((0 ≤ g188 ∧ g188 ≤ 600) ∧ (∀ (z195 : Int), rg z195 → (z195 = an_memory (g187.2 0) (1 : Int)) → (((((t_x 2) = 1) → (True)) ∧ ((¬ ((t_x 2) = 1)) → ((((t_x 5) = 1) → (rg ((kdZ l_x d_x (1 : Int) (t_x 10).toNat) + 1) ∧ (True))) ∧ ((¬ ((t_x 5) = 1)) → (True))))) ∧ (((z195 = ((if (t_x 2) = 1 then t_x 11 else (if (t_x 5) = 1 then (kdZ l_x d_x (1 : Int) (t_x 10).toNat) + 1 else 0)) : Int)) → (∃ (g222 : SS) (g223 : Int), (Rep6 o_cu o_sv o_hs o_ol o_tt o_s0 o_s1 o_s2 o_s3 o_cs o_ln g222 g223) ∧ ((0 ≤ g223 ∧ g223 ≤ 600) ∧ (∀ (z230 : Int), rg z230 → (z230 = an_memory (g222.2 0) (2 : Int)) → ((2 ≤ (t_x 0) ∧ (t_x 0) ≤ 20) ∧ (((z230 = (waysZ (t_x 0))) → (∃ (g244 : SS) (g245 : Int), (Rep6 o_cu o_sv o_hs o_ol o_tt o_s0 o_s1 o_s2 o_s3 o_cs o_ln g244 g245) ∧ ((0 ≤ g245 ∧ g245 ≤ 600) ∧ (∀ (z252 : Int), rg z252 → (z252 = an_rank (g244.2 0) z34) → (((z252 = x12_38) → (∃ (g261 : SS) (g262 : Int), (Rep6 o_cu o_sv o_hs o_ol o_tt o_s0 o_s1 o_s2 o_s3 o_cs o_ln g261 g262) ∧ ((0 ≤ g262 ∧ g262 ≤ 600) ∧ (∀ (z269 : Int), rg z269 → (z269 = an_count (g261.2 0) (0 : Int)) → (((z269 = (t_x 3)) → (∃ (g278 : SS) (g279 : Int), (Rep6 o_cu o_sv o_hs o_ol o_tt o_s0 o_s1 o_s2 o_s3 o_cs o_ln g278 g279) ∧ ((0 ≤ g279 ∧ g279 ≤ 600) ∧ (∀ (z286 : Int), rg z286 → (z286 = an_count (g278.2 0) (1 : Int)) → (((z286 = ((sumI l_x ((t_x 10)).toNat) + (t_x 11))) → (∃ (g295 : SS) (g296 : Int), (Rep6 o_cu o_sv o_hs o_ol o_tt o_s0 o_s1 o_s2 o_s3 o_cs o_ln g295 g296) ∧ ((0 ≤ g296 ∧ g296 ≤ 600) ∧ (∀ (z303 : Int), rg z303 → (z303 = an_count (g295.2 0) (2 : Int)) → (((z303 = x11_38) → (∃ (g312 : SS) (g313 : Int), (Rep6 o_cu o_sv o_hs o_ol o_tt o_s0 o_s1 o_s2 o_s3 o_cs o_ln g312 g313) ∧ ((0 ≤ g313 ∧ g313 ≤ 600) ∧ (∀ (z320 : Int), rg z320 → (z320 = an_count (g312.2 0) (3 : Int)) → (((z320 = (t_x 7)) → (∃ (g329 : SS) (g330 : Int), (Rep6 o_cu o_sv o_hs o_ol o_tt o_s0 o_s1 o_s2 o_s3 o_cs o_ln g329 g330) ∧ ((0 ≤ g330 ∧ g330 ≤ 600) ∧ (∀ (z337 : Int), rg z337 → (z337 = an_count (g329.2 0) (4 : Int)) → (((z337 = (t_x 8)) → (∃ (g346 : SS) (g347 : Int), (Rep6 o_cu o_sv o_hs o_ol o_tt o_s0 o_s1 o_s2 o_s3 o_cs o_ln g346 g347) ∧ ((0 ≤ g347 ∧ g347 ≤ 600) ∧ (∀ (z354 : Int), rg z354 → (z354 = an_count (g346.2 0) (5 : Int)) → (((z354 = (t_x 9)) → (∃ (g363 : SS) (g364 : Int), (Rep6 o_cu o_sv o_hs o_ol o_tt o_s0 o_s1 o_s2 o_s3 o_cs o_ln g363 g364) ∧ ((0 ≤ g364 ∧ g364 ≤ 600) ∧ (∀ (z371 : Int), rg z371 → (z371 = an_count (g363.2 0) (6 : Int)) → (((z371 = (t_x 4)) → (∃ (g380 : SS) (g381 : Int), (Rep6 o_cu o_sv o_hs o_ol o_tt o_s0 o_s1 o_s2 o_s3 o_cs o_ln g380 g381) ∧ ((0 ≤ g381 ∧ g381 ≤ 600) ∧ (∀ (z388 : Int), rg z388 → (z388 = an_ofMerge (g380.2 0) (0 : Int)) → (((((t_x 5) = 1) → (True)) ∧ ((¬ ((t_x 5) = 1)) → (True))) ∧ (((z388 = ((if (t_x 5) = 1 then t_x 6 else (-6)) : Int)) → (∃ (g408 : SS) (g409 : Int), (Rep6 o_cu o_sv o_hs o_ol o_tt o_s0 o_s1 o_s2 o_s3 o_cs o_ln g408 g409) ∧ ((0 ≤ g409 ∧ g409 ≤ 600) ∧ (∀ (z416 : Int), rg z416 → (z416 = an_ofMerge (g408.2 0) (1 : Int)) → (((((t_x 5) = 1) → (True)) ∧ ((¬ ((t_x 5) = 1)) → (True))) ∧ (((z416 = ((if (t_x 5) = 1 then kdZ l_x d_x (1 : Int) (t_x 10).toNat else (-6)) : Int)) → (∃ (g436 : SS) (g437 : Int), (Rep6 o_cu o_sv o_hs o_ol o_tt o_s0 o_s1 o_s2 o_s3 o_cs o_ln g436 g437) ∧ ((0 ≤ g437 ∧ g437 ≤ 600) ∧ (∀ (z444 : Int), rg z444 → (z444 = an_ofMerge (g436.2 0) (2 : Int)) → (((((t_x 5) = 1) → (rg ((t_x 10) - 1) ∧ ((0 ≤ ((t_x 10) - 1) ∧ ((t_x 10) - 1) < 64) ∧ (True)))) ∧ ((¬ ((t_x 5) = 1)) → (True))) ∧ (((z444 = ((if (t_x 5) = 1 then l_x ((t_x 10) - 1) else (-6)) : Int)) → (∃ (g468 : SS) (g469 : Int), (Rep6 o_cu o_sv o_hs o_ol o_tt o_s0 o_s1 o_s2 o_s3 o_cs o_ln g468 g469) ∧ ((0 ≤ g469 ∧ g469 ≤ 600) ∧ (∀ (z476 : Int), rg z476 → (z476 = an_ofMerge (g468.2 0) (3 : Int)) → (((((t_x 5) = 1) → (True)) ∧ ((¬ ((t_x 5) = 1)) → (True))) ∧ (((z476 = ((if (t_x 5) = 1 then x15_57 else (-6)) : Int)) → (P 1)) ∧ ((¬ (z476 = ((if (t_x 5) = 1 then x15_57 else (-6)) : Int))) → (P 0)))))))) ∧ ((¬ (z444 = ((if (t_x 5) = 1 then l_x ((t_x 10) - 1) else (-6)) : Int))) → (P 0)))))))) ∧ ((¬ (z416 = ((if (t_x 5) = 1 then kdZ l_x d_x (1 : Int) (t_x 10).toNat else (-6)) : Int))) → (P 0)))))))) ∧ ((¬ (z388 = ((if (t_x 5) = 1 then t_x 6 else (-6)) : Int))) → (P 0)))))))) ∧ ((¬ (z371 = (t_x 4))) → (P 0))))))) ∧ ((¬ (z354 = (t_x 9))) → (P 0))))))) ∧ ((¬ (z337 = (t_x 8))) → (P 0))))))) ∧ ((¬ (z320 = (t_x 7))) → (P 0))))))) ∧ ((¬ (z303 = x11_38)) → (P 0))))))) ∧ ((¬ (z286 = ((sumI l_x ((t_x 10)).toNat) + (t_x 11)))) → (P 0))))))) ∧ ((¬ (z269 = (t_x 3))) → (P 0))))))) ∧ ((¬ (z252 = x12_38)) → (P 0))))))) ∧ ((¬ (z230 = (waysZ (t_x 0)))) → (P 0)))))))) ∧ ((¬ (z195 = ((if (t_x 2) = 1 then t_x 11 else (if (t_x 5) = 1 then (kdZ l_x d_x (1 : Int) (t_x 10).toNat) + 1 else 0)) : Int))) → (P 0)))))))) ∧ ((¬ (z178 = (t_x 0))) → (P 0))))))) ∧ ((¬ (z140 = ((if (t_x 2) = 0 then (if (t_x 5) = 0 then (if (t_x 10) < 2 then 1 else 0) else 0) else 0) : Int))) → (P 0)))))))) ∧ ((¬ (z123 = (t_x 5))) → (P 0))))))) ∧ ((¬ (z106 = (t_x 2))) → (P 0))))))) ∧ ((¬ (z89 = (-1))) → (P 0)))))))))))))))))))))))))
set_option maxRecDepth 100000 in
set_option maxHeartbeats 4000000 in
theorem sp_L_tells (o_cu : SS) (o_fo : SS) (o_sv : SS) (o_hs : Int) (o_ol : Int) (o_tt : Int) (o_s0 : SS) (o_s1 : SS) (o_s2 : SS) (o_s3 : SS) (o_cs : Int → Int) (o_ln : Int) (o_kd : Int) (o_fk : Int) (o_hd : Int) (o_va : Int) (o_le : Int) (o_mo : Int) (f_x : Int → Int) (n_x : Int → Int) (l_x : Int → Int) (d_x : Int → Int) (m_x : Int → Int) (k_x : Int → Int) (c_x : Int → Int) (t_x : Int → Int) (x : Int) (mm : SS) (nn : Int) (r_o_cu : RG o_cu) (r_o_fo : RG o_fo) (r_o_sv : RG o_sv) (r_o_hs : rg o_hs) (r_o_ol : rg o_ol) (r_o_tt : rg o_tt) (r_o_s0 : RG o_s0) (r_o_s1 : RG o_s1) (r_o_s2 : RG o_s2) (r_o_s3 : RG o_s3) (r_o_cs : rgA o_cs) (r_o_ln : rg o_ln) (r_o_kd : rg o_kd) (r_o_fk : rg o_fk) (r_o_hd : rg o_hd) (r_o_va : rg o_va) (r_o_le : rg o_le) (r_o_mo : rg o_mo) (r_f_x : rgA f_x) (r_n_x : rgA n_x) (r_l_x : rgA l_x) (r_d_x : rgA d_x) (r_m_x : rgA m_x) (r_k_x : rgA k_x) (r_c_x : rgA c_x) (r_t_x : rgA t_x) (r_x : rg x) (p0 : Rep6 o_cu o_sv o_hs o_ol o_tt o_s0 o_s1 o_s2 o_s3 o_cs o_ln mm nn) (p1 : 0 ≤ nn ∧ nn ≤ 600) (p2 : LV f_x n_x l_x d_x m_x k_x t_x (mm.2 0)) (p3 : LC c_x (mm.2 0)) : wp_L_tells o_cu o_fo o_sv o_hs o_ol o_tt o_s0 o_s1 o_s2 o_s3 o_cs o_ln o_kd o_fk o_hd o_va o_le o_mo f_x n_x l_x d_x m_x k_x c_x t_x x (fun r => r = 1) := by
  unfold wp_L_tells
  have hV : Vz (mm.2 0) := p0.1.2.1
  have hb := hV.1
  have hz3 := hb.1
  have hz4 := hb.2.2.1
  have h120 := hb.2.1
  have hS := LV_sum hb p2
  have p2' := p2
  obtain ⟨⟨t0, t1, t2, t3, t4, t5, t7, t8, t9, t6⟩, hk, hm, hF, hX, hT, h56⟩ := p2'
  have hV' := hV
  obtain ⟨_, ⟨v0, v1, v2, v5, v6, v7, v8, v9⟩, vR, vS, vc, vm, vo, vi, _, _⟩ := hV'
  have hm0 := hm.1
  have hr := RMm_len hm hz3
  have rng := LF_rng hF (show sumI l_x (t_x 10).toNat ≤ 60 by omega)
  have kd := LF_kinds hb hF (kind := 1) (Or.inr rfl)
  have m1 := runs_rows (kind := 1) hb
  have m1n := (manyZ_nn (z := mm.2 0) (k := 1) hz4).1
  have hlf := LF_left hb hF
  have all0 := (sumI_0n hF.1 hT.1 (Int.le_refl _)).1
  have cr : ∀ r, 0 ≤ r → r < t_x 3 → c_x r = mm.2 0 (130 + r) ∧ 0 ≤ c_x r ∧ c_x r ≤ 120 := fun r a b => by
    have h1 := p3 r a (by omega)
    have h2 := Vz.cnt hV r a (by omega)
    omega
  refine ⟨by omega, fun i a b => by have := rng i a b; omega, by unfold rg; omega, fun q rq => ⟨by decide, fun z1 r1 h1 => ⟨⟨fun _ => trivial, fun _ => trivial⟩, by split <;> omega, fun key rk hk1 => ?_⟩⟩⟩
  have hkey : 0 ≤ key ∧ key ≤ 999 := by split at hk1 <;> omega
  refine ⟨fun co ra r => (0 ≤ r ∧ r ≤ t_x 3) ∧ (co = sumI (fun r => mm.2 0 (130 + r)) r.toNat ∧ 0 ≤ co ∧ co ≤ 120 * r) ∧ (ra = sumI (fun r => if mm.2 0 (10 + r) < key then mm.2 0 (130 + r) else 0) r.toNat ∧ 0 ≤ ra ∧ ra ≤ 120 * r), fun _ _ r => (t_x 3 - r).toNat, ⟨by omega, ⟨rfl, by omega, by omega⟩, ⟨rfl, by omega, by omega⟩⟩, ?_⟩
  intro co ra r rco rra rr ⟨r0, ⟨hco, c0, c1⟩, ⟨hra, a0, a1⟩⟩
  refine ⟨fun e1 => ?_, fun e1 => ?_⟩
  · obtain ⟨x1, x2, x3⟩ := cr r r0.1 e1
    have s1 : sumI (fun r => mm.2 0 (130 + r)) (r + 1).toNat = sumI (fun r => mm.2 0 (130 + r)) r.toNat + mm.2 0 (130 + r) := sumI_S r0.1
    have s2 : sumI (fun r => if mm.2 0 (10 + r) < key then mm.2 0 (130 + r) else 0) (r + 1).toNat = sumI (fun r => if mm.2 0 (10 + r) < key then mm.2 0 (130 + r) else 0) r.toNat + (if mm.2 0 (10 + r) < key then mm.2 0 (130 + r) else 0) := sumI_S r0.1
    have kr : k_x r = mm.2 0 (10 + r) := hk r r0.1 (by omega)
    refine ⟨by omega, by unfold rg; omega, fun e2 => ?_, fun e2 => ?_⟩
    · rw [if_pos (by omega)] at s2
      exact ⟨by unfold rg; omega, by unfold rg; omega, ⟨by omega, ⟨by omega, by omega, by omega⟩, ⟨by omega, by omega, by omega⟩⟩, by dsimp only; omega⟩
    · rw [if_neg (by omega)] at s2
      exact ⟨by unfold rg; omega, by unfold rg; omega, ⟨by omega, ⟨by omega, by omega, by omega⟩, ⟨by omega, by omega, by omega⟩⟩, by dsimp only; omega⟩
  have er : r = mm.2 0 3 := by omega
  rw [er] at hco hra
  refine ⟨by omega, rfl, fun le i => (0 ≤ i ∧ i ≤ t_x 10) ∧ le = sumI (fun i => if d_x i = 1 then l_x i else 0) i.toNat ∧ 0 ≤ le ∧ le ≤ 60 * i, fun _ i => (t_x 10 - i).toNat, ⟨by omega, rfl, by omega, by omega⟩, ?_⟩
  intro le i rle ri ⟨i0, hle, l0, l1⟩
  refine ⟨fun e2 => ?_, fun e2 => ?_⟩
  · have s1 : sumI (fun i => if d_x i = 1 then l_x i else 0) (i + 1).toNat = sumI (fun i => if d_x i = 1 then l_x i else 0) i.toNat + (if d_x i = 1 then l_x i else 0) := sumI_S i0.1
    have rn := rng i i0.1 e2
    refine ⟨by omega, fun e3 => ?_, fun e3 => ?_⟩
    · rw [if_pos e3] at s1
      exact ⟨by unfold rg; omega, by unfold rg; omega, ⟨by omega, by omega, by omega, by omega⟩, by dsimp only; omega⟩
    · rw [if_neg e3] at s1
      exact ⟨by unfold rg; omega, by unfold rg; omega, ⟨by omega, by omega, by omega, by omega⟩, by dsimp only; omega⟩
  have ei : i = t_x 10 := by omega
  rw [ei, hlf] at hle
  refine ⟨fun i => 0 ≤ i ∧ i ≤ t_x 11, fun i => (t_x 11 - i).toNat, ⟨by omega, by omega⟩, ?_⟩
  intro i2 ri2 i20
  refine ⟨fun e3 => ?_, fun e3 => ?_⟩
  · obtain ⟨y1, y2, y3⟩ := hm.2.1 i2 i20.1 e3
    exact ⟨mm, nn, p0, p1, fun z2 r2 e4 => ⟨by omega, by omega, fun _ => ⟨by unfold rg; omega, ⟨by omega, by omega⟩, by dsimp only; omega⟩, fun q => absurd (e4.trans (im_at hb hk hm ⟨i20.1, e3⟩)) q⟩⟩
  have xd : an_isDone (mm.2 0) = (if t_x 2 = 0 then (if t_x 5 = 0 then (if t_x 10 < 2 then 1 else 0) else 0) else 0) := by
    unfold an_isDone
    by_cases w2 : t_x 2 = 0
    · rw [if_pos w2]
      by_cases w5 : t_x 5 = 0
      · rw [if_pos w5]
        have := LV_runs hb p2 (by omega)
        by_cases w10 : t_x 10 < 2
        · rw [if_pos w10, pz_t (by omega)]
        · rw [if_neg w10, pz_f (by omega)]
      · rw [if_neg w5, pz_f (by omega)]
    · rw [if_neg w2, pz_f (by omega)]
  have xm : an_memory (mm.2 0) 1 = (if t_x 2 = 1 then t_x 11 else (if t_x 5 = 1 then kdZ l_x d_x (1 : Int) (t_x 10).toNat + 1 else 0)) := by
    unfold an_memory
    rw [if_neg (by decide), if_pos rfl, t2, t5, hr, kd]
  have hout : t_x 5 = 1 → 0 < t_x 10 ∧ l_x (t_x 10 - 1) = rowsAt (mm.2 0) 2 := fun q => by
    obtain ⟨x1, x2, x3⟩ := hX.2 (by omega)
    refine ⟨x1, ?_⟩
    have l0 := hF.1 (t_x 10 - 1) (by omega) (by omega)
    by_cases w : 0 < l_x (t_x 10 - 1)
    · have := LF_len hF hz3 (i := t_x 10 - 1) (by omega) w
      rw [pF_2 x2] at this
      exact this.symm
    · have hl := (LF_last hb hF x1 x2 (fun i a b => by rcases x3 i a b with w | ⟨w, _⟩ <;> omega)).1
      rcases loV_spec (z := mm.2 0) hz3 with ⟨_, s2⟩ | ⟨s1, _⟩
      · omega
      · exact absurd (hl.mp (by omega)) w
  have xo : ∀ part v, (0 ≤ part ∧ part ≤ 3) → (t_x 5 = 1 → (if part = 0 then mm.2 0 6 else if part = 1 then manyZ (mm.2 0) 1 else if part = 2 then rowsAt (mm.2 0) 2 else riZ (mm.2 0)) = v) → an_ofMerge (mm.2 0) part = (if t_x 5 = 1 then v else -6) := fun part v hp hv => by
    unfold an_ofMerge
    rw [if_neg (fun q => q hp)]
    by_cases w : t_x 5 = 1
    · rw [if_pos w, if_neg (by omega)]; exact hv w
    · rw [if_neg w, if_pos (by omega)]
  refine ⟨mm, nn, p0, p1, fun z2 r2 e2 => ⟨fun _ => ?_, fun q => absurd (e2.trans (im_no hb hm)) q⟩⟩
  refine ⟨mm, nn, p0, p1, fun z3 r3 e3 => ⟨fun _ => ?_, fun q => absurd (e3.trans (t2.symm)) q⟩⟩
  refine ⟨mm, nn, p0, p1, fun z4 r4 e4 => ⟨fun _ => ?_, fun q => absurd (e4.trans (t5.symm)) q⟩⟩
  refine ⟨mm, nn, p0, p1, fun z5 r5 e5 => ⟨⟨fun _ => ⟨fun _ => ⟨fun _ => trivial, fun _ => trivial⟩, fun _ => trivial⟩, fun _ => trivial⟩, fun _ => ?_, fun q => absurd (e5.trans (xd)) q⟩⟩
  refine ⟨mm, nn, p0, p1, fun z6 r6 e6 => ⟨fun _ => ?_, fun q => absurd (e6.trans (show an_memory (mm.2 0) 0 = t_x 0 by unfold an_memory; rw [if_pos rfl, t0])) q⟩⟩
  refine ⟨mm, nn, p0, p1, fun z7 r7 e7 => ⟨⟨fun _ => trivial, fun _ => ⟨fun _ => ⟨by rw [kd]; unfold rg; omega, trivial⟩, fun _ => trivial⟩⟩, fun _ => ?_, fun q => absurd (e7.trans (xm)) q⟩⟩
  refine ⟨mm, nn, p0, p1, fun z8 r8 e8 => ⟨by omega, fun _ => ?_, fun q => absurd (e8.trans (show an_memory (mm.2 0) 2 = waysZ (t_x 0) by unfold an_memory; rw [if_neg (by decide), if_neg (by decide), if_pos rfl, t0])) q⟩⟩
  refine ⟨mm, nn, p0, p1, fun z9 r9 e9 => ⟨fun _ => ?_, fun q => absurd (e9.trans (show an_rank (mm.2 0) key = ra by unfold an_rank; rw [if_pos hkey, hra]; rfl)) q⟩⟩
  refine ⟨mm, nn, p0, p1, fun z10 r10 e10 => ⟨fun _ => ?_, fun q => absurd (e10.trans (show an_count (mm.2 0) 0 = _ from t3.symm)) q⟩⟩
  refine ⟨mm, nn, p0, p1, fun z11 r11 e11 => ⟨fun _ => ?_, fun q => absurd (e11.trans (show an_count (mm.2 0) 1 = _ from hS.2.symm)) q⟩⟩
  refine ⟨mm, nn, p0, p1, fun z12 r12 e12 => ⟨fun _ => ?_, fun q => absurd (e12.trans (show an_count (mm.2 0) 2 = _ from show belZ (mm.2 0) 1000 = co by rw [bel_all vR, hco])) q⟩⟩
  refine ⟨mm, nn, p0, p1, fun z13 r13 e13 => ⟨fun _ => ?_, fun q => absurd (e13.trans (show an_count (mm.2 0) 3 = _ from t7.symm)) q⟩⟩
  refine ⟨mm, nn, p0, p1, fun z14 r14 e14 => ⟨fun _ => ?_, fun q => absurd (e14.trans (show an_count (mm.2 0) 4 = _ from t8.symm)) q⟩⟩
  refine ⟨mm, nn, p0, p1, fun z15 r15 e15 => ⟨fun _ => ?_, fun q => absurd (e15.trans (show an_count (mm.2 0) 5 = _ from t9.symm)) q⟩⟩
  refine ⟨mm, nn, p0, p1, fun z16 r16 e16 => ⟨fun _ => ?_, fun q => absurd (e16.trans (show an_count (mm.2 0) 6 = _ from t4.symm)) q⟩⟩
  refine ⟨mm, nn, p0, p1, fun z17 r17 e17 => ⟨⟨fun _ => trivial, fun _ => trivial⟩, fun _ => ?_, fun q => absurd (e17.trans (xo 0 (t_x 6) (by decide) (fun w => by rw [if_pos rfl]; exact (t6 (by omega)).symm))) q⟩⟩
  refine ⟨mm, nn, p0, p1, fun z18 r18 e18 => ⟨⟨fun _ => trivial, fun _ => trivial⟩, fun _ => ?_, fun q => absurd (e18.trans (xo 1 _ (by decide) (fun w => by rw [if_neg (by decide), if_pos rfl]; exact kd.symm))) q⟩⟩
  refine ⟨mm, nn, p0, p1, fun z19 r19 e19 => ⟨⟨fun w => ⟨by unfold rg; omega, by have := (hout w).1; omega, trivial⟩, fun _ => trivial⟩, fun _ => ?_, fun q => absurd (e19.trans (xo 2 _ (by decide) (fun w => by rw [if_neg (by decide), if_neg (by decide), if_pos rfl]; exact (hout w).2.symm))) q⟩⟩
  exact ⟨mm, nn, p0, p1, fun z20 r20 e20 => ⟨⟨fun _ => trivial, fun _ => trivial⟩, fun _ => rfl, fun q => absurd (e20.trans (xo 3 _ (by decide) (fun w => by rw [if_neg (by decide), if_neg (by decide), if_neg (by decide)]; exact hle.symm))) q⟩⟩
