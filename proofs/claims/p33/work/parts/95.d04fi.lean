def wp_L_files (o_cu : SS) (o_fo : SS) (o_sv : SS) (o_hs : Int) (o_ol : Int) (o_tt : Int) (o_s0 : SS) (o_s1 : SS) (o_s2 : SS) (o_s3 : SS) (o_cs : Int → Int) (o_ln : Int) (o_kd : Int) (o_fk : Int) (o_hd : Int) (o_va : Int) (o_le : Int) (o_mo : Int) (f_x : Int → Int) (n_x : Int → Int) (l_x : Int → Int) (d_x : Int → Int) (k_x : Int → Int) (c_x : Int → Int) (t_x : Int → Int) (x : Int) (P : Int → Prop) : Prop :=
  (0 ≤ t_x 10 ∧ t_x 10 ≤ 64) ∧ (((1 : Int) = 1) ∧ (∃ (I9 : Int → Int → Prop) (μ10 : Int → Int → Nat), I9 (-1) 0 ∧ ∀ (x10_8 : Int) (x11_8 : Int), rg x10_8 → rg x11_8 → I9 x10_8 x11_8 → (((x11_8 < (kdZ l_x d_x (0 : Int) (t_x 10).toNat)) → (∃ (I73 : Int → Int → Prop) (μ74 : Int → Int → Nat), I73 (-1) 0 ∧ ∀ (x12_72 : Int) (x13_72 : Int), rg x12_72 → rg x13_72 → I73 x12_72 x13_72 → (((x13_72 < (t_x 10)) → ((0 ≤ x13_72 ∧ x13_72 < 64) ∧ ((((d_x x13_72) = 0) → (((x10_8 < (n_x x13_72)) → (((x12_72 < 0) → (rg (x13_72 + 1) ∧ (I73 x13_72 (x13_72 + 1) ∧ μ74 x13_72 (x13_72 + 1) < μ74 x12_72 x13_72))) ∧ ((¬ (x12_72 < 0)) → ((0 ≤ x12_72 ∧ x12_72 < 64) ∧ ((((n_x x13_72) < (n_x x12_72)) → (rg (x13_72 + 1) ∧ (I73 x13_72 (x13_72 + 1) ∧ μ74 x13_72 (x13_72 + 1) < μ74 x12_72 x13_72))) ∧ ((¬ ((n_x x13_72) < (n_x x12_72))) → (rg (x13_72 + 1) ∧ (I73 x12_72 (x13_72 + 1) ∧ μ74 x12_72 (x13_72 + 1) < μ74 x12_72 x13_72)))))))) ∧ ((¬ (x10_8 < (n_x x13_72))) → (rg (x13_72 + 1) ∧ (I73 x12_72 (x13_72 + 1) ∧ μ74 x12_72 (x13_72 + 1) < μ74 x12_72 x13_72))))) ∧ ((¬ ((d_x x13_72) = 0)) → (rg (x13_72 + 1) ∧ (I73 x12_72 (x13_72 + 1) ∧ μ74 x12_72 (x13_72 + 1) < μ74 x12_72 x13_72)))))) ∧ ((¬ (x13_72 < (t_x 10))) → ((0 ≤ x12_72 ∧ x12_72 < 64) ∧ (∃ (g86 : SS) (g87 : Int), (Rep6 o_cu o_sv o_hs o_ol o_tt o_s0 o_s1 o_s2 o_s3 o_cs o_ln g86 g87) ∧ ((0 ≤ g87 ∧ g87 ≤ 600) ∧ (∀ (z94 : Int), rg z94 → (z94 = raZ (g86.2 0) x11_8 ((g86.2 0) 4).toNat) → (((z94 = (n_x x12_72)) → (∃ (g103 : SS) (g104 : Int), (Rep6 o_cu o_sv o_hs o_ol o_tt o_s0 o_s1 o_s2 o_s3 o_cs o_ln g103 g104) ∧ ((0 ≤ g104 ∧ g104 ≤ 600) ∧ (∀ (z111 : Int), rg z111 → (z111 = an_size (g103.2 0) (n_x x12_72)) → (((z111 = (l_x x12_72)) → ((0 < (l_x x12_72)) ∧ (∀ (z122 : Int), rg z122 → (0 ≤ z122 ∧ z122 < (l_x x12_72)) → ((0 ≤ x12_72 ∧ x12_72 ≤ 64) ∧ ((∀ i, 0 ≤ i → i < x12_72 → 0 ≤ l_x i ∧ l_x i ≤ 60) ∧ (rg ((sumI l_x (x12_72).toNat) + z122) ∧ ((0 ≤ ((sumI l_x (x12_72).toNat) + z122) ∧ ((sumI l_x (x12_72).toNat) + z122) < 60) ∧ (∃ (g137 : SS) (g138 : Int), (Rep6 o_cu o_sv o_hs o_ol o_tt o_s0 o_s1 o_s2 o_s3 o_cs o_ln g137 g138) ∧ ((0 ≤ g138 ∧ g138 ≤ 600) ∧ (∀ (z145 : Int), rg z145 → (z145 = an_row (g137.2 0) (n_x x12_72) z122 (0 : Int)) → ((0 ≤ (f_x ((sumI l_x (x12_72).toNat) + z122)) ∧ (f_x ((sumI l_x (x12_72).toNat) + z122)) < 60) ∧ (((z145 = (k_x (f_x ((sumI l_x (x12_72).toNat) + z122)))) → (∃ (g156 : SS) (g157 : Int), (Rep6 o_cu o_sv o_hs o_ol o_tt o_s0 o_s1 o_s2 o_s3 o_cs o_ln g156 g157) ∧ ((0 ≤ g157 ∧ g157 ≤ 600) ∧ (∀ (z164 : Int), rg z164 → (z164 = an_row (g156.2 0) (n_x x12_72) z122 (1 : Int)) → (((z164 = (f_x ((sumI l_x (x12_72).toNat) + z122))) → (∃ (g173 : SS) (g174 : Int), (Rep6 o_cu o_sv o_hs o_ol o_tt o_s0 o_s1 o_s2 o_s3 o_cs o_ln g173 g174) ∧ ((0 ≤ g174 ∧ g174 ≤ 600) ∧ (∀ (z181 : Int), rg z181 → (z181 = an_row (g173.2 0) (n_x x12_72) z122 (2 : Int)) → (((z181 = (c_x (f_x ((sumI l_x (x12_72).toNat) + z122)))) → (∃ (g190 : SS) (g191 : Int), (Rep6 o_cu o_sv o_hs o_ol o_tt o_s0 o_s1 o_s2 o_s3 o_cs o_ln g190 g191) ∧ ((0 ≤ g191 ∧ g191 ≤ 600) ∧ (∀ (z198 : Int), rg z198 → (z198 = an_row (g190.2 0) (n_x x12_72) (l_x x12_72) (0 : Int)) → (((z198 = (-1)) → (rg (x11_8 + 1) ∧ (I9 (n_x x12_72) (x11_8 + 1) ∧ μ10 (n_x x12_72) (x11_8 + 1) < μ10 x10_8 x11_8))) ∧ ((¬ (z198 = (-1))) → (P 0))))))) ∧ ((¬ (z181 = (c_x (f_x ((sumI l_x (x12_72).toNat) + z122))))) → (P 0))))))) ∧ ((¬ (z164 = (f_x ((sumI l_x (x12_72).toNat) + z122)))) → (P 0))))))) ∧ ((¬ (z145 = (k_x (f_x ((sumI l_x (x12_72).toNat) + z122))))) → (P 0)))))))))))))) ∧ ((¬ (z111 = (l_x x12_72))) → (P 0))))))) ∧ ((¬ (z94 = (n_x x12_72))) → (P 0))))))))))) ∧ ((¬ (x11_8 < (kdZ l_x d_x (0 : Int) (t_x 10).toNat))) → (∃ (g20 : SS) (g21 : Int), (Rep6 o_cu o_sv o_hs o_ol o_tt o_s0 o_s1 o_s2 o_s3 o_cs o_ln g20 g21) ∧ ((0 ≤ g21 ∧ g21 ≤ 600) ∧ (∀ (z28 : Int), rg z28 → (z28 = manyZ (g20.2 0) 0) → (((z28 = (kdZ l_x d_x (0 : Int) (t_x 10).toNat)) → (∃ (g37 : SS) (g38 : Int), (Rep6 o_cu o_sv o_hs o_ol o_tt o_s0 o_s1 o_s2 o_s3 o_cs o_ln g37 g38) ∧ ((0 ≤ g38 ∧ g38 ≤ 600) ∧ (∀ (z45 : Int), rg z45 → (z45 = raZ (g37.2 0) (kdZ l_x d_x (0 : Int) (t_x 10).toNat) ((g37.2 0) 4).toNat) → (((z45 = (-1)) → (∃ (g54 : SS) (g55 : Int), (Rep6 o_cu o_sv o_hs o_ol o_tt o_s0 o_s1 o_s2 o_s3 o_cs o_ln g54 g55) ∧ ((0 ≤ g55 ∧ g55 ≤ 600) ∧ (∀ (z62 : Int), rg z62 → (z62 = raZ (g54.2 0) (-1 : Int) ((g54.2 0) 4).toNat) → (((z62 = (-1)) → (P 1)) ∧ ((¬ (z62 = (-1))) → (P 0))))))) ∧ ((¬ (z45 = (-1))) → (P 0))))))) ∧ ((¬ (z28 = (kdZ l_x d_x (0 : Int) (t_x 10).toNat))) → (P 0))))))))))
set_option maxHeartbeats 1000000 in
theorem sp_L_files (o_cu : SS) (o_fo : SS) (o_sv : SS) (o_hs : Int) (o_ol : Int) (o_tt : Int) (o_s0 : SS) (o_s1 : SS) (o_s2 : SS) (o_s3 : SS) (o_cs : Int → Int) (o_ln : Int) (o_kd : Int) (o_fk : Int) (o_hd : Int) (o_va : Int) (o_le : Int) (o_mo : Int) (f_x : Int → Int) (n_x : Int → Int) (l_x : Int → Int) (d_x : Int → Int) (k_x : Int → Int) (c_x : Int → Int) (t_x : Int → Int) (x : Int) (mm : SS) (nn : Int) (mg : Int → Int) (r_o_cu : RG o_cu) (r_o_fo : RG o_fo) (r_o_sv : RG o_sv) (r_o_hs : rg o_hs) (r_o_ol : rg o_ol) (r_o_tt : rg o_tt) (r_o_s0 : RG o_s0) (r_o_s1 : RG o_s1) (r_o_s2 : RG o_s2) (r_o_s3 : RG o_s3) (r_o_cs : rgA o_cs) (r_o_ln : rg o_ln) (r_o_kd : rg o_kd) (r_o_fk : rg o_fk) (r_o_hd : rg o_hd) (r_o_va : rg o_va) (r_o_le : rg o_le) (r_o_mo : rg o_mo) (r_f_x : rgA f_x) (r_n_x : rgA n_x) (r_l_x : rgA l_x) (r_d_x : rgA d_x) (r_k_x : rgA k_x) (r_c_x : rgA c_x) (r_t_x : rgA t_x) (r_x : rg x) (p0 : Rep6 o_cu o_sv o_hs o_ol o_tt o_s0 o_s1 o_s2 o_s3 o_cs o_ln mm nn) (p1 : 0 ≤ nn ∧ nn ≤ 600) (p2 : LV f_x n_x l_x d_x mg k_x t_x (mm.2 0)) (p3 : LC c_x (mm.2 0)) : wp_L_files o_cu o_fo o_sv o_hs o_ol o_tt o_s0 o_s1 o_s2 o_s3 o_cs o_ln o_kd o_fk o_hd o_va o_le o_mo f_x n_x l_x d_x k_x c_x t_x x (fun r => r = 1) := by
  unfold wp_L_files
  have hV : Vz (mm.2 0) := p0.1.2.1
  have hb := hV.1
  have hz3 := hb.1
  have hz4 := hb.2.2.1
  have h120 := hb.2.1
  have hS := (LV_sum hb p2).1
  have p2' := p2
  obtain ⟨⟨t0, t1, t2, t3, t4, t5, t7, t8, t9, t6⟩, hk, hm, hF, hX, hT, h56⟩ := p2'
  have hm0 := hm.1
  have v5 : mm.2 0 5 = 0 ∨ mm.2 0 5 = 1 := hV.2.1.2.2.2.1
  have d0 : ∀ j, 0 ≤ j → j < t_x 10 → d_x j = 0 → 0 < l_x j := fun j a b e => LV_d0 p2 v5 ⟨a, b⟩ e
  have rng := LF_rng hF (show sumI l_x (t_x 10).toNat ≤ 60 by omega)
  have kd := LF_kinds hb hF (kind := 0) (Or.inl rfl)
  have mle := runs_rows (kind := 0) hb
  have mnn := (manyZ_nn (z := mm.2 0) (k := 0) hz4).1
  refine ⟨by omega, rfl, ?_⟩
  rw [kd]
  refine ⟨fun had i => ((0 ≤ i ∧ i ≤ manyZ (mm.2 0) 0) ∧ -1 ≤ had ∧ had < mm.2 0 4) ∧ cnR (mm.2 0) (had + 1) = i, fun _ i => (manyZ (mm.2 0) 0 - i).toNat, ⟨by omega, rfl⟩, ?_⟩
  intro had i rh ri ⟨⟨i0, h0, h1⟩, hc⟩
  refine ⟨fun c1 => ?_, fun c1 => ?_⟩
  · refine ⟨fun nx j => (0 ≤ j ∧ j ≤ t_x 10) ∧ ((nx = -1 ∧ ∀ q, 0 ≤ q → q < j → d_x q = 0 → ¬ had < n_x q) ∨ ((0 ≤ nx ∧ nx < j) ∧ d_x nx = 0 ∧ had < n_x nx ∧ ∀ q, 0 ≤ q → q < j → d_x q = 0 → had < n_x q → n_x nx ≤ n_x q)), fun _ j => (t_x 10 - j).toNat, ⟨by omega, Or.inl ⟨rfl, fun q a b => by omega⟩⟩, ?_⟩
    intro nx j rnx rj ⟨j0, hj⟩
    refine ⟨fun e1 => ⟨by omega, fun e2 => ⟨fun e3 => ⟨fun e4 => ⟨by unfold rg; omega, ⟨by omega, Or.inr ⟨by omega, e2, e3, fun q a b e g => ?_⟩⟩, by dsimp only; omega⟩, fun e4 => ?_⟩, fun e3 => ⟨by unfold rg; omega, ⟨by omega, ?_⟩, by dsimp only; omega⟩⟩, fun e2 => ⟨by unfold rg; omega, ⟨by omega, ?_⟩, by dsimp only; omega⟩⟩, fun e1 => ?_⟩
    · rcases hj with ⟨_, w⟩ | ⟨w, _⟩
      · by_cases v : q = j
        · rw [v]; exact Int.le_refl _
        · exact absurd g (w q a (by omega) e)
      · omega
    · rcases hj with ⟨w, _⟩ | ⟨w, w1, w2, w3⟩
      · omega
      · refine ⟨by omega, fun e5 => ⟨by unfold rg; omega, ⟨by omega, Or.inr ⟨by omega, e2, e3, fun q a b e g => ?_⟩⟩, by dsimp only; omega⟩, fun e5 => ⟨by unfold rg; omega, ⟨by omega, Or.inr ⟨by omega, w1, w2, fun q a b e g => ?_⟩⟩, by dsimp only; omega⟩⟩
        · by_cases v : q = j
          · rw [v]; exact Int.le_refl _
          · have := w3 q a (by omega) e g
            omega
        · by_cases v : q = j
          · rw [v]; omega
          · exact w3 q a (by omega) e g
    · rcases hj with ⟨w, w1⟩ | ⟨w, w1, w2, w3⟩
      · exact Or.inl ⟨w, fun q a b e => by
          by_cases v : q = j
          · rw [v]; exact e3
          · exact w1 q a (by omega) e⟩
      · exact Or.inr ⟨by omega, w1, w2, fun q a b e g => by
          by_cases v : q = j
          · rw [v] at g; exact absurd g e3
          · exact w3 q a (by omega) e g⟩
    · rcases hj with ⟨w, w1⟩ | ⟨w, w1, w2, w3⟩
      · exact Or.inl ⟨w, fun q a b e => by
          by_cases v : q = j
          · rw [v] at e; exact absurd e e2
          · exact w1 q a (by omega) e⟩
      · exact Or.inr ⟨by omega, w1, w2, fun q a b e g => by
          by_cases v : q = j
          · rw [v] at e; exact absurd e e2
          · exact w3 q a (by omega) e g⟩
    rcases hj with ⟨_, w1⟩ | ⟨w, w1, w2, w3⟩
    · have := cnR_skip (z := mm.2 0) (K := had + 1) (K' := mm.2 0 4) (by omega) (by omega) (fun q q1 q2 hr => by
        obtain ⟨x, x1, x2, x3, x4⟩ := LF_run hF (by omega) hr
        have := w1 x x1.1 (by omega) x3
        omega)
      rw [← cnR_all] at this
      omega
    · have aT : 0 ≤ nx ∧ nx < t_x 10 := by omega
      have la := d0 nx aT.1 aT.2 w1
      obtain ⟨eN, n0, n4⟩ := LF_num hb hF aT la w1
      have r2 := rng nx aT.1 aT.2
      have cN : cnR (mm.2 0) (n_x nx) = i := by
        rw [← hc]
        exact cnR_skip (by omega) (by omega) (fun q q1 q2 hr => by
          obtain ⟨x, x1, x2, x3, x4⟩ := LF_run hF (by omega) hr
          have := w3 x x1.1 (by omega) x3 (by omega)
          omega)
      have ra := ra_is n0 n4 (by omega) cN
      have cS := cnR_S (z := mm.2 0) n0
      rw [pz_t (by rw [Int.add_zero]; omega)] at cS
      refine ⟨by omega, mm, nn, p0, p1, fun z1 r1 e4 => ⟨fun _ => ⟨mm, nn, p0, p1, fun z2 r2 e5 => ⟨fun _ => ⟨la, fun at_ rat hat => ⟨by omega, fun q a b => by have := rng q a (by omega); omega, by unfold rg; omega, by omega, mm, nn, p0, p1, fun z3 r3 e6 => ?_⟩⟩, fun q => absurd (e5.trans (size_at hb hF aT la w1)) q⟩⟩, fun q => absurd (e4.trans ra) q⟩⟩
      obtain ⟨y1, y2, y3⟩ := LF_row hF aT (q := sumI l_x nx.toNat + at_) (by omega) (by omega)
      have ro := fun part => row_at (part := part) hb hF aT la w1 hat
      rw [ro 0, if_pos rfl, ← hk _ y1 y2] at e6
      refine ⟨by omega, fun _ => ⟨mm, nn, p0, p1, fun z4 r4 e7 => ?_⟩, fun q => absurd e6 q⟩
      rw [ro 1, if_neg (by decide), if_pos rfl] at e7
      refine ⟨fun _ => ⟨mm, nn, p0, p1, fun z5 r5 e8 => ?_⟩, fun q => absurd e7 q⟩
      rw [ro 2, if_neg (by decide), if_neg (by decide), if_pos rfl, ← p3 _ y1 y2] at e8
      refine ⟨fun _ => ⟨mm, nn, p0, p1, fun z6 r6 e9 => ?_⟩, fun q => absurd e8 q⟩
      rw [row_no hb hF aT la w1] at e9
      exact ⟨fun _ => ⟨by unfold rg; omega, ⟨by omega, by omega⟩, by dsimp only; omega⟩, fun q => absurd e9 q⟩
  · refine ⟨mm, nn, p0, p1, fun z1 r1 e1 => ⟨fun _ => ⟨mm, nn, p0, p1, fun z2 r2 e2 => ⟨fun _ => ⟨mm, nn, p0, p1, fun z3 r3 e3 => ⟨fun _ => rfl, fun q => absurd (e3.trans (ra_none (Or.inl (by decide)))) q⟩⟩, fun q => absurd (e2.trans (ra_none (Or.inr (Int.le_refl _)))) q⟩⟩, fun q => absurd e1 q⟩⟩
