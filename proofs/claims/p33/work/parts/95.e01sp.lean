set_option maxRecDepth 100000 in
def wp_A0 (o_cu : SS) (o_fo : SS) (o_sv : SS) (o_hs : Int) (o_ol : Int) (o_tt : Int) (o_s0 : SS) (o_s1 : SS) (o_s2 : SS) (o_s3 : SS) (o_cs : Int → Int) (o_ln : Int) (o_kd : Int) (o_fk : Int) (o_hd : Int) (o_va : Int) (o_le : Int) (o_mo : Int) (f_x : Int → Int) (n_x : Int → Int) (l_x : Int → Int) (d_x : Int → Int) (m_x : Int → Int) (k_x : Int → Int) (c_x : Int → Int) (t_x : Int → Int)  (P104 : SS → SS → SS → Int → Int → Int → SS → SS → SS → SS → (Int → Int) → Int → Int → Int → Int → Int → Int → Int → (Int → Int) → (Int → Int) → (Int → Int) → (Int → Int) → (Int → Int) → (Int → Int) → (Int → Int) → (Int → Int) → Int → Prop) : Prop :=
  (0 : Int) ≤ 95 ∧ (∀ z3 : Int, rg z3 → ((0 < (2 : Int)) ∧ (∀ (z9 : Int), rg z9 → (0 ≤ z9 ∧ z9 < (2 : Int)) → (((z9 = 1) → (∃ (g44 : SS) (g45 : Int), (Rep6 o_cu o_sv o_hs o_ol o_tt o_s0 o_s1 o_s2 o_s3 o_cs o_ln g44 g45) ∧ ((0 ≤ g45 ∧ g45 ≤ 600) ∧ (((1 : Int) = 0 ∨ (1 : Int) = 1) ∧ (∀ (z61 : Int) (u_cu53 : SS) (u_ol54 : Int) (u_tt55 : Int) (u_s056 : SS) (u_s157 : SS) (u_s258 : SS) (u_s359 : SS), rg z61 → RG u_cu53 → rg u_ol54 → rg u_tt55 → RG u_s056 → RG u_s157 → RG u_s258 → RG u_s359 → (z61 = an_combine (g44.2 0) ∧ Rep6 u_cu53 o_sv o_hs u_ol54 u_tt55 u_s056 u_s157 u_s258 u_s359 o_cs o_ln (nx_combine g44 (1 : Int)) (g45 + 1)) → (((z61 = 0) → (P104 u_cu53 o_fo o_sv o_hs u_ol54 u_tt55 u_s056 u_s157 u_s258 u_s359 o_cs o_ln o_kd o_fk o_hd o_va o_le o_mo f_x n_x l_x d_x m_x k_x c_x (uZ (uZ (uZ t_x 0 6) 1 z9) 2 1) 0)) ∧ ((¬ (z61 = 0)) → (False)))))))) ∧ ((¬ (z9 = 1)) → (∃ (g17 : SS) (g18 : Int), (Rep6 o_cu o_sv o_hs o_ol o_tt o_s0 o_s1 o_s2 o_s3 o_cs o_ln g17 g18) ∧ ((0 ≤ g18 ∧ g18 ≤ 600) ∧ (((0 : Int) = 0 ∨ (0 : Int) = 1) ∧ (∀ (z34 : Int) (u_cu26 : SS) (u_ol27 : Int) (u_tt28 : Int) (u_s029 : SS) (u_s130 : SS) (u_s231 : SS) (u_s332 : SS), rg z34 → RG u_cu26 → rg u_ol27 → rg u_tt28 → RG u_s029 → RG u_s130 → RG u_s231 → RG u_s332 → (z34 = an_combine (g17.2 0) ∧ Rep6 u_cu26 o_sv o_hs u_ol27 u_tt28 u_s029 u_s130 u_s231 u_s332 o_cs o_ln (nx_combine g17 (0 : Int)) (g18 + 1)) → (((z34 = 0) → (P104 u_cu26 o_fo o_sv o_hs u_ol27 u_tt28 u_s029 u_s130 u_s231 u_s332 o_cs o_ln o_kd o_fk o_hd o_va o_le o_mo f_x n_x l_x d_x m_x k_x c_x (uZ (uZ (uZ t_x 0 6) 1 z9) 2 1) 0)) ∧ ((¬ (z34 = 0)) → (False))))))))))))
set_option maxRecDepth 100000 in
set_option maxHeartbeats 4000000 in
theorem sp_A0 (o_cu : SS) (o_fo : SS) (o_sv : SS) (o_hs : Int) (o_ol : Int) (o_tt : Int) (o_s0 : SS) (o_s1 : SS) (o_s2 : SS) (o_s3 : SS) (o_cs : Int → Int) (o_ln : Int) (o_kd : Int) (o_fk : Int) (o_hd : Int) (o_va : Int) (o_le : Int) (o_mo : Int) (f_x : Int → Int) (n_x : Int → Int) (l_x : Int → Int) (d_x : Int → Int) (m_x : Int → Int) (k_x : Int → Int) (c_x : Int → Int) (t_x : Int → Int)  (r_o_cu : RG o_cu) (r_o_fo : RG o_fo) (r_o_sv : RG o_sv) (r_o_hs : rg o_hs) (r_o_ol : rg o_ol) (r_o_tt : rg o_tt) (r_o_s0 : RG o_s0) (r_o_s1 : RG o_s1) (r_o_s2 : RG o_s2) (r_o_s3 : RG o_s3) (r_o_cs : rgA o_cs) (r_o_ln : rg o_ln) (r_o_kd : rg o_kd) (r_o_fk : rg o_fk) (r_o_hd : rg o_hd) (r_o_va : rg o_va) (r_o_le : rg o_le) (r_o_mo : rg o_mo) (r_f_x : rgA f_x) (r_n_x : rgA n_x) (r_l_x : rgA l_x) (r_d_x : rgA d_x) (r_m_x : rgA m_x) (r_k_x : rgA k_x) (r_c_x : rgA c_x) (r_t_x : rgA t_x)  (p0 : Rep6 o_cu o_sv o_hs o_ol o_tt o_s0 o_s1 o_s2 o_s3 o_cs o_ln initM 0) (p1 : ∀ i, t_x i = 0) : wp_A0 o_cu o_fo o_sv o_hs o_ol o_tt o_s0 o_s1 o_s2 o_s3 o_cs o_ln o_kd o_fk o_hd o_va o_le o_mo f_x n_x l_x d_x m_x k_x c_x t_x (fun o_cu o_fo o_sv o_hs o_ol o_tt o_s0 o_s1 o_s2 o_s3 o_cs o_ln o_kd o_fk o_hd o_va o_le o_mo f_x n_x l_x d_x m_x k_x c_x t_x i10 => i10 = 0 ∧ ∃ (mm : SS) (nn : Int), (0 ≤ nn ∧ nn ≤ 1) ∧ JA o_cu o_sv o_hs o_ol o_tt o_s0 o_s1 o_s2 o_s3 o_cs o_ln mm nn f_x n_x l_x d_x m_x k_x c_x t_x) := by
  unfold wp_A0
  refine ⟨by decide, fun x rx => ⟨by decide, fun w rw_ hw => ⟨fun c1 => ⟨initM, 0, p0, by decide, Or.inr rfl, fun z1 cu1 ol1 tt1 x1a x1b x1c x1d _ _ _ _ _ _ _ _ ⟨e1, hR1⟩ => ⟨fun _ => ⟨rfl, nx_combine initM 1, 0 + 1, by decide, ?_⟩, fun q => absurd e1 q⟩⟩, fun c1 => ⟨initM, 0, p0, by decide, Or.inl rfl, fun z1 cu1 ol1 tt1 x1a x1b x1c x1d _ _ _ _ _ _ _ _ ⟨e1, hR1⟩ => ⟨fun _ => ⟨rfl, nx_combine initM 0, 0 + 1, by decide, ?_⟩, fun q => absurd e1 q⟩⟩⟩⟩⟩
  · rw [c1]; exact JA_0 (Or.inr rfl) hR1 p1
  · rw [show w = 0 by omega]; exact JA_0 (Or.inl rfl) hR1 p1
set_option maxRecDepth 100000 in
def wp_B0 (o_cu : SS) (o_fo : SS) (o_sv : SS) (o_hs : Int) (o_ol : Int) (o_tt : Int) (o_s0 : SS) (o_s1 : SS) (o_s2 : SS) (o_s3 : SS) (o_cs : Int → Int) (o_ln : Int) (o_kd : Int) (o_fk : Int) (o_hd : Int) (o_va : Int) (o_le : Int) (o_mo : Int) (f_x : Int → Int) (n_x : Int → Int) (l_x : Int → Int) (d_x : Int → Int) (m_x : Int → Int) (k_x : Int → Int) (c_x : Int → Int) (t_x : Int → Int) (ev : Int) (P228 : SS → SS → SS → Int → Int → Int → SS → SS → SS → SS → (Int → Int) → Int → Int → Int → Int → Int → Int → Int → (Int → Int) → (Int → Int) → (Int → Int) → (Int → Int) → (Int → Int) → (Int → Int) → (Int → Int) → (Int → Int) → Int → Int → Int → Int → Prop) (P767 : SS → SS → SS → Int → Int → Int → SS → SS → SS → SS → (Int → Int) → Int → Int → Int → Int → Int → Int → Int → (Int → Int) → (Int → Int) → (Int → Int) → (Int → Int) → (Int → Int) → (Int → Int) → (Int → Int) → (Int → Int) → Int → Int → Prop) : Prop :=
  (0 : Int) ≤ ev ∧ (∀ z3 : Int, rg z3 → ((0 < (20 : Int)) ∧ (∀ (z9 : Int), rg z9 → (0 ≤ z9 ∧ z9 < (20 : Int)) → ((((t_x 2) = 1) → ((((t_x 3) < 56) → (((z9 < 15) → (∀ q28 : Int, rg q28 → (∀ q31 : Int, rg q31 → ((0 < (2 : Int)) ∧ (∀ (z37 : Int), rg z37 → (0 ≤ z37 ∧ z37 < (2 : Int)) → ((((z37 = 0) → (True)) ∧ ((¬ (z37 = 0)) → (True))) ∧ ((0 < ((if z37 = 0 then 1000 else 12) : Int)) ∧ (∀ (z55 : Int), rg z55 → (0 ≤ z55 ∧ z55 < ((if z37 = 0 then 1000 else 12) : Int)) → (∃ (g59 : Int → Int), (LV f_x n_x l_x d_x m_x k_x t_x g59) ∧ ((LC c_x g59) ∧ ((Vz g59) ∧ (((g59 2 = 1 ∧ g59 3 < 56) ∧ g59 4 + 1 ≤ 900000000 ∧ g59 7 + 120 ≤ 2000000000) ∧ ((0 ≤ z55 ∧ z55 ≤ 999) ∧ (∀ (u_f_x71 : Int → Int) (u_n_x72 : Int → Int) (u_l_x73 : Int → Int) (u_d_x74 : Int → Int) (u_m_x75 : Int → Int) (u_k_x76 : Int → Int) (u_c_x77 : Int → Int) (u_t_x78 : Int → Int), rgA u_f_x71 → rgA u_n_x72 → rgA u_l_x73 → rgA u_d_x74 → rgA u_m_x75 → rgA u_k_x76 → rgA u_c_x77 → rgA u_t_x78 → (LV u_f_x71 u_n_x72 u_l_x73 u_d_x74 u_m_x75 u_k_x76 u_t_x78 (addZ g59 z55) ∧ LC u_c_x77 (addZ g59 z55)) → (∃ (g83 : SS) (g84 : Int), (Rep6 o_cu o_sv o_hs o_ol o_tt o_s0 o_s1 o_s2 o_s3 o_cs o_ln g83 g84) ∧ ((0 ≤ g84 ∧ g84 ≤ 600) ∧ (∀ (z98 : Int) (u_cu90 : SS) (u_ol91 : Int) (u_tt92 : Int) (u_s093 : SS) (u_s194 : SS) (u_s295 : SS) (u_s396 : SS), rg z98 → RG u_cu90 → rg u_ol91 → rg u_tt92 → RG u_s093 → RG u_s194 → RG u_s295 → RG u_s396 → (z98 = an_add (g83.2 0) z55 ∧ Rep6 u_cu90 o_sv o_hs u_ol91 u_tt92 u_s093 u_s194 u_s295 u_s396 o_cs o_ln (nx_add g83 z55) (g84 + 1)) → (rg ((u_t_x78 3) - 1) ∧ (((z98 = ((u_t_x78 3) - 1)) → (P767 u_cu90 o_fo o_sv o_hs u_ol91 u_tt92 u_s093 u_s194 u_s295 u_s396 o_cs o_ln o_kd o_fk o_hd o_va o_le o_mo u_f_x71 u_n_x72 u_l_x73 u_d_x74 u_m_x75 u_k_x76 u_c_x77 u_t_x78 ev 1)) ∧ ((¬ (z98 = ((u_t_x78 3) - 1))) → (P767 u_cu90 o_fo o_sv o_hs u_ol91 u_tt92 u_s093 u_s194 u_s295 u_s396 o_cs o_ln o_kd o_fk o_hd o_va o_le o_mo u_f_x71 u_n_x72 u_l_x73 u_d_x74 u_m_x75 u_k_x76 u_c_x77 u_t_x78 ev 0))))))))))))))))))))) ∧ ((¬ (z9 < 15)) → (P228 o_cu o_fo o_sv o_hs o_ol o_tt o_s0 o_s1 o_s2 o_s3 o_cs o_ln o_kd o_fk o_hd o_va o_le o_mo f_x n_x l_x d_x m_x k_x c_x t_x ev z3 z9 1)))) ∧ ((¬ ((t_x 3) < 56)) → (P228 o_cu o_fo o_sv o_hs o_ol o_tt o_s0 o_s1 o_s2 o_s3 o_cs o_ln o_kd o_fk o_hd o_va o_le o_mo f_x n_x l_x d_x m_x k_x c_x t_x ev z3 z9 1)))) ∧ ((¬ ((t_x 2) = 1)) → (P228 o_cu o_fo o_sv o_hs o_ol o_tt o_s0 o_s1 o_s2 o_s3 o_cs o_ln o_kd o_fk o_hd o_va o_le o_mo f_x n_x l_x d_x m_x k_x c_x t_x ev z3 z9 1))))))
set_option maxRecDepth 100000 in
set_option maxHeartbeats 4000000 in
theorem sp_B0 (o_cu : SS) (o_fo : SS) (o_sv : SS) (o_hs : Int) (o_ol : Int) (o_tt : Int) (o_s0 : SS) (o_s1 : SS) (o_s2 : SS) (o_s3 : SS) (o_cs : Int → Int) (o_ln : Int) (o_kd : Int) (o_fk : Int) (o_hd : Int) (o_va : Int) (o_le : Int) (o_mo : Int) (f_x : Int → Int) (n_x : Int → Int) (l_x : Int → Int) (d_x : Int → Int) (m_x : Int → Int) (k_x : Int → Int) (c_x : Int → Int) (t_x : Int → Int) (ev : Int) (r_o_cu : RG o_cu) (r_o_fo : RG o_fo) (r_o_sv : RG o_sv) (r_o_hs : rg o_hs) (r_o_ol : rg o_ol) (r_o_tt : rg o_tt) (r_o_s0 : RG o_s0) (r_o_s1 : RG o_s1) (r_o_s2 : RG o_s2) (r_o_s3 : RG o_s3) (r_o_cs : rgA o_cs) (r_o_ln : rg o_ln) (r_o_kd : rg o_kd) (r_o_fk : rg o_fk) (r_o_hd : rg o_hd) (r_o_va : rg o_va) (r_o_le : rg o_le) (r_o_mo : rg o_mo) (r_f_x : rgA f_x) (r_n_x : rgA n_x) (r_l_x : rgA l_x) (r_d_x : rgA d_x) (r_m_x : rgA m_x) (r_k_x : rgA k_x) (r_c_x : rgA c_x) (r_t_x : rgA t_x) (r_ev : rg ev) (mm : SS) (nn : Int) (p0 : JA o_cu o_sv o_hs o_ol o_tt o_s0 o_s1 o_s2 o_s3 o_cs o_ln mm nn f_x n_x l_x d_x m_x k_x c_x t_x) (p1 : 0 ≤ nn ∧ nn ≤ 4 * ev + 1) (p2 : 0 ≤ ev ∧ ev < 90) : wp_B0 o_cu o_fo o_sv o_hs o_ol o_tt o_s0 o_s1 o_s2 o_s3 o_cs o_ln o_kd o_fk o_hd o_va o_le o_mo f_x n_x l_x d_x m_x k_x c_x t_x ev (fun o_cu o_fo o_sv o_hs o_ol o_tt o_s0 o_s1 o_s2 o_s3 o_cs o_ln o_kd o_fk o_hd o_va o_le o_mo f_x n_x l_x d_x m_x k_x c_x t_x i10 i11 i12 i13 => (i10 = ev ∧ i13 = 1) ∧ JA o_cu o_sv o_hs o_ol o_tt o_s0 o_s1 o_s2 o_s3 o_cs o_ln mm nn f_x n_x l_x d_x m_x k_x c_x t_x) (fun o_cu o_fo o_sv o_hs o_ol o_tt o_s0 o_s1 o_s2 o_s3 o_cs o_ln o_kd o_fk o_hd o_va o_le o_mo f_x n_x l_x d_x m_x k_x c_x t_x i10 i13 => (i10 = ev ∧ i13 = 1) ∧ ∃ (mm : SS) (nn : Int), (0 ≤ nn ∧ nn ≤ 4 * ev + 5) ∧ JA o_cu o_sv o_hs o_ol o_tt o_s0 o_s1 o_s2 o_s3 o_cs o_ln mm nn f_x n_x l_x d_x m_x k_x c_x t_x) := by
  unfold wp_B0
  have hJ := p0
  obtain ⟨hR, hL, hC, hM⟩ := p0
  have hV : Vz (mm.2 0) := hR.1.2.1
  have n600 : 0 ≤ nn ∧ nn ≤ 600 := by omega
  have hbd := HInv_Bd hR.1.2 n600.2
  have B60 := hbd.1
  have B50 := hbd.2
  obtain ⟨⟨b4, b7, b8, b9⟩, _⟩ := hbd
  have hb := hV.1
  have hz3 := hb.1
  have hz4 := hb.2.2.1
  have h120 := hb.2.1
  have hV' := hV
  obtain ⟨_, ⟨v0, v1, v2, v5, v6, v7, v8, v9⟩, _, _, vc, vm, _, vi, _, _⟩ := hV'
  have hL' := hL
  obtain ⟨⟨t0, t1, t2, t3, t4, t5, t7, t8, t9, t6⟩, hk, hmm, hF, hX, hT, h56⟩ := hL'
  refine ⟨p2.1, fun hh rh => ⟨by decide, fun kn rk hkn => ⟨fun c2 => ⟨fun c3 => ⟨fun c15 q1 rq1 q2 rq2 => ⟨by decide, fun w rw_ hw => ⟨⟨fun _ => trivial, fun _ => trivial⟩, by split <;> omega, fun key rkey hkey => ?_⟩⟩, fun c15 => ⟨⟨rfl, rfl⟩, hJ⟩⟩, fun c3 => ⟨⟨rfl, rfl⟩, hJ⟩⟩, fun c2 => ⟨⟨rfl, rfl⟩, hJ⟩⟩⟩⟩
  have hk9 : 0 ≤ key ∧ key ≤ 999 := by split at hkey <;> omega
  have A := addZ_Vz hV hk9 (by omega) (by omega) (by omega)
  obtain ⟨n0, na⟩ := nx_add_0 (m := mm) hk9 (by omega) (by omega)
  refine ⟨mm.2 0, hL, hC, hV, ⟨⟨by omega, by omega⟩, by omega, by omega⟩, hk9, fun uf un ul ud um uk uc ut _ _ _ _ _ _ _ _ hh2 => ⟨mm, nn, hR, n600, fun zr cu1 ol1 tt1 x1a x1b x1c x1d _ _ _ _ _ _ _ _ ⟨ez, hR'⟩ => ?_⟩⟩
  have u3 : ut 3 = addZ (mm.2 0) key 3 := hh2.1.1.2.2.2.1
  rw [A.2.2.2.2.2.2.2.1] at u3
  refine ⟨by unfold rg; omega, fun _ => ⟨⟨rfl, rfl⟩, nx_add mm key, nn + 1, ⟨by omega, by omega⟩, hR', ?_, ?_, ?_⟩, fun q => absurd (by rw [ez, na]; omega) q⟩
  · rw [n0]; exact hh2.1
  · rw [n0]; exact hh2.2
  · rw [n0]; exact MW_col A.1 A.2.2.2.2.2.2.2.2
set_option maxRecDepth 100000 in
def wp_B1 (o_cu : SS) (o_fo : SS) (o_sv : SS) (o_hs : Int) (o_ol : Int) (o_tt : Int) (o_s0 : SS) (o_s1 : SS) (o_s2 : SS) (o_s3 : SS) (o_cs : Int → Int) (o_ln : Int) (o_kd : Int) (o_fk : Int) (o_hd : Int) (o_va : Int) (o_le : Int) (o_mo : Int) (f_x : Int → Int) (n_x : Int → Int) (l_x : Int → Int) (d_x : Int → Int) (m_x : Int → Int) (k_x : Int → Int) (c_x : Int → Int) (t_x : Int → Int) (ev : Int) (hh : Int) (kn : Int) (isv : Int) (P767 : SS → SS → SS → Int → Int → Int → SS → SS → SS → SS → (Int → Int) → Int → Int → Int → Int → Int → Int → Int → (Int → Int) → (Int → Int) → (Int → Int) → (Int → Int) → (Int → Int) → (Int → Int) → (Int → Int) → (Int → Int) → Int → Int → Prop) : Prop :=
  (((t_x 2) = 1) → (((kn < 17) → (∃ (g11 : SS) (g12 : Int), (Rep6 o_cu o_sv o_hs o_ol o_tt o_s0 o_s1 o_s2 o_s3 o_cs o_ln g11 g12) ∧ ((0 ≤ g12 ∧ g12 ≤ 600) ∧ (∀ (z26 : Int) (u_cu18 : SS) (u_ol19 : Int) (u_tt20 : Int) (u_s021 : SS) (u_s122 : SS) (u_s223 : SS) (u_s324 : SS), rg z26 → RG u_cu18 → rg u_ol19 → rg u_tt20 → RG u_s021 → RG u_s122 → RG u_s223 → RG u_s324 → (z26 = an_flush (g11.2 0) ∧ Rep6 u_cu18 o_sv o_hs u_ol19 u_tt20 u_s021 u_s122 u_s223 u_s324 o_cs o_ln (nx_flush g11) (g12 + 1)) → (∃ (g30 : Int → Int), (LV f_x n_x l_x d_x m_x k_x t_x g30) ∧ ((Vb g30) ∧ ((g30 5 = 0 ∧ g30 4 + 1 ≤ 900000000 ∧ 0 ≤ g30 7 ∧ g30 7 + 120 ≤ 2000000000) ∧ (∀ (z44 : Int) (u_f_x38 : Int → Int) (u_n_x39 : Int → Int) (u_l_x40 : Int → Int) (u_d_x41 : Int → Int) (u_t_x42 : Int → Int), rg z44 → rgA u_f_x38 → rgA u_n_x39 → rgA u_l_x40 → rgA u_d_x41 → rgA u_t_x42 → (z44 = (if rowsAt g30 1 = 0 then -6 else g30 4) ∧ LV u_f_x38 u_n_x39 u_l_x40 u_d_x41 m_x k_x u_t_x42 (wriZ g30)) → (((z26 = z44) → (∃ (g53 : SS) (g54 : Int), (Rep6 u_cu18 o_sv o_hs u_ol19 u_tt20 u_s021 u_s122 u_s223 u_s324 o_cs o_ln g53 g54) ∧ ((0 ≤ g54 ∧ g54 ≤ 600) ∧ (∀ (z68 : Int) (u_cu60 : SS) (u_ol61 : Int) (u_tt62 : Int) (u_s063 : SS) (u_s164 : SS) (u_s265 : SS) (u_s366 : SS), rg z68 → RG u_cu60 → rg u_ol61 → rg u_tt62 → RG u_s063 → RG u_s164 → RG u_s265 → RG u_s366 → (z68 = (if g53.2 0 2 = 1 ∨ g53.2 0 5 = 1 ∨ manyZ (g53.2 0) 0 < 2 ∨ waysZ (g53.2 0 0) < 2 then -3 else begN (g53.2 0)) ∧ Rep6 u_cu60 o_sv o_hs u_ol61 u_tt62 u_s063 u_s164 u_s265 u_s366 o_cs o_ln (if g53.2 0 2 = 1 ∨ g53.2 0 5 = 1 ∨ manyZ (g53.2 0) 0 < 2 ∨ waysZ (g53.2 0 0) < 2 then g53 else nxM g53 (begZ (g53.2 0))) (g54 + 1)) → (((z68 = (-3)) → (∃ (g77 : SS) (g78 : Int), (Rep6 u_cu60 o_sv o_hs u_ol61 u_tt62 u_s063 u_s164 u_s265 u_s366 o_cs o_ln g77 g78) ∧ ((0 ≤ g78 ∧ g78 ≤ 600) ∧ (∀ (z92 : Int) (u_cu84 : SS) (u_ol85 : Int) (u_tt86 : Int) (u_s087 : SS) (u_s188 : SS) (u_s289 : SS) (u_s390 : SS), rg z92 → RG u_cu84 → rg u_ol85 → rg u_tt86 → RG u_s087 → RG u_s188 → RG u_s289 → RG u_s390 → (∃ m' : SS, rl_step g77 (1 : Int) z92 m' ∧ Rep6 u_cu84 o_sv o_hs u_ol85 u_tt86 u_s087 u_s188 u_s289 u_s390 o_cs o_ln m' (g78 + 1)) → (((z92 = (-3)) → (P767 u_cu84 o_fo o_sv o_hs u_ol85 u_tt86 u_s087 u_s188 u_s289 u_s390 o_cs o_ln o_kd o_fk o_hd o_va o_le o_mo u_f_x38 u_n_x39 u_l_x40 u_d_x41 m_x k_x c_x u_t_x42 ev 1)) ∧ ((¬ (z92 = (-3))) → (P767 u_cu84 o_fo o_sv o_hs u_ol85 u_tt86 u_s087 u_s188 u_s289 u_s390 o_cs o_ln o_kd o_fk o_hd o_va o_le o_mo u_f_x38 u_n_x39 u_l_x40 u_d_x41 m_x k_x c_x u_t_x42 ev 0))))))) ∧ ((¬ (z68 = (-3))) → (P767 u_cu60 o_fo o_sv o_hs u_ol61 u_tt62 u_s063 u_s164 u_s265 u_s366 o_cs o_ln o_kd o_fk o_hd o_va o_le o_mo u_f_x38 u_n_x39 u_l_x40 u_d_x41 m_x k_x c_x u_t_x42 ev 0))))))) ∧ ((¬ (z26 = z44)) → (P767 u_cu18 o_fo o_sv o_hs u_ol19 u_tt20 u_s021 u_s122 u_s223 u_s324 o_cs o_ln o_kd o_fk o_hd o_va o_le o_mo u_f_x38 u_n_x39 u_l_x40 u_d_x41 m_x k_x c_x u_t_x42 ev 0))))))))))) ∧ ((¬ (kn < 17)) → (True)))) ∧ ((¬ ((t_x 2) = 1)) → (True))
set_option maxRecDepth 100000 in
set_option maxHeartbeats 4000000 in
theorem sp_B1 (o_cu : SS) (o_fo : SS) (o_sv : SS) (o_hs : Int) (o_ol : Int) (o_tt : Int) (o_s0 : SS) (o_s1 : SS) (o_s2 : SS) (o_s3 : SS) (o_cs : Int → Int) (o_ln : Int) (o_kd : Int) (o_fk : Int) (o_hd : Int) (o_va : Int) (o_le : Int) (o_mo : Int) (f_x : Int → Int) (n_x : Int → Int) (l_x : Int → Int) (d_x : Int → Int) (m_x : Int → Int) (k_x : Int → Int) (c_x : Int → Int) (t_x : Int → Int) (ev : Int) (hh : Int) (kn : Int) (isv : Int) (r_o_cu : RG o_cu) (r_o_fo : RG o_fo) (r_o_sv : RG o_sv) (r_o_hs : rg o_hs) (r_o_ol : rg o_ol) (r_o_tt : rg o_tt) (r_o_s0 : RG o_s0) (r_o_s1 : RG o_s1) (r_o_s2 : RG o_s2) (r_o_s3 : RG o_s3) (r_o_cs : rgA o_cs) (r_o_ln : rg o_ln) (r_o_kd : rg o_kd) (r_o_fk : rg o_fk) (r_o_hd : rg o_hd) (r_o_va : rg o_va) (r_o_le : rg o_le) (r_o_mo : rg o_mo) (r_f_x : rgA f_x) (r_n_x : rgA n_x) (r_l_x : rgA l_x) (r_d_x : rgA d_x) (r_m_x : rgA m_x) (r_k_x : rgA k_x) (r_c_x : rgA c_x) (r_t_x : rgA t_x) (r_ev : rg ev) (r_hh : rg hh) (r_kn : rg kn) (r_isv : rg isv) (mm : SS) (nn : Int) (p0 : JA o_cu o_sv o_hs o_ol o_tt o_s0 o_s1 o_s2 o_s3 o_cs o_ln mm nn f_x n_x l_x d_x m_x k_x c_x t_x) (p1 : 0 ≤ nn ∧ nn ≤ 4 * ev + 1) (p2 : 0 ≤ ev ∧ ev < 90) (p3 : isv = 1) : wp_B1 o_cu o_fo o_sv o_hs o_ol o_tt o_s0 o_s1 o_s2 o_s3 o_cs o_ln o_kd o_fk o_hd o_va o_le o_mo f_x n_x l_x d_x m_x k_x c_x t_x ev hh kn isv (fun o_cu o_fo o_sv o_hs o_ol o_tt o_s0 o_s1 o_s2 o_s3 o_cs o_ln o_kd o_fk o_hd o_va o_le o_mo f_x n_x l_x d_x m_x k_x c_x t_x i10 i13 => (i10 = ev ∧ i13 = 1) ∧ ∃ (mm : SS) (nn : Int), (0 ≤ nn ∧ nn ≤ 4 * ev + 5) ∧ JA o_cu o_sv o_hs o_ol o_tt o_s0 o_s1 o_s2 o_s3 o_cs o_ln mm nn f_x n_x l_x d_x m_x k_x c_x t_x) := by
  unfold wp_B1
  have hJ := p0
  obtain ⟨hR, hL, hC, hM⟩ := p0
  have hV : Vz (mm.2 0) := hR.1.2.1
  have n600 : 0 ≤ nn ∧ nn ≤ 600 := by omega
  have hbd := HInv_Bd hR.1.2 n600.2
  have B60 := hbd.1
  have B50 := hbd.2
  obtain ⟨⟨b4, b7, b8, b9⟩, _⟩ := hbd
  have hb := hV.1
  have hz3 := hb.1
  have hz4 := hb.2.2.1
  have h120 := hb.2.1
  have hV' := hV
  obtain ⟨_, ⟨v0, v1, v2, v5, v6, v7, v8, v9⟩, _, _, vc, vm, _, vi, _, _⟩ := hV'
  have hL' := hL
  obtain ⟨⟨t0, t1, t2, t3, t4, t5, t7, t8, t9, t6⟩, hk, hmm, hF, hX, hT, h56⟩ := hL'
  refine ⟨fun c2 => ⟨fun c17 => ⟨mm, nn, hR, n600, fun z1 cu1 ol1 tt1 x1a x1b x1c x1d _ _ _ _ _ _ _ _ ⟨e1, hR1⟩ => ⟨mm.2 0, hL, hb, ⟨(vc (by omega)).1, by omega, by omega, by omega⟩, fun z2 uf un ul ud ut _ _ _ _ _ _ ⟨e2, hw⟩ => ?_⟩⟩, fun _ => trivial⟩, fun _ => trivial⟩
  obtain ⟨n0, na⟩ := nx_flush_0 (m := mm) (by omega)
  have hW := wriZ_Vz hV (by omega)
  have w2 : wriZ (mm.2 0) 2 = 1 := by rw [wriZ_lo (by omega) (by omega) (by omega)]; omega
  have w5 : wriZ (mm.2 0) 5 = 0 := by rw [wriZ_lo (by omega) (by omega) (by omega)]; exact (vc (by omega)).1
  refine ⟨fun _ => ⟨nx_flush mm, nn + 1, hR1, by omega, fun z3 cu3 ol3 tt3 x3a x3b x3c x3d _ _ _ _ _ _ _ _ ⟨e3, hR3⟩ => ?_⟩, fun q => absurd (by rw [e1, e2, na]) q⟩
  have cnd : (nx_flush mm).2 0 2 = 1 := by rw [n0]; exact w2
  rw [if_pos (Or.inl cnd)] at e3 hR3
  refine ⟨fun _ => ⟨nx_flush mm, nn + 1 + 1, hR3, by omega, fun z4 cu4 ol4 tt4 x4a x4b x4c x4d _ _ _ _ _ _ _ _ ⟨m', e4, hR4⟩ => ?_⟩, fun q => absurd e3 q⟩
  obtain ⟨s1, s2⟩ := step_no e4 (by decide) (by rw [n0]; exact w5)
  rw [s2] at hR4
  refine ⟨fun _ => ⟨⟨rfl, rfl⟩, nx_flush mm, nn + 1 + 1 + 1, ⟨by omega, by omega⟩, hR4, ?_, ?_, ?_⟩, fun q => absurd s1 q⟩
  · rw [n0]; exact hw
  · rw [n0]
    intro r r0 r1
    rw [wriZ_lo (by omega) (by omega) (by omega)] at r1
    rw [wriZ_lo (by omega) (by omega) (by omega)]; exact hC r r0 r1
  · rw [n0]; exact MW_5 w5
set_option maxRecDepth 100000 in
def wp_B2 (o_cu : SS) (o_fo : SS) (o_sv : SS) (o_hs : Int) (o_ol : Int) (o_tt : Int) (o_s0 : SS) (o_s1 : SS) (o_s2 : SS) (o_s3 : SS) (o_cs : Int → Int) (o_ln : Int) (o_kd : Int) (o_fk : Int) (o_hd : Int) (o_va : Int) (o_le : Int) (o_mo : Int) (f_x : Int → Int) (n_x : Int → Int) (l_x : Int → Int) (d_x : Int → Int) (m_x : Int → Int) (k_x : Int → Int) (c_x : Int → Int) (t_x : Int → Int) (ev : Int) (hh : Int) (kn : Int) (isv : Int) (P767 : SS → SS → SS → Int → Int → Int → SS → SS → SS → SS → (Int → Int) → Int → Int → Int → Int → Int → Int → Int → (Int → Int) → (Int → Int) → (Int → Int) → (Int → Int) → (Int → Int) → (Int → Int) → (Int → Int) → (Int → Int) → Int → Int → Prop) : Prop :=
  ((kn < 4) → (∀ q5 : Int, rg q5 → (∀ q8 : Int, rg q8 → ((0 < (2 : Int)) ∧ (∀ (z14 : Int), rg z14 → (0 ≤ z14 ∧ z14 < (2 : Int)) → ((((z14 = 0) → (True)) ∧ ((¬ (z14 = 0)) → (True))) ∧ ((0 < ((if z14 = 0 then 19 else 5) : Int)) ∧ (∀ (z32 : Int), rg z32 → (0 ≤ z32 ∧ z32 < ((if z14 = 0 then 19 else 5) : Int)) → (rg (2 + z32) ∧ (∃ (g38 : SS) (g39 : Int), (Rep6 o_cu o_sv o_hs o_ol o_tt o_s0 o_s1 o_s2 o_s3 o_cs o_ln g38 g39) ∧ ((0 ≤ g39 ∧ g39 ≤ 600) ∧ (∀ (z53 : Int) (u_cu45 : SS) (u_ol46 : Int) (u_tt47 : Int) (u_s048 : SS) (u_s149 : SS) (u_s250 : SS) (u_s351 : SS), rg z53 → RG u_cu45 → rg u_ol46 → rg u_tt47 → RG u_s048 → RG u_s149 → RG u_s250 → RG u_s351 → (z53 = an_grant (g38.2 0) (2 + z32) ∧ Rep6 u_cu45 o_sv o_hs u_ol46 u_tt47 u_s048 u_s149 u_s250 u_s351 o_cs o_ln (nx_grant g38 (2 + z32)) (g39 + 1)) → (∃ (g57 : Int → Int), (LV f_x n_x l_x d_x m_x k_x t_x g57) ∧ ((Vz g57) ∧ ((2 ≤ (2 + z32) ∧ (2 + z32) ≤ 20) ∧ ((Bd g57 50000) ∧ (∀ (z73 : Int) (u_f_x67 : Int → Int) (u_n_x68 : Int → Int) (u_l_x69 : Int → Int) (u_d_x70 : Int → Int) (u_t_x71 : Int → Int), rg z73 → rgA u_f_x67 → rgA u_n_x68 → rgA u_l_x69 → rgA u_d_x70 → rgA u_t_x71 → (z73 = graA g57 (2 + z32) ∧ LV u_f_x67 u_n_x68 u_l_x69 u_d_x70 m_x k_x u_t_x71 (graZ g57 (2 + z32))) → (((z53 = z73) → (P767 u_cu45 o_fo o_sv o_hs u_ol46 u_tt47 u_s048 u_s149 u_s250 u_s351 o_cs o_ln o_kd o_fk o_hd o_va o_le o_mo u_f_x67 u_n_x68 u_l_x69 u_d_x70 m_x k_x c_x u_t_x71 ev 1)) ∧ ((¬ (z53 = z73)) → (P767 u_cu45 o_fo o_sv o_hs u_ol46 u_tt47 u_s048 u_s149 u_s250 u_s351 o_cs o_ln o_kd o_fk o_hd o_va o_le o_mo u_f_x67 u_n_x68 u_l_x69 u_d_x70 m_x k_x c_x u_t_x71 ev 0)))))))))))))))))))) ∧ ((¬ (kn < 4)) → (((kn = 17) → (∀ q88 : Int, rg q88 → (∀ q91 : Int, rg q91 → ((0 < (2 : Int)) ∧ (∀ (z97 : Int), rg z97 → (0 ≤ z97 ∧ z97 < (2 : Int)) → ((((z97 = 0) → (True)) ∧ ((¬ (z97 = 0)) → (True))) ∧ ((0 < ((if z97 = 0 then 19 else 5) : Int)) ∧ (∀ (z115 : Int), rg z115 → (0 ≤ z115 ∧ z115 < ((if z97 = 0 then 19 else 5) : Int)) → (rg (2 + z115) ∧ (∃ (g121 : SS) (g122 : Int), (Rep6 o_cu o_sv o_hs o_ol o_tt o_s0 o_s1 o_s2 o_s3 o_cs o_ln g121 g122) ∧ ((0 ≤ g122 ∧ g122 ≤ 600) ∧ (∀ (z136 : Int) (u_cu128 : SS) (u_ol129 : Int) (u_tt130 : Int) (u_s0131 : SS) (u_s1132 : SS) (u_s2133 : SS) (u_s3134 : SS), rg z136 → RG u_cu128 → rg u_ol129 → rg u_tt130 → RG u_s0131 → RG u_s1132 → RG u_s2133 → RG u_s3134 → (z136 = an_grant (g121.2 0) (2 + z115) ∧ Rep6 u_cu128 o_sv o_hs u_ol129 u_tt130 u_s0131 u_s1132 u_s2133 u_s3134 o_cs o_ln (nx_grant g121 (2 + z115)) (g122 + 1)) → (∃ (g140 : Int → Int), (LV f_x n_x l_x d_x m_x k_x t_x g140) ∧ ((Vz g140) ∧ ((2 ≤ (2 + z115) ∧ (2 + z115) ≤ 20) ∧ ((Bd g140 50000) ∧ (∀ (z156 : Int) (u_f_x150 : Int → Int) (u_n_x151 : Int → Int) (u_l_x152 : Int → Int) (u_d_x153 : Int → Int) (u_t_x154 : Int → Int), rg z156 → rgA u_f_x150 → rgA u_n_x151 → rgA u_l_x152 → rgA u_d_x153 → rgA u_t_x154 → (z156 = graA g140 (2 + z115) ∧ LV u_f_x150 u_n_x151 u_l_x152 u_d_x153 m_x k_x u_t_x154 (graZ g140 (2 + z115))) → (((z136 = z156) → (P767 u_cu128 o_fo o_sv o_hs u_ol129 u_tt130 u_s0131 u_s1132 u_s2133 u_s3134 o_cs o_ln o_kd o_fk o_hd o_va o_le o_mo u_f_x150 u_n_x151 u_l_x152 u_d_x153 m_x k_x c_x u_t_x154 ev 1)) ∧ ((¬ (z136 = z156)) → (P767 u_cu128 o_fo o_sv o_hs u_ol129 u_tt130 u_s0131 u_s1132 u_s2133 u_s3134 o_cs o_ln o_kd o_fk o_hd o_va o_le o_mo u_f_x150 u_n_x151 u_l_x152 u_d_x153 m_x k_x c_x u_t_x154 ev 0)))))))))))))))))))) ∧ ((¬ (kn = 17)) → (True))))
set_option maxRecDepth 100000 in
set_option maxHeartbeats 4000000 in
theorem sp_B2 (o_cu : SS) (o_fo : SS) (o_sv : SS) (o_hs : Int) (o_ol : Int) (o_tt : Int) (o_s0 : SS) (o_s1 : SS) (o_s2 : SS) (o_s3 : SS) (o_cs : Int → Int) (o_ln : Int) (o_kd : Int) (o_fk : Int) (o_hd : Int) (o_va : Int) (o_le : Int) (o_mo : Int) (f_x : Int → Int) (n_x : Int → Int) (l_x : Int → Int) (d_x : Int → Int) (m_x : Int → Int) (k_x : Int → Int) (c_x : Int → Int) (t_x : Int → Int) (ev : Int) (hh : Int) (kn : Int) (isv : Int) (r_o_cu : RG o_cu) (r_o_fo : RG o_fo) (r_o_sv : RG o_sv) (r_o_hs : rg o_hs) (r_o_ol : rg o_ol) (r_o_tt : rg o_tt) (r_o_s0 : RG o_s0) (r_o_s1 : RG o_s1) (r_o_s2 : RG o_s2) (r_o_s3 : RG o_s3) (r_o_cs : rgA o_cs) (r_o_ln : rg o_ln) (r_o_kd : rg o_kd) (r_o_fk : rg o_fk) (r_o_hd : rg o_hd) (r_o_va : rg o_va) (r_o_le : rg o_le) (r_o_mo : rg o_mo) (r_f_x : rgA f_x) (r_n_x : rgA n_x) (r_l_x : rgA l_x) (r_d_x : rgA d_x) (r_m_x : rgA m_x) (r_k_x : rgA k_x) (r_c_x : rgA c_x) (r_t_x : rgA t_x) (r_ev : rg ev) (r_hh : rg hh) (r_kn : rg kn) (r_isv : rg isv) (mm : SS) (nn : Int) (p0 : JA o_cu o_sv o_hs o_ol o_tt o_s0 o_s1 o_s2 o_s3 o_cs o_ln mm nn f_x n_x l_x d_x m_x k_x c_x t_x) (p1 : 0 ≤ nn ∧ nn ≤ 4 * ev + 1) (p2 : 0 ≤ ev ∧ ev < 90) (p3 : isv = 1) : wp_B2 o_cu o_fo o_sv o_hs o_ol o_tt o_s0 o_s1 o_s2 o_s3 o_cs o_ln o_kd o_fk o_hd o_va o_le o_mo f_x n_x l_x d_x m_x k_x c_x t_x ev hh kn isv (fun o_cu o_fo o_sv o_hs o_ol o_tt o_s0 o_s1 o_s2 o_s3 o_cs o_ln o_kd o_fk o_hd o_va o_le o_mo f_x n_x l_x d_x m_x k_x c_x t_x i10 i13 => (i10 = ev ∧ i13 = 1) ∧ ∃ (mm : SS) (nn : Int), (0 ≤ nn ∧ nn ≤ 4 * ev + 5) ∧ JA o_cu o_sv o_hs o_ol o_tt o_s0 o_s1 o_s2 o_s3 o_cs o_ln mm nn f_x n_x l_x d_x m_x k_x c_x t_x) := by
  unfold wp_B2
  have hJ := p0
  obtain ⟨hR, hL, hC, hM⟩ := p0
  have hV : Vz (mm.2 0) := hR.1.2.1
  have n600 : 0 ≤ nn ∧ nn ≤ 600 := by omega
  have hbd := HInv_Bd hR.1.2 n600.2
  have B60 := hbd.1
  have B50 := hbd.2
  obtain ⟨⟨b4, b7, b8, b9⟩, _⟩ := hbd
  have hb := hV.1
  have hz3 := hb.1
  have hz4 := hb.2.2.1
  have h120 := hb.2.1
  have hV' := hV
  obtain ⟨_, ⟨v0, v1, v2, v5, v6, v7, v8, v9⟩, _, _, vc, vm, _, vi, _, _⟩ := hV'
  have hL' := hL
  obtain ⟨⟨t0, t1, t2, t3, t4, t5, t7, t8, t9, t6⟩, hk, hmm, hF, hX, hT, h56⟩ := hL'
  refine ⟨fun c4 q1 rq1 q2 rq2 => ⟨by decide, fun w rw_ hw => ⟨⟨fun _ => trivial, fun _ => trivial⟩, by split <;> omega, fun v rv hv => ?_⟩⟩, fun c4 => ⟨fun c17 q1 rq1 q2 rq2 => ⟨by decide, fun w rw_ hw => ⟨⟨fun _ => trivial, fun _ => trivial⟩, by split <;> omega, fun v rv hv => ?_⟩⟩, fun _ => trivial⟩⟩
  all_goals
    have hs : 2 ≤ 2 + v ∧ 2 + v ≤ 20 := by split at hv <;> omega
    obtain ⟨n0, na⟩ := nx_grant_0 (m := mm) hs
    refine ⟨by unfold rg; omega, mm, nn, hR, n600, fun z1 cu1 ol1 tt1 x1a x1b x1c x1d _ _ _ _ _ _ _ _ ⟨e1, hR1⟩ => ⟨mm.2 0, hL, hV, hs, B50, fun z2 uf un ul ud ut _ _ _ _ _ _ ⟨e2, hw⟩ => ⟨fun _ => ⟨⟨rfl, rfl⟩, nx_grant mm (2 + v), nn + 1, ⟨by omega, by omega⟩, hR1, ?_, ?_, ?_⟩, fun q => absurd (by rw [e1, e2, na]) q⟩⟩⟩
    · rw [n0]; exact hw
    · rw [n0]
      intro r r0 r1
      rw [graZ_lo (by omega) (by omega) (by omega) (by omega) (by omega) (by omega)] at r1
      rw [graZ_lo (by omega) (by omega) (by omega) (by omega) (by omega) (by omega)]; exact hC r r0 r1
    · rw [n0]; exact gra_MW hV
set_option maxRecDepth 100000 in
def wp_B3 (o_cu : SS) (o_fo : SS) (o_sv : SS) (o_hs : Int) (o_ol : Int) (o_tt : Int) (o_s0 : SS) (o_s1 : SS) (o_s2 : SS) (o_s3 : SS) (o_cs : Int → Int) (o_ln : Int) (o_kd : Int) (o_fk : Int) (o_hd : Int) (o_va : Int) (o_le : Int) (o_mo : Int) (f_x : Int → Int) (n_x : Int → Int) (l_x : Int → Int) (d_x : Int → Int) (m_x : Int → Int) (k_x : Int → Int) (c_x : Int → Int) (t_x : Int → Int) (ev : Int) (hh : Int) (kn : Int) (isv : Int) (P767 : SS → SS → SS → Int → Int → Int → SS → SS → SS → SS → (Int → Int) → Int → Int → Int → Int → Int → Int → Int → (Int → Int) → (Int → Int) → (Int → Int) → (Int → Int) → (Int → Int) → (Int → Int) → (Int → Int) → (Int → Int) → Int → Int → Prop) : Prop :=
  (((t_x 2) = 1) → (((kn = 18) → (∃ (g10 : Int → Int), (LV f_x n_x l_x d_x m_x k_x t_x g10) ∧ ((Vb g10) ∧ ((g10 5 = 0 ∧ g10 4 + 1 ≤ 900000000 ∧ 0 ≤ g10 7 ∧ g10 7 + 120 ≤ 2000000000) ∧ (∀ (z24 : Int) (u_f_x18 : Int → Int) (u_n_x19 : Int → Int) (u_l_x20 : Int → Int) (u_d_x21 : Int → Int) (u_t_x22 : Int → Int), rg z24 → rgA u_f_x18 → rgA u_n_x19 → rgA u_l_x20 → rgA u_d_x21 → rgA u_t_x22 → (z24 = (if rowsAt g10 1 = 0 then -6 else g10 4) ∧ LV u_f_x18 u_n_x19 u_l_x20 u_d_x21 m_x k_x u_t_x22 (wriZ g10)) → (∃ (g28 : SS) (g29 : Int), (Rep6 o_cu o_sv o_hs o_ol o_tt o_s0 o_s1 o_s2 o_s3 o_cs o_ln g28 g29) ∧ ((0 ≤ g29 ∧ g29 ≤ 600) ∧ (∀ (z43 : Int) (u_cu35 : SS) (u_ol36 : Int) (u_tt37 : Int) (u_s038 : SS) (u_s139 : SS) (u_s240 : SS) (u_s341 : SS), rg z43 → RG u_cu35 → rg u_ol36 → rg u_tt37 → RG u_s038 → RG u_s139 → RG u_s240 → RG u_s341 → (z43 = an_finish (g28.2 0) ∧ Rep6 u_cu35 o_sv o_hs u_ol36 u_tt37 u_s038 u_s139 u_s240 u_s341 o_cs o_ln (nx_finish g28) (g29 + 1)) → (((z43 = (u_t_x22 10)) → (∃ (g52 : SS) (g53 : Int), (Rep6 u_cu35 o_sv o_hs u_ol36 u_tt37 u_s038 u_s139 u_s240 u_s341 o_cs o_ln g52 g53) ∧ ((0 ≤ g53 ∧ g53 ≤ 600) ∧ (∀ (z67 : Int) (u_cu59 : SS) (u_ol60 : Int) (u_tt61 : Int) (u_s062 : SS) (u_s163 : SS) (u_s264 : SS) (u_s365 : SS), rg z67 → RG u_cu59 → rg u_ol60 → rg u_tt61 → RG u_s062 → RG u_s163 → RG u_s264 → RG u_s365 → (z67 = an_add (g52.2 0) (1 : Int) ∧ Rep6 u_cu59 o_sv o_hs u_ol60 u_tt61 u_s062 u_s163 u_s264 u_s365 o_cs o_ln (nx_add g52 (1 : Int)) (g53 + 1)) → (((z67 = (-3)) → (∃ (g76 : SS) (g77 : Int), (Rep6 u_cu59 o_sv o_hs u_ol60 u_tt61 u_s062 u_s163 u_s264 u_s365 o_cs o_ln g76 g77) ∧ ((0 ≤ g77 ∧ g77 ≤ 600) ∧ (∀ (z91 : Int) (u_cu83 : SS) (u_ol84 : Int) (u_tt85 : Int) (u_s086 : SS) (u_s187 : SS) (u_s288 : SS) (u_s389 : SS), rg z91 → RG u_cu83 → rg u_ol84 → rg u_tt85 → RG u_s086 → RG u_s187 → RG u_s288 → RG u_s389 → (z91 = an_flush (g76.2 0) ∧ Rep6 u_cu83 o_sv o_hs u_ol84 u_tt85 u_s086 u_s187 u_s288 u_s389 o_cs o_ln (nx_flush g76) (g77 + 1)) → (((z91 = (-3)) → (∃ (g100 : SS) (g101 : Int), (Rep6 u_cu83 o_sv o_hs u_ol84 u_tt85 u_s086 u_s187 u_s288 u_s389 o_cs o_ln g100 g101) ∧ ((0 ≤ g101 ∧ g101 ≤ 600) ∧ (∀ (z115 : Int) (u_cu107 : SS) (u_ol108 : Int) (u_tt109 : Int) (u_s0110 : SS) (u_s1111 : SS) (u_s2112 : SS) (u_s3113 : SS), rg z115 → RG u_cu107 → rg u_ol108 → rg u_tt109 → RG u_s0110 → RG u_s1111 → RG u_s2112 → RG u_s3113 → (z115 = an_finish (g100.2 0) ∧ Rep6 u_cu107 o_sv o_hs u_ol108 u_tt109 u_s0110 u_s1111 u_s2112 u_s3113 o_cs o_ln (nx_finish g100) (g101 + 1)) → (((z115 = (-3)) → (P767 u_cu107 o_fo o_sv o_hs u_ol108 u_tt109 u_s0110 u_s1111 u_s2112 u_s3113 o_cs o_ln o_kd o_fk o_hd o_va o_le o_mo u_f_x18 u_n_x19 u_l_x20 u_d_x21 m_x k_x c_x (uZ u_t_x22 2 0) ev 1)) ∧ ((¬ (z115 = (-3))) → (P767 u_cu107 o_fo o_sv o_hs u_ol108 u_tt109 u_s0110 u_s1111 u_s2112 u_s3113 o_cs o_ln o_kd o_fk o_hd o_va o_le o_mo u_f_x18 u_n_x19 u_l_x20 u_d_x21 m_x k_x c_x (uZ u_t_x22 2 0) ev 0))))))) ∧ ((¬ (z91 = (-3))) → (P767 u_cu83 o_fo o_sv o_hs u_ol84 u_tt85 u_s086 u_s187 u_s288 u_s389 o_cs o_ln o_kd o_fk o_hd o_va o_le o_mo u_f_x18 u_n_x19 u_l_x20 u_d_x21 m_x k_x c_x (uZ u_t_x22 2 0) ev 0))))))) ∧ ((¬ (z67 = (-3))) → (P767 u_cu59 o_fo o_sv o_hs u_ol60 u_tt61 u_s062 u_s163 u_s264 u_s365 o_cs o_ln o_kd o_fk o_hd o_va o_le o_mo u_f_x18 u_n_x19 u_l_x20 u_d_x21 m_x k_x c_x (uZ u_t_x22 2 0) ev 0))))))) ∧ ((¬ (z43 = (u_t_x22 10))) → (P767 u_cu35 o_fo o_sv o_hs u_ol36 u_tt37 u_s038 u_s139 u_s240 u_s341 o_cs o_ln o_kd o_fk o_hd o_va o_le o_mo u_f_x18 u_n_x19 u_l_x20 u_d_x21 m_x k_x c_x (uZ u_t_x22 2 0) ev 0))))))))))) ∧ ((¬ (kn = 18)) → (((40 < (t_x 3)) → (∃ (g130 : Int → Int), (LV f_x n_x l_x d_x m_x k_x t_x g130) ∧ ((Vb g130) ∧ ((g130 5 = 0 ∧ g130 4 + 1 ≤ 900000000 ∧ 0 ≤ g130 7 ∧ g130 7 + 120 ≤ 2000000000) ∧ (∀ (z144 : Int) (u_f_x138 : Int → Int) (u_n_x139 : Int → Int) (u_l_x140 : Int → Int) (u_d_x141 : Int → Int) (u_t_x142 : Int → Int), rg z144 → rgA u_f_x138 → rgA u_n_x139 → rgA u_l_x140 → rgA u_d_x141 → rgA u_t_x142 → (z144 = (if rowsAt g130 1 = 0 then -6 else g130 4) ∧ LV u_f_x138 u_n_x139 u_l_x140 u_d_x141 m_x k_x u_t_x142 (wriZ g130)) → (∃ (g148 : SS) (g149 : Int), (Rep6 o_cu o_sv o_hs o_ol o_tt o_s0 o_s1 o_s2 o_s3 o_cs o_ln g148 g149) ∧ ((0 ≤ g149 ∧ g149 ≤ 600) ∧ (∀ (z163 : Int) (u_cu155 : SS) (u_ol156 : Int) (u_tt157 : Int) (u_s0158 : SS) (u_s1159 : SS) (u_s2160 : SS) (u_s3161 : SS), rg z163 → RG u_cu155 → rg u_ol156 → rg u_tt157 → RG u_s0158 → RG u_s1159 → RG u_s2160 → RG u_s3161 → (z163 = an_finish (g148.2 0) ∧ Rep6 u_cu155 o_sv o_hs u_ol156 u_tt157 u_s0158 u_s1159 u_s2160 u_s3161 o_cs o_ln (nx_finish g148) (g149 + 1)) → (((z163 = (u_t_x142 10)) → (∃ (g172 : SS) (g173 : Int), (Rep6 u_cu155 o_sv o_hs u_ol156 u_tt157 u_s0158 u_s1159 u_s2160 u_s3161 o_cs o_ln g172 g173) ∧ ((0 ≤ g173 ∧ g173 ≤ 600) ∧ (∀ (z187 : Int) (u_cu179 : SS) (u_ol180 : Int) (u_tt181 : Int) (u_s0182 : SS) (u_s1183 : SS) (u_s2184 : SS) (u_s3185 : SS), rg z187 → RG u_cu179 → rg u_ol180 → rg u_tt181 → RG u_s0182 → RG u_s1183 → RG u_s2184 → RG u_s3185 → (z187 = an_add (g172.2 0) (1 : Int) ∧ Rep6 u_cu179 o_sv o_hs u_ol180 u_tt181 u_s0182 u_s1183 u_s2184 u_s3185 o_cs o_ln (nx_add g172 (1 : Int)) (g173 + 1)) → (((z187 = (-3)) → (∃ (g196 : SS) (g197 : Int), (Rep6 u_cu179 o_sv o_hs u_ol180 u_tt181 u_s0182 u_s1183 u_s2184 u_s3185 o_cs o_ln g196 g197) ∧ ((0 ≤ g197 ∧ g197 ≤ 600) ∧ (∀ (z211 : Int) (u_cu203 : SS) (u_ol204 : Int) (u_tt205 : Int) (u_s0206 : SS) (u_s1207 : SS) (u_s2208 : SS) (u_s3209 : SS), rg z211 → RG u_cu203 → rg u_ol204 → rg u_tt205 → RG u_s0206 → RG u_s1207 → RG u_s2208 → RG u_s3209 → (z211 = an_flush (g196.2 0) ∧ Rep6 u_cu203 o_sv o_hs u_ol204 u_tt205 u_s0206 u_s1207 u_s2208 u_s3209 o_cs o_ln (nx_flush g196) (g197 + 1)) → (((z211 = (-3)) → (∃ (g220 : SS) (g221 : Int), (Rep6 u_cu203 o_sv o_hs u_ol204 u_tt205 u_s0206 u_s1207 u_s2208 u_s3209 o_cs o_ln g220 g221) ∧ ((0 ≤ g221 ∧ g221 ≤ 600) ∧ (∀ (z235 : Int) (u_cu227 : SS) (u_ol228 : Int) (u_tt229 : Int) (u_s0230 : SS) (u_s1231 : SS) (u_s2232 : SS) (u_s3233 : SS), rg z235 → RG u_cu227 → rg u_ol228 → rg u_tt229 → RG u_s0230 → RG u_s1231 → RG u_s2232 → RG u_s3233 → (z235 = an_finish (g220.2 0) ∧ Rep6 u_cu227 o_sv o_hs u_ol228 u_tt229 u_s0230 u_s1231 u_s2232 u_s3233 o_cs o_ln (nx_finish g220) (g221 + 1)) → (((z235 = (-3)) → (P767 u_cu227 o_fo o_sv o_hs u_ol228 u_tt229 u_s0230 u_s1231 u_s2232 u_s3233 o_cs o_ln o_kd o_fk o_hd o_va o_le o_mo u_f_x138 u_n_x139 u_l_x140 u_d_x141 m_x k_x c_x (uZ u_t_x142 2 0) ev 1)) ∧ ((¬ (z235 = (-3))) → (P767 u_cu227 o_fo o_sv o_hs u_ol228 u_tt229 u_s0230 u_s1231 u_s2232 u_s3233 o_cs o_ln o_kd o_fk o_hd o_va o_le o_mo u_f_x138 u_n_x139 u_l_x140 u_d_x141 m_x k_x c_x (uZ u_t_x142 2 0) ev 0))))))) ∧ ((¬ (z211 = (-3))) → (P767 u_cu203 o_fo o_sv o_hs u_ol204 u_tt205 u_s0206 u_s1207 u_s2208 u_s3209 o_cs o_ln o_kd o_fk o_hd o_va o_le o_mo u_f_x138 u_n_x139 u_l_x140 u_d_x141 m_x k_x c_x (uZ u_t_x142 2 0) ev 0))))))) ∧ ((¬ (z187 = (-3))) → (P767 u_cu179 o_fo o_sv o_hs u_ol180 u_tt181 u_s0182 u_s1183 u_s2184 u_s3185 o_cs o_ln o_kd o_fk o_hd o_va o_le o_mo u_f_x138 u_n_x139 u_l_x140 u_d_x141 m_x k_x c_x (uZ u_t_x142 2 0) ev 0))))))) ∧ ((¬ (z163 = (u_t_x142 10))) → (P767 u_cu155 o_fo o_sv o_hs u_ol156 u_tt157 u_s0158 u_s1159 u_s2160 u_s3161 o_cs o_ln o_kd o_fk o_hd o_va o_le o_mo u_f_x138 u_n_x139 u_l_x140 u_d_x141 m_x k_x c_x (uZ u_t_x142 2 0) ev 0))))))))))) ∧ ((¬ (40 < (t_x 3))) → (True)))))) ∧ ((¬ ((t_x 2) = 1)) → (True))
set_option maxRecDepth 100000 in
set_option maxHeartbeats 4000000 in
theorem sp_B3 (o_cu : SS) (o_fo : SS) (o_sv : SS) (o_hs : Int) (o_ol : Int) (o_tt : Int) (o_s0 : SS) (o_s1 : SS) (o_s2 : SS) (o_s3 : SS) (o_cs : Int → Int) (o_ln : Int) (o_kd : Int) (o_fk : Int) (o_hd : Int) (o_va : Int) (o_le : Int) (o_mo : Int) (f_x : Int → Int) (n_x : Int → Int) (l_x : Int → Int) (d_x : Int → Int) (m_x : Int → Int) (k_x : Int → Int) (c_x : Int → Int) (t_x : Int → Int) (ev : Int) (hh : Int) (kn : Int) (isv : Int) (r_o_cu : RG o_cu) (r_o_fo : RG o_fo) (r_o_sv : RG o_sv) (r_o_hs : rg o_hs) (r_o_ol : rg o_ol) (r_o_tt : rg o_tt) (r_o_s0 : RG o_s0) (r_o_s1 : RG o_s1) (r_o_s2 : RG o_s2) (r_o_s3 : RG o_s3) (r_o_cs : rgA o_cs) (r_o_ln : rg o_ln) (r_o_kd : rg o_kd) (r_o_fk : rg o_fk) (r_o_hd : rg o_hd) (r_o_va : rg o_va) (r_o_le : rg o_le) (r_o_mo : rg o_mo) (r_f_x : rgA f_x) (r_n_x : rgA n_x) (r_l_x : rgA l_x) (r_d_x : rgA d_x) (r_m_x : rgA m_x) (r_k_x : rgA k_x) (r_c_x : rgA c_x) (r_t_x : rgA t_x) (r_ev : rg ev) (r_hh : rg hh) (r_kn : rg kn) (r_isv : rg isv) (mm : SS) (nn : Int) (p0 : JA o_cu o_sv o_hs o_ol o_tt o_s0 o_s1 o_s2 o_s3 o_cs o_ln mm nn f_x n_x l_x d_x m_x k_x c_x t_x) (p1 : 0 ≤ nn ∧ nn ≤ 4 * ev + 1) (p2 : 0 ≤ ev ∧ ev < 90) (p3 : isv = 1) : wp_B3 o_cu o_fo o_sv o_hs o_ol o_tt o_s0 o_s1 o_s2 o_s3 o_cs o_ln o_kd o_fk o_hd o_va o_le o_mo f_x n_x l_x d_x m_x k_x c_x t_x ev hh kn isv (fun o_cu o_fo o_sv o_hs o_ol o_tt o_s0 o_s1 o_s2 o_s3 o_cs o_ln o_kd o_fk o_hd o_va o_le o_mo f_x n_x l_x d_x m_x k_x c_x t_x i10 i13 => (i10 = ev ∧ i13 = 1) ∧ ∃ (mm : SS) (nn : Int), (0 ≤ nn ∧ nn ≤ 4 * ev + 5) ∧ JA o_cu o_sv o_hs o_ol o_tt o_s0 o_s1 o_s2 o_s3 o_cs o_ln mm nn f_x n_x l_x d_x m_x k_x c_x t_x) := by
  unfold wp_B3
  have hJ := p0
  obtain ⟨hR, hL, hC, hM⟩ := p0
  have hV : Vz (mm.2 0) := hR.1.2.1
  have n600 : 0 ≤ nn ∧ nn ≤ 600 := by omega
  have hbd := HInv_Bd hR.1.2 n600.2
  have B60 := hbd.1
  have B50 := hbd.2
  obtain ⟨⟨b4, b7, b8, b9⟩, _⟩ := hbd
  have hb := hV.1
  have hz3 := hb.1
  have hz4 := hb.2.2.1
  have h120 := hb.2.1
  have hV' := hV
  obtain ⟨_, ⟨v0, v1, v2, v5, v6, v7, v8, v9⟩, _, _, vc, vm, _, vi, _, _⟩ := hV'
  have hL' := hL
  obtain ⟨⟨t0, t1, t2, t3, t4, t5, t7, t8, t9, t6⟩, hk, hmm, hF, hX, hT, h56⟩ := hL'
  refine ⟨fun c2 => ⟨fun c18 => ?_, fun c18 => ⟨fun c40 => ?_, fun _ => trivial⟩⟩, fun _ => trivial⟩
  all_goals
    have z5 := (vc (by omega)).1
    have hW := wriZ_Vz hV (by omega)
    obtain ⟨n0, na⟩ := nx_finish_0 (m := mm) (by omega)
    have hFz := finZ_Vz hV (by omega)
    have f2 : finZ (mm.2 0) 2 = 0 := by unfold finZ; rw [uZ_at]
    have f5 : finZ (mm.2 0) 5 = 0 := by unfold finZ; rw [uZ_ne (by omega), wriZ_lo (by omega) (by omega) (by omega)]; exact z5
    obtain ⟨⟨n1, a1⟩, ⟨n2, a2⟩, n3, a3⟩ := no_col (m := nx_finish mm) (by rw [n0]; exact f2)
    refine ⟨mm.2 0, hL, hb, ⟨z5, by omega, by omega, by omega⟩, fun z2 uf un ul ud ut _ _ _ _ _ _ ⟨e2, hw⟩ => ⟨mm, nn, hR, n600, fun z1 cu1 ol1 tt1 x1a x1b x1c x1d _ _ _ _ _ _ _ _ ⟨e1, hR1⟩ => ?_⟩⟩
    have hq := LV_noCol hw
    have hq : LV uf un ul ud m_x k_x (uZ ut 2 0) (finZ (mm.2 0)) := hq
    have lr := LV_runs hFz.1 hq f5
    rw [uZ_ne (by omega)] at lr
    refine ⟨fun _ => ⟨nx_finish mm, nn + 1, hR1, by omega, fun z3 cu3 ol3 tt3 x3a x3b x3c x3d _ _ _ _ _ _ _ _ ⟨e3, hR3⟩ => ?_⟩, fun q => absurd (by rw [e1, na, lr]; try rfl) q⟩
    rw [a1] at e3
    rw [n1] at hR3
    refine ⟨fun _ => ⟨nx_finish mm, nn + 1 + 1, hR3, by omega, fun z4 cu4 ol4 tt4 x4a x4b x4c x4d _ _ _ _ _ _ _ _ ⟨e4, hR4⟩ => ?_⟩, fun q => absurd e3 q⟩
    rw [a2] at e4
    rw [n2] at hR4
    refine ⟨fun _ => ⟨nx_finish mm, nn + 1 + 1 + 1, hR4, by omega, fun z5' cu5 ol5 tt5 x5a x5b x5c x5d _ _ _ _ _ _ _ _ ⟨e5, hR5⟩ => ?_⟩, fun q => absurd e4 q⟩
    rw [a3] at e5
    rw [n3] at hR5
    refine ⟨fun _ => ⟨⟨rfl, rfl⟩, nx_finish mm, nn + 1 + 1 + 1 + 1, ⟨by omega, by omega⟩, hR5, ?_, ?_, ?_⟩, fun q => absurd e5 q⟩
    · rw [n0]; exact hq
    · rw [n0]
      intro r r0 r1
      have fl : ∀ i, i < 250 → i ≠ 2 → i ≠ 4 → i ≠ 7 → finZ (mm.2 0) i = mm.2 0 i := fun i a b e g => by
        unfold finZ
        rw [uZ_ne b]; exact wriZ_lo a e g
      rw [fl 3 (by omega) (by omega) (by omega) (by omega)] at r1
      rw [fl _ (by omega) (by omega) (by omega) (by omega)]; exact hC r r0 r1
    · rw [n0]; exact MW_5 f5
set_option maxRecDepth 100000 in
def wp_B4 (o_cu : SS) (o_fo : SS) (o_sv : SS) (o_hs : Int) (o_ol : Int) (o_tt : Int) (o_s0 : SS) (o_s1 : SS) (o_s2 : SS) (o_s3 : SS) (o_cs : Int → Int) (o_ln : Int) (o_kd : Int) (o_fk : Int) (o_hd : Int) (o_va : Int) (o_le : Int) (o_mo : Int) (f_x : Int → Int) (n_x : Int → Int) (l_x : Int → Int) (d_x : Int → Int) (m_x : Int → Int) (k_x : Int → Int) (c_x : Int → Int) (t_x : Int → Int) (ev : Int) (hh : Int) (kn : Int) (isv : Int) (P767 : SS → SS → SS → Int → Int → Int → SS → SS → SS → SS → (Int → Int) → Int → Int → Int → Int → Int → Int → Int → (Int → Int) → (Int → Int) → (Int → Int) → (Int → Int) → (Int → Int) → (Int → Int) → (Int → Int) → (Int → Int) → Int → Int → Prop) : Prop :=
  (((t_x 2) = 0) → ((((t_x 5) = 0) → (((kn < 14) → (((1 < (t_x 10)) → ((2 ≤ (t_x 0) ∧ (t_x 0) ≤ 20) ∧ (((1 < (waysZ (t_x 0))) → (∃ (g127 : Int → Int) (g128 : Int → Int) (g129 : Int → Int) (g130 : Int → Int), (LV g127 n_x l_x d_x g128 g129 t_x g130) ∧ ((Vz g130) ∧ ((g130 5 = 0 ∧ g130 2 = 0 ∧ 2 ≤ begN g130 ∧ g130 8 + 1 ≤ 2000000000) ∧ (∀ (u_n_x138 : Int → Int) (u_l_x139 : Int → Int) (u_d_x140 : Int → Int) (u_t_x141 : Int → Int), rgA u_n_x138 → rgA u_l_x139 → rgA u_d_x140 → rgA u_t_x141 → (LV g127 u_n_x138 u_l_x139 u_d_x140 g128 g129 u_t_x141 (begZ g130)) → (∃ (g146 : SS) (g147 : Int), (Rep6 o_cu o_sv o_hs o_ol o_tt o_s0 o_s1 o_s2 o_s3 o_cs o_ln g146 g147) ∧ ((0 ≤ g147 ∧ g147 ≤ 600) ∧ (∀ (z161 : Int) (u_cu153 : SS) (u_ol154 : Int) (u_tt155 : Int) (u_s0156 : SS) (u_s1157 : SS) (u_s2158 : SS) (u_s3159 : SS), rg z161 → RG u_cu153 → rg u_ol154 → rg u_tt155 → RG u_s0156 → RG u_s1157 → RG u_s2158 → RG u_s3159 → (z161 = (if g146.2 0 2 = 1 ∨ g146.2 0 5 = 1 ∨ manyZ (g146.2 0) 0 < 2 ∨ waysZ (g146.2 0 0) < 2 then -3 else begN (g146.2 0)) ∧ Rep6 u_cu153 o_sv o_hs u_ol154 u_tt155 u_s0156 u_s1157 u_s2158 u_s3159 o_cs o_ln (if g146.2 0 2 = 1 ∨ g146.2 0 5 = 1 ∨ manyZ (g146.2 0) 0 < 2 ∨ waysZ (g146.2 0 0) < 2 then g146 else nxM g146 (begZ (g146.2 0))) (g147 + 1)) → (((z161 = (u_t_x141 6)) → (P767 u_cu153 o_fo o_sv o_hs u_ol154 u_tt155 u_s0156 u_s1157 u_s2158 u_s3159 o_cs o_ln o_kd o_fk o_hd o_va o_le o_mo f_x u_n_x138 u_l_x139 u_d_x140 m_x k_x c_x u_t_x141 ev 1)) ∧ ((¬ (z161 = (u_t_x141 6))) → (P767 u_cu153 o_fo o_sv o_hs u_ol154 u_tt155 u_s0156 u_s1157 u_s2158 u_s3159 o_cs o_ln o_kd o_fk o_hd o_va o_le o_mo f_x u_n_x138 u_l_x139 u_d_x140 m_x k_x c_x u_t_x141 ev 0))))))))))) ∧ ((¬ (1 < (waysZ (t_x 0)))) → (∃ (g78 : SS) (g79 : Int), (Rep6 o_cu o_sv o_hs o_ol o_tt o_s0 o_s1 o_s2 o_s3 o_cs o_ln g78 g79) ∧ ((0 ≤ g79 ∧ g79 ≤ 600) ∧ (∀ (z93 : Int) (u_cu85 : SS) (u_ol86 : Int) (u_tt87 : Int) (u_s088 : SS) (u_s189 : SS) (u_s290 : SS) (u_s391 : SS), rg z93 → RG u_cu85 → rg u_ol86 → rg u_tt87 → RG u_s088 → RG u_s189 → RG u_s290 → RG u_s391 → (z93 = (if g78.2 0 2 = 1 ∨ g78.2 0 5 = 1 ∨ manyZ (g78.2 0) 0 < 2 ∨ waysZ (g78.2 0 0) < 2 then -3 else begN (g78.2 0)) ∧ Rep6 u_cu85 o_sv o_hs u_ol86 u_tt87 u_s088 u_s189 u_s290 u_s391 o_cs o_ln (if g78.2 0 2 = 1 ∨ g78.2 0 5 = 1 ∨ manyZ (g78.2 0) 0 < 2 ∨ waysZ (g78.2 0 0) < 2 then g78 else nxM g78 (begZ (g78.2 0))) (g79 + 1)) → (((z93 = (-3)) → (∃ (g102 : SS) (g103 : Int), (Rep6 u_cu85 o_sv o_hs u_ol86 u_tt87 u_s088 u_s189 u_s290 u_s391 o_cs o_ln g102 g103) ∧ ((0 ≤ g103 ∧ g103 ≤ 600) ∧ (∀ (z117 : Int) (u_cu109 : SS) (u_ol110 : Int) (u_tt111 : Int) (u_s0112 : SS) (u_s1113 : SS) (u_s2114 : SS) (u_s3115 : SS), rg z117 → RG u_cu109 → rg u_ol110 → rg u_tt111 → RG u_s0112 → RG u_s1113 → RG u_s2114 → RG u_s3115 → (∃ m' : SS, rl_step g102 (5 : Int) z117 m' ∧ Rep6 u_cu109 o_sv o_hs u_ol110 u_tt111 u_s0112 u_s1113 u_s2114 u_s3115 o_cs o_ln m' (g103 + 1)) → (((z117 = (-3)) → (P767 u_cu109 o_fo o_sv o_hs u_ol110 u_tt111 u_s0112 u_s1113 u_s2114 u_s3115 o_cs o_ln o_kd o_fk o_hd o_va o_le o_mo f_x n_x l_x d_x m_x k_x c_x t_x ev 1)) ∧ ((¬ (z117 = (-3))) → (P767 u_cu109 o_fo o_sv o_hs u_ol110 u_tt111 u_s0112 u_s1113 u_s2114 u_s3115 o_cs o_ln o_kd o_fk o_hd o_va o_le o_mo f_x n_x l_x d_x m_x k_x c_x t_x ev 0))))))) ∧ ((¬ (z93 = (-3))) → (P767 u_cu85 o_fo o_sv o_hs u_ol86 u_tt87 u_s088 u_s189 u_s290 u_s391 o_cs o_ln o_kd o_fk o_hd o_va o_le o_mo f_x n_x l_x d_x m_x k_x c_x t_x ev 0)))))))))) ∧ ((¬ (1 < (t_x 10))) → (∃ (g20 : SS) (g21 : Int), (Rep6 o_cu o_sv o_hs o_ol o_tt o_s0 o_s1 o_s2 o_s3 o_cs o_ln g20 g21) ∧ ((0 ≤ g21 ∧ g21 ≤ 600) ∧ (∀ (z35 : Int) (u_cu27 : SS) (u_ol28 : Int) (u_tt29 : Int) (u_s030 : SS) (u_s131 : SS) (u_s232 : SS) (u_s333 : SS), rg z35 → RG u_cu27 → rg u_ol28 → rg u_tt29 → RG u_s030 → RG u_s131 → RG u_s232 → RG u_s333 → (z35 = (if g20.2 0 2 = 1 ∨ g20.2 0 5 = 1 ∨ manyZ (g20.2 0) 0 < 2 ∨ waysZ (g20.2 0 0) < 2 then -3 else begN (g20.2 0)) ∧ Rep6 u_cu27 o_sv o_hs u_ol28 u_tt29 u_s030 u_s131 u_s232 u_s333 o_cs o_ln (if g20.2 0 2 = 1 ∨ g20.2 0 5 = 1 ∨ manyZ (g20.2 0) 0 < 2 ∨ waysZ (g20.2 0 0) < 2 then g20 else nxM g20 (begZ (g20.2 0))) (g21 + 1)) → (((z35 = (-3)) → (∃ (g44 : SS) (g45 : Int), (Rep6 u_cu27 o_sv o_hs u_ol28 u_tt29 u_s030 u_s131 u_s232 u_s333 o_cs o_ln g44 g45) ∧ ((0 ≤ g45 ∧ g45 ≤ 600) ∧ (∀ (z59 : Int) (u_cu51 : SS) (u_ol52 : Int) (u_tt53 : Int) (u_s054 : SS) (u_s155 : SS) (u_s256 : SS) (u_s357 : SS), rg z59 → RG u_cu51 → rg u_ol52 → rg u_tt53 → RG u_s054 → RG u_s155 → RG u_s256 → RG u_s357 → (∃ m' : SS, rl_step g44 (5 : Int) z59 m' ∧ Rep6 u_cu51 o_sv o_hs u_ol52 u_tt53 u_s054 u_s155 u_s256 u_s357 o_cs o_ln m' (g45 + 1)) → (((z59 = (-3)) → (P767 u_cu51 o_fo o_sv o_hs u_ol52 u_tt53 u_s054 u_s155 u_s256 u_s357 o_cs o_ln o_kd o_fk o_hd o_va o_le o_mo f_x n_x l_x d_x m_x k_x c_x t_x ev 1)) ∧ ((¬ (z59 = (-3))) → (P767 u_cu51 o_fo o_sv o_hs u_ol52 u_tt53 u_s054 u_s155 u_s256 u_s357 o_cs o_ln o_kd o_fk o_hd o_va o_le o_mo f_x n_x l_x d_x m_x k_x c_x t_x ev 0))))))) ∧ ((¬ (z35 = (-3))) → (P767 u_cu27 o_fo o_sv o_hs u_ol28 u_tt29 u_s030 u_s131 u_s232 u_s333 o_cs o_ln o_kd o_fk o_hd o_va o_le o_mo f_x n_x l_x d_x m_x k_x c_x t_x ev 0))))))))) ∧ ((¬ (kn < 14)) → (True)))) ∧ ((¬ ((t_x 5) = 0)) → (True)))) ∧ ((¬ ((t_x 2) = 0)) → (True))
set_option maxRecDepth 100000 in
set_option maxHeartbeats 4000000 in
theorem sp_B4 (o_cu : SS) (o_fo : SS) (o_sv : SS) (o_hs : Int) (o_ol : Int) (o_tt : Int) (o_s0 : SS) (o_s1 : SS) (o_s2 : SS) (o_s3 : SS) (o_cs : Int → Int) (o_ln : Int) (o_kd : Int) (o_fk : Int) (o_hd : Int) (o_va : Int) (o_le : Int) (o_mo : Int) (f_x : Int → Int) (n_x : Int → Int) (l_x : Int → Int) (d_x : Int → Int) (m_x : Int → Int) (k_x : Int → Int) (c_x : Int → Int) (t_x : Int → Int) (ev : Int) (hh : Int) (kn : Int) (isv : Int) (r_o_cu : RG o_cu) (r_o_fo : RG o_fo) (r_o_sv : RG o_sv) (r_o_hs : rg o_hs) (r_o_ol : rg o_ol) (r_o_tt : rg o_tt) (r_o_s0 : RG o_s0) (r_o_s1 : RG o_s1) (r_o_s2 : RG o_s2) (r_o_s3 : RG o_s3) (r_o_cs : rgA o_cs) (r_o_ln : rg o_ln) (r_o_kd : rg o_kd) (r_o_fk : rg o_fk) (r_o_hd : rg o_hd) (r_o_va : rg o_va) (r_o_le : rg o_le) (r_o_mo : rg o_mo) (r_f_x : rgA f_x) (r_n_x : rgA n_x) (r_l_x : rgA l_x) (r_d_x : rgA d_x) (r_m_x : rgA m_x) (r_k_x : rgA k_x) (r_c_x : rgA c_x) (r_t_x : rgA t_x) (r_ev : rg ev) (r_hh : rg hh) (r_kn : rg kn) (r_isv : rg isv) (mm : SS) (nn : Int) (p0 : JA o_cu o_sv o_hs o_ol o_tt o_s0 o_s1 o_s2 o_s3 o_cs o_ln mm nn f_x n_x l_x d_x m_x k_x c_x t_x) (p1 : 0 ≤ nn ∧ nn ≤ 4 * ev + 1) (p2 : 0 ≤ ev ∧ ev < 90) (p3 : isv = 1) : wp_B4 o_cu o_fo o_sv o_hs o_ol o_tt o_s0 o_s1 o_s2 o_s3 o_cs o_ln o_kd o_fk o_hd o_va o_le o_mo f_x n_x l_x d_x m_x k_x c_x t_x ev hh kn isv (fun o_cu o_fo o_sv o_hs o_ol o_tt o_s0 o_s1 o_s2 o_s3 o_cs o_ln o_kd o_fk o_hd o_va o_le o_mo f_x n_x l_x d_x m_x k_x c_x t_x i10 i13 => (i10 = ev ∧ i13 = 1) ∧ ∃ (mm : SS) (nn : Int), (0 ≤ nn ∧ nn ≤ 4 * ev + 5) ∧ JA o_cu o_sv o_hs o_ol o_tt o_s0 o_s1 o_s2 o_s3 o_cs o_ln mm nn f_x n_x l_x d_x m_x k_x c_x t_x) := by
  unfold wp_B4
  have hJ := p0
  obtain ⟨hR, hL, hC, hM⟩ := p0
  have hV : Vz (mm.2 0) := hR.1.2.1
  have n600 : 0 ≤ nn ∧ nn ≤ 600 := by omega
  have hbd := HInv_Bd hR.1.2 n600.2
  have B60 := hbd.1
  have B50 := hbd.2
  obtain ⟨⟨b4, b7, b8, b9⟩, _⟩ := hbd
  have hb := hV.1
  have hz3 := hb.1
  have hz4 := hb.2.2.1
  have h120 := hb.2.1
  have hV' := hV
  obtain ⟨_, ⟨v0, v1, v2, v5, v6, v7, v8, v9⟩, _, _, vc, vm, _, vi, _, _⟩ := hV'
  have hL' := hL
  obtain ⟨⟨t0, t1, t2, t3, t4, t5, t7, t8, t9, t6⟩, hk, hmm, hF, hX, hT, h56⟩ := hL'
  refine ⟨fun c2 => ⟨fun c5 => ⟨fun c14 => ⟨fun c10 => ⟨by omega, fun cw => ?_, fun cw => ?_⟩, fun c10 => ?_⟩, fun _ => trivial⟩, fun _ => trivial⟩, fun _ => trivial⟩
  · have lr := LV_runs hb hL (by omega)
    rw [t0] at cw
    have bN : 2 ≤ begN (mm.2 0) := by unfold begN; omega
    have bV := begZ_Vz hV (by omega) (by omega) (by omega)
    have cnd : ¬ (mm.2 0 2 = 1 ∨ mm.2 0 5 = 1 ∨ manyZ (mm.2 0) 0 < 2 ∨ waysZ (mm.2 0 0) < 2) := by omega
    refine ⟨f_x, m_x, k_x, mm.2 0, hL, hV, ⟨by omega, by omega, bN, by omega⟩, fun un ul ud ut _ _ _ _ hw => ⟨mm, nn, hR, n600, fun z1 cu1 ol1 tt1 x1a x1b x1c x1d _ _ _ _ _ _ _ _ ⟨e1, hR1⟩ => ?_⟩⟩
    rw [if_neg cnd] at e1 hR1
    have u6 : ut 6 = begN (mm.2 0) := by rw [hw.1.2.2.2.2.2.2.2.2.2 begZ_5, begZ_6 hb]
    refine ⟨fun _ => ⟨⟨rfl, rfl⟩, nxM mm (begZ (mm.2 0)), nn + 1, ⟨by omega, by omega⟩, hR1, ?_, ?_, ?_⟩, fun q => absurd (by rw [e1, u6]) q⟩
    · rw [nxM_0]; exact hw
    · rw [nxM_0]
      intro r r0 r1
      rw [begZ_lo hb (by omega) (by omega) (by omega) (by omega)] at r1
      rw [begZ_lo hb (by omega) (by omega) (by omega) (by omega)]; exact hC r r0 r1
    · rw [nxM_0]; exact beg_MW hV (by omega) (by omega) (by omega)
  · have lr := LV_runs hb hL (by omega)
    rw [t0] at cw
    have cnd : mm.2 0 2 = 1 ∨ mm.2 0 5 = 1 ∨ manyZ (mm.2 0) 0 < 2 ∨ waysZ (mm.2 0 0) < 2 := by omega
    refine ⟨mm, nn, hR, n600, fun z1 cu1 ol1 tt1 x1a x1b x1c x1d _ _ _ _ _ _ _ _ ⟨e1, hR1⟩ => ?_⟩
    rw [if_pos cnd] at e1 hR1
    refine ⟨fun _ => ⟨mm, nn + 1, hR1, by omega, fun z4 cu4 ol4 tt4 x4a x4b x4c x4d _ _ _ _ _ _ _ _ ⟨m', e4, hR4⟩ => ?_⟩, fun q => absurd e1 q⟩
    obtain ⟨s1, s2⟩ := step_no e4 (by decide) (by omega)
    rw [s2] at hR4
    exact ⟨fun _ => ⟨⟨rfl, rfl⟩, mm, nn + 1 + 1, ⟨by omega, by omega⟩, hR4, hL, hC, hM⟩, fun q => absurd s1 q⟩
  · have lr := LV_runs hb hL (by omega)
    have cnd : mm.2 0 2 = 1 ∨ mm.2 0 5 = 1 ∨ manyZ (mm.2 0) 0 < 2 ∨ waysZ (mm.2 0 0) < 2 := by omega
    refine ⟨mm, nn, hR, n600, fun z1 cu1 ol1 tt1 x1a x1b x1c x1d _ _ _ _ _ _ _ _ ⟨e1, hR1⟩ => ?_⟩
    rw [if_pos cnd] at e1 hR1
    refine ⟨fun _ => ⟨mm, nn + 1, hR1, by omega, fun z4 cu4 ol4 tt4 x4a x4b x4c x4d _ _ _ _ _ _ _ _ ⟨m', e4, hR4⟩ => ?_⟩, fun q => absurd e1 q⟩
    obtain ⟨s1, s2⟩ := step_no e4 (by decide) (by omega)
    rw [s2] at hR4
    exact ⟨fun _ => ⟨⟨rfl, rfl⟩, mm, nn + 1 + 1, ⟨by omega, by omega⟩, hR4, hL, hC, hM⟩, fun q => absurd s1 q⟩
set_option maxRecDepth 100000 in
def wp_B5 (o_cu : SS) (o_fo : SS) (o_sv : SS) (o_hs : Int) (o_ol : Int) (o_tt : Int) (o_s0 : SS) (o_s1 : SS) (o_s2 : SS) (o_s3 : SS) (o_cs : Int → Int) (o_ln : Int) (o_kd : Int) (o_fk : Int) (o_hd : Int) (o_va : Int) (o_le : Int) (o_mo : Int) (f_x : Int → Int) (n_x : Int → Int) (l_x : Int → Int) (d_x : Int → Int) (m_x : Int → Int) (k_x : Int → Int) (c_x : Int → Int) (t_x : Int → Int) (ev : Int) (hh : Int) (kn : Int) (isv : Int) (P767 : SS → SS → SS → Int → Int → Int → SS → SS → SS → SS → (Int → Int) → Int → Int → Int → Int → Int → Int → Int → (Int → Int) → (Int → Int) → (Int → Int) → (Int → Int) → (Int → Int) → (Int → Int) → (Int → Int) → (Int → Int) → Int → Int → Prop) : Prop :=
  (((t_x 5) = 1) → (∀ q6 : Int, rg q6 → (∀ q9 : Int, rg q9 → ((0 < (3 : Int)) ∧ (∀ (z15 : Int), rg z15 → (0 ≤ z15 ∧ z15 < (3 : Int)) → ((((z15 = 0) → (True)) ∧ ((¬ (z15 = 0)) → (True))) ∧ ((0 < ((if z15 = 0 then 40 else 6) : Int)) ∧ (∀ (z33 : Int), rg z33 → (0 ≤ z33 ∧ z33 < ((if z15 = 0 then 40 else 6) : Int)) → (rg (1 + z33) ∧ (∃ (I40 : Int → (Int → Int) → (Int → Int) → (Int → Int) → (Int → Int) → (Int → Int) → (Int → Int) → Prop) (μ41 : Int → (Int → Int) → (Int → Int) → (Int → Int) → (Int → Int) → (Int → Int) → (Int → Int) → Nat), I40 0 f_x n_x l_x d_x c_x t_x ∧ ∀ (x15_39 : Int) (x1_39 : Int → Int) (x2_39 : Int → Int) (x3_39 : Int → Int) (x4_39 : Int → Int) (x7_39 : Int → Int) (x8_39 : Int → Int), rg x15_39 → rgA x1_39 → rgA x2_39 → rgA x3_39 → rgA x4_39 → rgA x7_39 → rgA x8_39 → I40 x15_39 x1_39 x2_39 x3_39 x4_39 x7_39 x8_39 → (((x15_39 < (1 + z33)) → ((((x8_39 5) = 1) → (∃ (g105 : Int → Int) (g106 : Int → Int), (LV x1_39 x2_39 x3_39 x4_39 g105 k_x x8_39 g106) ∧ ((LC x7_39 g106) ∧ ((Vz g106) ∧ ((g106 5 = 1 ∧ g106 4 + 1 ≤ 900000000 ∧ g106 7 + 2 ≤ 2000000000) ∧ (∀ (u_f_x116 : Int → Int) (u_n_x117 : Int → Int) (u_l_x118 : Int → Int) (u_d_x119 : Int → Int) (u_c_x120 : Int → Int) (u_t_x121 : Int → Int), rgA u_f_x116 → rgA u_n_x117 → rgA u_l_x118 → rgA u_d_x119 → rgA u_c_x120 → rgA u_t_x121 → (LV u_f_x116 u_n_x117 u_l_x118 u_d_x119 g105 k_x u_t_x121 (stpZ g106) ∧ LC u_c_x120 (stpZ g106)) → (rg (x15_39 + 1) ∧ (I40 (x15_39 + 1) u_f_x116 u_n_x117 u_l_x118 u_d_x119 u_c_x120 u_t_x121 ∧ μ41 (x15_39 + 1) u_f_x116 u_n_x117 u_l_x118 u_d_x119 u_c_x120 u_t_x121 < μ41 x15_39 x1_39 x2_39 x3_39 x4_39 x7_39 x8_39)))))))) ∧ ((¬ ((x8_39 5) = 1)) → (∃ (g80 : SS) (g81 : Int), (Rep6 o_cu o_sv o_hs o_ol o_tt o_s0 o_s1 o_s2 o_s3 o_cs o_ln g80 g81) ∧ ((0 ≤ g81 ∧ g81 ≤ 600) ∧ (∀ (z95 : Int) (u_cu87 : SS) (u_ol88 : Int) (u_tt89 : Int) (u_s090 : SS) (u_s191 : SS) (u_s292 : SS) (u_s393 : SS), rg z95 → RG u_cu87 → rg u_ol88 → rg u_tt89 → RG u_s090 → RG u_s191 → RG u_s292 → RG u_s393 → (∃ m' : SS, rl_step g80 (1 + z33) z95 m' ∧ Rep6 u_cu87 o_sv o_hs u_ol88 u_tt89 u_s090 u_s191 u_s292 u_s393 o_cs o_ln m' (g81 + 1)) → (((z95 = x15_39) → (P767 u_cu87 o_fo o_sv o_hs u_ol88 u_tt89 u_s090 u_s191 u_s292 u_s393 o_cs o_ln o_kd o_fk o_hd o_va o_le o_mo x1_39 x2_39 x3_39 x4_39 m_x k_x x7_39 x8_39 ev 1)) ∧ ((¬ (z95 = x15_39)) → (P767 u_cu87 o_fo o_sv o_hs u_ol88 u_tt89 u_s090 u_s191 u_s292 u_s393 o_cs o_ln o_kd o_fk o_hd o_va o_le o_mo x1_39 x2_39 x3_39 x4_39 m_x k_x x7_39 x8_39 ev 0))))))))) ∧ ((¬ (x15_39 < (1 + z33))) → (∃ (g51 : SS) (g52 : Int), (Rep6 o_cu o_sv o_hs o_ol o_tt o_s0 o_s1 o_s2 o_s3 o_cs o_ln g51 g52) ∧ ((0 ≤ g52 ∧ g52 ≤ 600) ∧ (∀ (z66 : Int) (u_cu58 : SS) (u_ol59 : Int) (u_tt60 : Int) (u_s061 : SS) (u_s162 : SS) (u_s263 : SS) (u_s364 : SS), rg z66 → RG u_cu58 → rg u_ol59 → rg u_tt60 → RG u_s061 → RG u_s162 → RG u_s263 → RG u_s364 → (∃ m' : SS, rl_step g51 (1 + z33) z66 m' ∧ Rep6 u_cu58 o_sv o_hs u_ol59 u_tt60 u_s061 u_s162 u_s263 u_s364 o_cs o_ln m' (g52 + 1)) → (((z66 = x15_39) → (P767 u_cu58 o_fo o_sv o_hs u_ol59 u_tt60 u_s061 u_s162 u_s263 u_s364 o_cs o_ln o_kd o_fk o_hd o_va o_le o_mo x1_39 x2_39 x3_39 x4_39 m_x k_x x7_39 x8_39 ev 1)) ∧ ((¬ (z66 = x15_39)) → (P767 u_cu58 o_fo o_sv o_hs u_ol59 u_tt60 u_s061 u_s162 u_s263 u_s364 o_cs o_ln o_kd o_fk o_hd o_va o_le o_mo x1_39 x2_39 x3_39 x4_39 m_x k_x x7_39 x8_39 ev 0)))))))))))))))))) ∧ ((¬ ((t_x 5) = 1)) → (True))
set_option maxRecDepth 100000 in
set_option maxHeartbeats 4000000 in
theorem sp_B5 (o_cu : SS) (o_fo : SS) (o_sv : SS) (o_hs : Int) (o_ol : Int) (o_tt : Int) (o_s0 : SS) (o_s1 : SS) (o_s2 : SS) (o_s3 : SS) (o_cs : Int → Int) (o_ln : Int) (o_kd : Int) (o_fk : Int) (o_hd : Int) (o_va : Int) (o_le : Int) (o_mo : Int) (f_x : Int → Int) (n_x : Int → Int) (l_x : Int → Int) (d_x : Int → Int) (m_x : Int → Int) (k_x : Int → Int) (c_x : Int → Int) (t_x : Int → Int) (ev : Int) (hh : Int) (kn : Int) (isv : Int) (r_o_cu : RG o_cu) (r_o_fo : RG o_fo) (r_o_sv : RG o_sv) (r_o_hs : rg o_hs) (r_o_ol : rg o_ol) (r_o_tt : rg o_tt) (r_o_s0 : RG o_s0) (r_o_s1 : RG o_s1) (r_o_s2 : RG o_s2) (r_o_s3 : RG o_s3) (r_o_cs : rgA o_cs) (r_o_ln : rg o_ln) (r_o_kd : rg o_kd) (r_o_fk : rg o_fk) (r_o_hd : rg o_hd) (r_o_va : rg o_va) (r_o_le : rg o_le) (r_o_mo : rg o_mo) (r_f_x : rgA f_x) (r_n_x : rgA n_x) (r_l_x : rgA l_x) (r_d_x : rgA d_x) (r_m_x : rgA m_x) (r_k_x : rgA k_x) (r_c_x : rgA c_x) (r_t_x : rgA t_x) (r_ev : rg ev) (r_hh : rg hh) (r_kn : rg kn) (r_isv : rg isv) (mm : SS) (nn : Int) (p0 : JA o_cu o_sv o_hs o_ol o_tt o_s0 o_s1 o_s2 o_s3 o_cs o_ln mm nn f_x n_x l_x d_x m_x k_x c_x t_x) (p1 : 0 ≤ nn ∧ nn ≤ 4 * ev + 1) (p2 : 0 ≤ ev ∧ ev < 90) (p3 : isv = 1) : wp_B5 o_cu o_fo o_sv o_hs o_ol o_tt o_s0 o_s1 o_s2 o_s3 o_cs o_ln o_kd o_fk o_hd o_va o_le o_mo f_x n_x l_x d_x m_x k_x c_x t_x ev hh kn isv (fun o_cu o_fo o_sv o_hs o_ol o_tt o_s0 o_s1 o_s2 o_s3 o_cs o_ln o_kd o_fk o_hd o_va o_le o_mo f_x n_x l_x d_x m_x k_x c_x t_x i10 i13 => (i10 = ev ∧ i13 = 1) ∧ ∃ (mm : SS) (nn : Int), (0 ≤ nn ∧ nn ≤ 4 * ev + 5) ∧ JA o_cu o_sv o_hs o_ol o_tt o_s0 o_s1 o_s2 o_s3 o_cs o_ln mm nn f_x n_x l_x d_x m_x k_x c_x t_x) := by
  unfold wp_B5
  have hJ := p0
  obtain ⟨hR, hL, hC, hM⟩ := p0
  have hV : Vz (mm.2 0) := hR.1.2.1
  have n600 : 0 ≤ nn ∧ nn ≤ 600 := by omega
  have hbd := HInv_Bd hR.1.2 n600.2
  have B60 := hbd.1
  have B50 := hbd.2
  obtain ⟨⟨b4, b7, b8, b9⟩, _⟩ := hbd
  have hb := hV.1
  have hz3 := hb.1
  have hz4 := hb.2.2.1
  have h120 := hb.2.1
  have hV' := hV
  obtain ⟨_, ⟨v0, v1, v2, v5, v6, v7, v8, v9⟩, _, _, vc, vm, _, vi, _, _⟩ := hV'
  have hL' := hL
  obtain ⟨⟨t0, t1, t2, t3, t4, t5, t7, t8, t9, t6⟩, hk, hmm, hF, hX, hT, h56⟩ := hL'
  refine ⟨fun c5 q1 rq1 q2 rq2 => ⟨by decide, fun w rw_ hw => ⟨⟨fun _ => trivial, fun _ => trivial⟩, by split <;> omega, fun v rv hv => ?_⟩⟩, fun _ => trivial⟩
  have hs : 0 ≤ v ∧ v ≤ 39 := by split at hv <;> omega
  refine ⟨by unfold rg; omega, fun i f n l d c t => ((0 ≤ i ∧ i ≤ 1 + v) ∧ ∀ j : Nat, (j : Int) < i → (wSq (mm.2 0) j) 5 = 1) ∧ LV f n l d m_x k_x t (wSq (mm.2 0) i.toNat) ∧ LC c (wSq (mm.2 0) i.toNat) ∧ MW (wSq (mm.2 0) i.toNat), fun i _ _ _ _ _ _ => (1 + v - i).toNat, ⟨⟨by omega, fun j h => by omega⟩, hL, hC, hM⟩, ?_⟩
  intro i f n l d c t ri rf rn rl rd rc rt ⟨⟨i0, i5⟩, h1, h2, h3⟩
  have st : StepsZ (mm.2 0) i i := ⟨i0.1, Int.le_refl _, i5, fun q => absurd q (Int.lt_irrefl _)⟩
  obtain ⟨y1, y2, y3, y4, y5, y6, y7⟩ := wSq_inv hV (by omega) st i.toNat (by omega)
  have s5 : t 5 = (wSq (mm.2 0) i.toNat) 5 := h1.1.2.2.2.2.2.1
  have fin : ∀ (r : Int) (m' : SS), rl_step mm (1 + v) r m' → (i = 1 + v ∨ (wSq (mm.2 0) i.toNat) 5 = 0) → r = i ∧ m'.2 0 = wSq (mm.2 0) i.toNat := fun r m' h q => by
    rcases h with ⟨w, _⟩ | ⟨_, w, _⟩ | ⟨_, _, w, em⟩
    · exact absurd (by omega) w
    · omega
    · have e := StepsZ_one w (show StepsZ (mm.2 0) (1 + v) i from ⟨i0.1, i0.2, i5, fun g => q.resolve_left (by omega)⟩)
      exact ⟨e, by rw [em, nxM_0, e]⟩
  have ends : (i = 1 + v ∨ (wSq (mm.2 0) i.toNat) 5 = 0) → ∀ (z1 : Int) (cu ol tt : _) (a0 a1 a2 a3 : SS) (m' : SS), rl_step mm (1 + v) z1 m' → Rep6 cu o_sv o_hs ol tt a0 a1 a2 a3 o_cs o_ln m' (nn + 1) → z1 = i ∧ ∃ (mm : SS) (nn : Int), (0 ≤ nn ∧ nn ≤ 4 * ev + 5) ∧ JA cu o_sv o_hs ol tt a0 a1 a2 a3 o_cs o_ln mm nn f n l d m_x k_x c t := fun q z1 cu ol tt a0 a1 a2 a3 m' hr hR1 => by
    obtain ⟨e1, e2⟩ := fin z1 m' hr q
    refine ⟨e1, m', nn + 1, ⟨by omega, by omega⟩, hR1, ?_, ?_, ?_⟩
    · rw [e2]; exact h1
    · rw [e2]; exact h2
    · rw [e2]; exact h3
  refine ⟨fun e1 => ⟨fun e5 => ⟨m_x, wSq (mm.2 0) i.toNat, h1, h2, y1, ⟨by omega, by omega, by omega⟩, fun uf un ul ud uc ut _ _ _ _ _ _ hh => ⟨by unfold rg; omega, ⟨⟨by omega, fun j hj => ?_⟩, ?_, ?_, ?_⟩, by dsimp only; omega⟩⟩, fun e5 => ⟨mm, nn, hR, n600, fun z1 cu1 ol1 tt1 x1a x1b x1c x1d _ _ _ _ _ _ _ _ ⟨m', e, hR1⟩ => ?_⟩⟩, fun e1 => ⟨mm, nn, hR, n600, fun z1 cu2 ol2 tt2 x2a x2b x2c x2d _ _ _ _ _ _ _ _ ⟨m', e, hR1⟩ => ?_⟩⟩
  · by_cases g : (j : Int) < i
    · exact i5 j g
    · rw [show j = i.toNat by omega]; omega
  · rw [show (i + 1).toNat = i.toNat + 1 by omega]; exact hh.1
  · rw [show (i + 1).toNat = i.toNat + 1 by omega]; exact hh.2
  · rw [show (i + 1).toNat = i.toNat + 1 by omega]
    have hri : 0 < riZ (wSq (mm.2 0) i.toNat) := by
      have y1' := y1
      obtain ⟨_, _, _, _, _, _, _, g, _⟩ := y1'
      exact g.mp (by omega)
    exact stp_MW y1 hri h3
  · have y5' : (wSq (mm.2 0) i.toNat) 5 = 0 := by
      have g := y1.2.1.2.2.2.1
      omega
    obtain ⟨g1, g2⟩ := ends (Or.inr y5') _ _ _ _ _ _ _ _ _ e hR1
    exact ⟨fun _ => ⟨⟨rfl, rfl⟩, g2⟩, fun q => absurd g1 q⟩
  · obtain ⟨g1, g2⟩ := ends (Or.inl (by omega)) _ _ _ _ _ _ _ _ _ e hR1
    exact ⟨fun _ => ⟨⟨rfl, rfl⟩, g2⟩, fun q => absurd g1 q⟩
set_option maxRecDepth 100000 in
def wp_B6 (o_cu : SS) (o_fo : SS) (o_sv : SS) (o_hs : Int) (o_ol : Int) (o_tt : Int) (o_s0 : SS) (o_s1 : SS) (o_s2 : SS) (o_s3 : SS) (o_cs : Int → Int) (o_ln : Int) (o_kd : Int) (o_fk : Int) (o_hd : Int) (o_va : Int) (o_le : Int) (o_mo : Int) (f_x : Int → Int) (n_x : Int → Int) (l_x : Int → Int) (d_x : Int → Int) (m_x : Int → Int) (k_x : Int → Int) (c_x : Int → Int) (t_x : Int → Int) (ev : Int) (hh : Int) (kn : Int) (isv : Int) (P767 : SS → SS → SS → Int → Int → Int → SS → SS → SS → SS → (Int → Int) → Int → Int → Int → Int → Int → Int → Int → (Int → Int) → (Int → Int) → (Int → Int) → (Int → Int) → (Int → Int) → (Int → Int) → (Int → Int) → (Int → Int) → Int → Int → Prop) : Prop :=
  ((kn = 19) → (∀ q6 : Int, rg q6 → ((0 < (3 : Int)) ∧ (∀ (z12 : Int), rg z12 → (0 ≤ z12 ∧ z12 < (3 : Int)) → (((z12 = 0) → (∃ (g21 : Int → Int), (LV f_x n_x l_x d_x m_x k_x t_x g21) ∧ ((LC c_x g21) ∧ ((Vz g21) ∧ ((2 ≤ (t_x 0) ∧ (t_x 0) ≤ 20) ∧ ((Bd g21 60000) ∧ (((7 : Int) = 7 ∨ (7 : Int) = 8) ∧ (∀ (z36 : Int), rg z36 → (growZ g21 (t_x 0) (7 : Int) z36) → (((z36 < 0) → (∃ (g44 : SS) (g45 : Int), (Rep6 o_cu o_sv o_hs o_ol o_tt o_s0 o_s1 o_s2 o_s3 o_cs o_ln g44 g45) ∧ ((0 ≤ g45 ∧ g45 ≤ 600) ∧ (∀ (z59 : Int) (u_cu51 : SS) (u_ol52 : Int) (u_tt53 : Int) (u_s054 : SS) (u_s155 : SS) (u_s256 : SS) (u_s357 : SS), rg z59 → RG u_cu51 → rg u_ol52 → rg u_tt53 → RG u_s054 → RG u_s155 → RG u_s256 → RG u_s357 → (∃ m' : SS, rl_run g44 z59 m' ∧ Rep6 u_cu51 o_sv o_hs u_ol52 u_tt53 u_s054 u_s155 u_s256 u_s357 o_cs o_ln m' (g45 + 1)) → (((z59 = (-3)) → (P767 u_cu51 o_fo o_sv o_hs u_ol52 u_tt53 u_s054 u_s155 u_s256 u_s357 o_cs o_ln o_kd o_fk o_hd o_va o_le o_mo f_x n_x l_x d_x m_x k_x c_x t_x ev 1)) ∧ ((¬ (z59 = (-3))) → (P767 u_cu51 o_fo o_sv o_hs u_ol52 u_tt53 u_s054 u_s155 u_s256 u_s357 o_cs o_ln o_kd o_fk o_hd o_va o_le o_mo f_x n_x l_x d_x m_x k_x c_x t_x ev 0))))))) ∧ ((¬ (z36 < 0)) → (∃ (g69 : SS) (g70 : Int), (Rep6 o_cu o_sv o_hs o_ol o_tt o_s0 o_s1 o_s2 o_s3 o_cs o_ln g69 g70) ∧ ((0 ≤ g70 ∧ g70 ≤ 600) ∧ (∀ (z84 : Int) (u_cu76 : SS) (u_ol77 : Int) (u_tt78 : Int) (u_s079 : SS) (u_s180 : SS) (u_s281 : SS) (u_s382 : SS), rg z84 → RG u_cu76 → rg u_ol77 → rg u_tt78 → RG u_s079 → RG u_s180 → RG u_s281 → RG u_s382 → (∃ m' : SS, rl_run g69 z84 m' ∧ Rep6 u_cu76 o_sv o_hs u_ol77 u_tt78 u_s079 u_s180 u_s281 u_s382 o_cs o_ln m' (g70 + 1)) → (∃ (g88 : Int → Int), (LV f_x n_x l_x d_x m_x k_x t_x g88) ∧ ((LC c_x g88) ∧ ((Vz g88) ∧ ((Bd g88 50000) ∧ (∀ (z105 : Int) (u_f_x98 : Int → Int) (u_n_x99 : Int → Int) (u_l_x100 : Int → Int) (u_d_x101 : Int → Int) (u_c_x102 : Int → Int) (u_t_x103 : Int → Int), rg z105 → rgA u_f_x98 → rgA u_n_x99 → rgA u_l_x100 → rgA u_d_x101 → rgA u_c_x102 → rgA u_t_x103 → ((crZ g88 ∧ ∃ y, AllZ (finZ g88) y ∧ z105 = y 8 - g88 8 ∧ LV u_f_x98 u_n_x99 u_l_x100 u_d_x101 m_x k_x u_t_x103 y ∧ LC u_c_x102 y) ∨ (¬ crZ g88 ∧ z105 = -3)) → (((z84 = z105) → (P767 u_cu76 o_fo o_sv o_hs u_ol77 u_tt78 u_s079 u_s180 u_s281 u_s382 o_cs o_ln o_kd o_fk o_hd o_va o_le o_mo u_f_x98 u_n_x99 u_l_x100 u_d_x101 m_x k_x u_c_x102 u_t_x103 ev 1)) ∧ ((¬ (z84 = z105)) → (P767 u_cu76 o_fo o_sv o_hs u_ol77 u_tt78 u_s079 u_s180 u_s281 u_s382 o_cs o_ln o_kd o_fk o_hd o_va o_le o_mo u_f_x98 u_n_x99 u_l_x100 u_d_x101 m_x k_x u_c_x102 u_t_x103 ev 0))))))))))))))))))))) ∧ ((¬ (z12 = 0)) → (P767 o_cu o_fo o_sv o_hs o_ol o_tt o_s0 o_s1 o_s2 o_s3 o_cs o_ln o_kd o_fk o_hd o_va o_le o_mo f_x n_x l_x d_x m_x k_x c_x t_x ev isv))))))) ∧ ((¬ (kn = 19)) → (P767 o_cu o_fo o_sv o_hs o_ol o_tt o_s0 o_s1 o_s2 o_s3 o_cs o_ln o_kd o_fk o_hd o_va o_le o_mo f_x n_x l_x d_x m_x k_x c_x t_x ev isv))
set_option maxRecDepth 100000 in
set_option maxHeartbeats 4000000 in
theorem sp_B6 (o_cu : SS) (o_fo : SS) (o_sv : SS) (o_hs : Int) (o_ol : Int) (o_tt : Int) (o_s0 : SS) (o_s1 : SS) (o_s2 : SS) (o_s3 : SS) (o_cs : Int → Int) (o_ln : Int) (o_kd : Int) (o_fk : Int) (o_hd : Int) (o_va : Int) (o_le : Int) (o_mo : Int) (f_x : Int → Int) (n_x : Int → Int) (l_x : Int → Int) (d_x : Int → Int) (m_x : Int → Int) (k_x : Int → Int) (c_x : Int → Int) (t_x : Int → Int) (ev : Int) (hh : Int) (kn : Int) (isv : Int) (r_o_cu : RG o_cu) (r_o_fo : RG o_fo) (r_o_sv : RG o_sv) (r_o_hs : rg o_hs) (r_o_ol : rg o_ol) (r_o_tt : rg o_tt) (r_o_s0 : RG o_s0) (r_o_s1 : RG o_s1) (r_o_s2 : RG o_s2) (r_o_s3 : RG o_s3) (r_o_cs : rgA o_cs) (r_o_ln : rg o_ln) (r_o_kd : rg o_kd) (r_o_fk : rg o_fk) (r_o_hd : rg o_hd) (r_o_va : rg o_va) (r_o_le : rg o_le) (r_o_mo : rg o_mo) (r_f_x : rgA f_x) (r_n_x : rgA n_x) (r_l_x : rgA l_x) (r_d_x : rgA d_x) (r_m_x : rgA m_x) (r_k_x : rgA k_x) (r_c_x : rgA c_x) (r_t_x : rgA t_x) (r_ev : rg ev) (r_hh : rg hh) (r_kn : rg kn) (r_isv : rg isv) (mm : SS) (nn : Int) (p0 : JA o_cu o_sv o_hs o_ol o_tt o_s0 o_s1 o_s2 o_s3 o_cs o_ln mm nn f_x n_x l_x d_x m_x k_x c_x t_x) (p1 : 0 ≤ nn ∧ nn ≤ 4 * ev + 1) (p2 : 0 ≤ ev ∧ ev < 90) (p3 : isv = 1) : wp_B6 o_cu o_fo o_sv o_hs o_ol o_tt o_s0 o_s1 o_s2 o_s3 o_cs o_ln o_kd o_fk o_hd o_va o_le o_mo f_x n_x l_x d_x m_x k_x c_x t_x ev hh kn isv (fun o_cu o_fo o_sv o_hs o_ol o_tt o_s0 o_s1 o_s2 o_s3 o_cs o_ln o_kd o_fk o_hd o_va o_le o_mo f_x n_x l_x d_x m_x k_x c_x t_x i10 i13 => (i10 = ev ∧ i13 = 1) ∧ ∃ (mm : SS) (nn : Int), (0 ≤ nn ∧ nn ≤ 4 * ev + 5) ∧ JA o_cu o_sv o_hs o_ol o_tt o_s0 o_s1 o_s2 o_s3 o_cs o_ln mm nn f_x n_x l_x d_x m_x k_x c_x t_x) := by
  unfold wp_B6
  have hJ := p0
  obtain ⟨hR, hL, hC, hM⟩ := p0
  have hV : Vz (mm.2 0) := hR.1.2.1
  have n600 : 0 ≤ nn ∧ nn ≤ 600 := by omega
  have hbd := HInv_Bd hR.1.2 n600.2
  have B60 := hbd.1
  have B50 := hbd.2
  obtain ⟨⟨b4, b7, b8, b9⟩, _⟩ := hbd
  have hb := hV.1
  have hz3 := hb.1
  have hz4 := hb.2.2.1
  have h120 := hb.2.1
  have hV' := hV
  obtain ⟨_, ⟨v0, v1, v2, v5, v6, v7, v8, v9⟩, _, _, vc, vm, _, vi, _, _⟩ := hV'
  have hL' := hL
  obtain ⟨⟨t0, t1, t2, t3, t4, t5, t7, t8, t9, t6⟩, hk, hmm, hF, hX, hT, h56⟩ := hL'
  have same : (ev = ev ∧ isv = 1) ∧ ∃ (mm : SS) (nn : Int), (0 ≤ nn ∧ nn ≤ 4 * ev + 5) ∧ JA o_cu o_sv o_hs o_ol o_tt o_s0 o_s1 o_s2 o_s3 o_cs o_ln mm nn f_x n_x l_x d_x m_x k_x c_x t_x := ⟨⟨rfl, p3⟩, mm, nn, ⟨by omega, by omega⟩, hJ⟩
  refine ⟨fun c19 q1 rq1 => ⟨by decide, fun w rw_ hw => ⟨fun c0 => ⟨mm.2 0, hL, hC, hV, by omega, B60, Or.inl rfl, fun r1 rr1 hg => ?_⟩, fun c0 => same⟩⟩, fun c19 => same⟩
  unfold growZ at hg
  rw [t0, gra_self hV hM] at hg
  refine ⟨fun n1 => ?_, fun n1 => ?_⟩
  · rcases hg with ⟨hc, y, hA, e⟩ | ⟨hc, e⟩
    · have := All_upd hV (by omega) hc hA
      omega
    · refine ⟨mm, nn, hR, n600, fun z1 cu1 ol1 tt1 x1a x1b x1c x1d _ _ _ _ _ _ _ _ ⟨m', e1, hR1⟩ => ?_⟩
      rcases e1 with ⟨_, e1, em⟩ | ⟨g, _⟩
      · rw [em] at hR1
        exact ⟨fun _ => ⟨⟨rfl, rfl⟩, mm, nn + 1, ⟨by omega, by omega⟩, hR1, hL, hC, hM⟩, fun q => absurd e1 q⟩
      · exact absurd g hc
  · rcases hg with ⟨hc, y, hA, e⟩ | ⟨hc, e⟩
    · refine ⟨mm, nn, hR, n600, fun z1 cu1 ol1 tt1 x1a x1b x1c x1d _ _ _ _ _ _ _ _ ⟨m', e1, hR1⟩ => ⟨mm.2 0, hL, hC, hV, B50, fun z2 uf un ul ud uc ut _ _ _ _ _ _ _ hr => ?_⟩⟩
      rcases e1 with ⟨g, _⟩ | ⟨_, y1, hA1, e1, em⟩
      · exact absurd hc g
      rcases hr with ⟨_, y2, hA2, e2, hL2, hC2⟩ | ⟨g, _⟩
      · have ey := AllZ_one hA1 hA2
        subst ey
        have U := All_upd hV (by omega) hc hA1
        have y5 : y1 5 = 0 := by
          have g := hA1.1
          unfold goOn at g
          have := U.1.2.1.2.2.2.1
          omega
        rw [em] at hR1
        refine ⟨fun _ => ⟨⟨rfl, rfl⟩, nxM mm y1, nn + 1, ⟨by omega, by omega⟩, hR1, ?_, ?_, ?_⟩, fun q => absurd (by omega) q⟩
        · rw [nxM_0]; exact hL2
        · rw [nxM_0]; exact hC2
        · rw [nxM_0]; exact MW_5 y5
      · exact absurd hc g
    · omega
set_option maxRecDepth 100000 in
def wp_C0 (o_cu : SS) (o_fo : SS) (o_sv : SS) (o_hs : Int) (o_ol : Int) (o_tt : Int) (o_s0 : SS) (o_s1 : SS) (o_s2 : SS) (o_s3 : SS) (o_cs : Int → Int) (o_ln : Int) (o_kd : Int) (o_fk : Int) (o_hd : Int) (o_va : Int) (o_le : Int) (o_mo : Int) (f_x : Int → Int) (n_x : Int → Int) (l_x : Int → Int) (d_x : Int → Int) (m_x : Int → Int) (k_x : Int → Int) (c_x : Int → Int) (t_x : Int → Int) (ev : Int) (isv : Int) (P104 : SS → SS → SS → Int → Int → Int → SS → SS → SS → SS → (Int → Int) → Int → Int → Int → Int → Int → Int → Int → (Int → Int) → (Int → Int) → (Int → Int) → (Int → Int) → (Int → Int) → (Int → Int) → (Int → Int) → (Int → Int) → Int → Prop) : Prop :=
  rg (100 + ev) ∧ ((0 : Int) ≤ (100 + ev) ∧ (∀ z5 : Int, rg z5 → (∀ q8 : Int, rg q8 → ((0 < (19 : Int)) ∧ (∀ (z14 : Int), rg z14 → (0 ≤ z14 ∧ z14 < (19 : Int)) → (rg (2 + z14) ∧ (((isv = 0) → (False)) ∧ ((¬ (isv = 0)) → (∀ q25 : Int, rg q25 → (∃ (g28 : SS) (g29 : Int), (Rep6 o_cu o_sv o_hs o_ol o_tt o_s0 o_s1 o_s2 o_s3 o_cs o_ln g28 g29) ∧ ((0 ≤ g29 ∧ g29 ≤ 600) ∧ ((LV f_x n_x l_x d_x m_x k_x t_x (g28.2 0)) ∧ ((LC c_x (g28.2 0)) ∧ (∀ (z40 : Int), rg z40 → (z40 = 1) → (((z40 = 0) → (False)) ∧ ((¬ (z40 = 0)) → (∃ (g49 : SS) (g50 : Int) (g51 : Int → Int), (Rep6 o_cu o_sv o_hs o_ol o_tt o_s0 o_s1 o_s2 o_s3 o_cs o_ln g49 g50) ∧ ((0 ≤ g50 ∧ g50 ≤ 600) ∧ ((LV f_x n_x l_x d_x g51 k_x t_x (g49.2 0)) ∧ ((LC c_x (g49.2 0)) ∧ (∀ (z62 : Int), rg z62 → (z62 = 1) → (((z62 = 0) → (False)) ∧ ((¬ (z62 = 0)) → (0 ≤ ev ∧ ((((ev % 3) = 0) → (∃ (g80 : SS) (g81 : Int), (Rep6 o_cu o_sv o_hs o_ol o_tt o_s0 o_s1 o_s2 o_s3 o_cs o_ln g80 g81) ∧ ((0 ≤ g81 ∧ g81 ≤ 600) ∧ (∀ (z89 : Int) (u_fo87 : SS), rg z89 → RG u_fo87 → ((if 2 ≤ (2 + z14) ∧ (2 + z14) ≤ 20 then growZ (g80.2 0) (2 + z14) 7 z89 else z89 = -2)) → (∃ (g93 : Int → Int), (LV f_x n_x l_x d_x m_x k_x t_x g93) ∧ ((LC c_x g93) ∧ ((Vz g93) ∧ ((2 ≤ (2 + z14) ∧ (2 + z14) ≤ 20) ∧ ((Bd g93 60000) ∧ (((7 : Int) = 7 ∨ (7 : Int) = 8) ∧ (∀ (z108 : Int), rg z108 → (growZ g93 (2 + z14) (7 : Int) z108) → (((z89 = z108) → (∃ (g117 : SS) (g118 : Int), (Rep6 o_cu o_sv o_hs o_ol o_tt o_s0 o_s1 o_s2 o_s3 o_cs o_ln g117 g118) ∧ ((0 ≤ g118 ∧ g118 ≤ 600) ∧ (∀ (z126 : Int) (u_fo124 : SS), rg z126 → RG u_fo124 → ((if 2 ≤ (2 + z14) ∧ (2 + z14) ≤ 20 then growZ (g117.2 0) (2 + z14) 8 z126 else z126 = -2)) → (∃ (g130 : Int → Int), (LV f_x n_x l_x d_x m_x k_x t_x g130) ∧ ((LC c_x g130) ∧ ((Vz g130) ∧ ((Bd g130 60000) ∧ (((8 : Int) = 7 ∨ (8 : Int) = 8) ∧ (∀ (z143 : Int), rg z143 → (growZ g130 (2 + z14) (8 : Int) z143) → (((z126 = z143) → (rg (ev + 1) ∧ (P104 o_cu u_fo124 o_sv o_hs o_ol o_tt o_s0 o_s1 o_s2 o_s3 o_cs o_ln o_kd o_fk o_hd o_va o_le o_mo f_x n_x l_x d_x m_x k_x c_x t_x (ev + 1)))) ∧ ((¬ (z126 = z143)) → (False))))))))))))) ∧ ((¬ (z89 = z108)) → (False)))))))))))))) ∧ ((¬ ((ev % 3) = 0)) → (rg (ev + 1) ∧ (P104 o_cu o_fo o_sv o_hs o_ol o_tt o_s0 o_s1 o_s2 o_s3 o_cs o_ln o_kd o_fk o_hd o_va o_le o_mo f_x n_x l_x d_x m_x k_x c_x t_x (ev + 1)))))))))))))))))))))))))))))
set_option maxRecDepth 100000 in
set_option maxHeartbeats 4000000 in
theorem sp_C0 (o_cu : SS) (o_fo : SS) (o_sv : SS) (o_hs : Int) (o_ol : Int) (o_tt : Int) (o_s0 : SS) (o_s1 : SS) (o_s2 : SS) (o_s3 : SS) (o_cs : Int → Int) (o_ln : Int) (o_kd : Int) (o_fk : Int) (o_hd : Int) (o_va : Int) (o_le : Int) (o_mo : Int) (f_x : Int → Int) (n_x : Int → Int) (l_x : Int → Int) (d_x : Int → Int) (m_x : Int → Int) (k_x : Int → Int) (c_x : Int → Int) (t_x : Int → Int) (ev : Int) (isv : Int) (r_o_cu : RG o_cu) (r_o_fo : RG o_fo) (r_o_sv : RG o_sv) (r_o_hs : rg o_hs) (r_o_ol : rg o_ol) (r_o_tt : rg o_tt) (r_o_s0 : RG o_s0) (r_o_s1 : RG o_s1) (r_o_s2 : RG o_s2) (r_o_s3 : RG o_s3) (r_o_cs : rgA o_cs) (r_o_ln : rg o_ln) (r_o_kd : rg o_kd) (r_o_fk : rg o_fk) (r_o_hd : rg o_hd) (r_o_va : rg o_va) (r_o_le : rg o_le) (r_o_mo : rg o_mo) (r_f_x : rgA f_x) (r_n_x : rgA n_x) (r_l_x : rgA l_x) (r_d_x : rgA d_x) (r_m_x : rgA m_x) (r_k_x : rgA k_x) (r_c_x : rgA c_x) (r_t_x : rgA t_x) (r_ev : rg ev) (r_isv : rg isv) (mm : SS) (nn : Int) (p0 : JA o_cu o_sv o_hs o_ol o_tt o_s0 o_s1 o_s2 o_s3 o_cs o_ln mm nn f_x n_x l_x d_x m_x k_x c_x t_x) (p1 : 0 ≤ nn ∧ nn ≤ 4 * ev + 5) (p2 : 0 ≤ ev ∧ ev < 90) (p3 : isv = 1) : wp_C0 o_cu o_fo o_sv o_hs o_ol o_tt o_s0 o_s1 o_s2 o_s3 o_cs o_ln o_kd o_fk o_hd o_va o_le o_mo f_x n_x l_x d_x m_x k_x c_x t_x ev isv (fun o_cu o_fo o_sv o_hs o_ol o_tt o_s0 o_s1 o_s2 o_s3 o_cs o_ln o_kd o_fk o_hd o_va o_le o_mo f_x n_x l_x d_x m_x k_x c_x t_x i10 => i10 = ev + 1 ∧ ∃ (mm : SS) (nn : Int), (0 ≤ nn ∧ nn ≤ 4 * ev + 5) ∧ JA o_cu o_sv o_hs o_ol o_tt o_s0 o_s1 o_s2 o_s3 o_cs o_ln mm nn f_x n_x l_x d_x m_x k_x c_x t_x) := by
  unfold wp_C0
  have hJ := p0
  obtain ⟨hR, hL, hC, hM⟩ := p0
  have hV : Vz (mm.2 0) := hR.1.2.1
  have n600 : 0 ≤ nn ∧ nn ≤ 600 := by omega
  have hbd := HInv_Bd hR.1.2 n600.2
  have B60 := hbd.1
  have B50 := hbd.2
  obtain ⟨⟨b4, b7, b8, b9⟩, _⟩ := hbd
  have hb := hV.1
  have hz3 := hb.1
  have hz4 := hb.2.2.1
  have h120 := hb.2.1
  have hV' := hV
  obtain ⟨_, ⟨v0, v1, v2, v5, v6, v7, v8, v9⟩, _, _, vc, vm, _, vi, _, _⟩ := hV'
  have hL' := hL
  obtain ⟨⟨t0, t1, t2, t3, t4, t5, t7, t8, t9, t6⟩, hk, hmm, hF, hX, hT, h56⟩ := hL'
  refine ⟨by unfold rg; omega, by omega, fun x rx q1 rq1 => ⟨by decide, fun w rw_ hw => ⟨by unfold rg; omega, fun c => by omega, fun _ q2 rq2 => ⟨mm, nn, hR, n600, hL, hC, fun z1 r1 e1 => ⟨fun c => by omega, fun _ => ⟨mm, nn, m_x, hR, n600, hL, hC, fun z2 r2 e2 => ⟨fun c => by omega, fun _ => ⟨p2.1, fun c3 => ?_, fun c3 => ⟨by unfold rg; omega, rfl, mm, nn, p1, hR, hL, hC, hM⟩⟩⟩⟩⟩⟩⟩⟩⟩
  have hs : 2 ≤ 2 + w ∧ 2 + w ≤ 20 := by omega
  refine ⟨mm, nn, hR, n600, fun z3 fo r3 rfo h3 => ⟨mm.2 0, hL, hC, hV, hs, B60, Or.inl rfl, fun z4 r4 h4 => ⟨fun _ => ⟨mm, nn, hR, n600, fun z5 fo2 r5 rfo2 h5 => ⟨mm.2 0, hL, hC, hV, B60, Or.inr rfl, fun z6 r6 h6 => ⟨fun _ => ⟨by unfold rg; omega, rfl, mm, nn, p1, hR, hL, hC, hM⟩, fun q => q ?_⟩⟩⟩, fun q => q ?_⟩⟩⟩
  · rw [if_pos hs] at h5
    exact growZ_one h5 h6
  · rw [if_pos hs] at h3
    exact growZ_one h3 h4
set_option maxRecDepth 100000 in
def wp_D0 (o_cu : SS) (o_fo : SS) (o_sv : SS) (o_hs : Int) (o_ol : Int) (o_tt : Int) (o_s0 : SS) (o_s1 : SS) (o_s2 : SS) (o_s3 : SS) (o_cs : Int → Int) (o_ln : Int) (o_kd : Int) (o_fk : Int) (o_hd : Int) (o_va : Int) (o_le : Int) (o_mo : Int) (f_x : Int → Int) (n_x : Int → Int) (l_x : Int → Int) (d_x : Int → Int) (m_x : Int → Int) (k_x : Int → Int) (c_x : Int → Int) (t_x : Int → Int) (ev : Int) (P928 : SS → SS → SS → Int → Int → Int → SS → SS → SS → SS → (Int → Int) → Int → Int → Int → Int → Int → Int → Int → (Int → Int) → (Int → Int) → (Int → Int) → (Int → Int) → (Int → Int) → (Int → Int) → (Int → Int) → (Int → Int) → Int → Int → Int → Prop) : Prop :=
  P928 o_cu o_fo o_sv o_hs o_ol o_tt o_s0 o_s1 o_s2 o_s3 o_cs o_ln o_kd o_fk o_hd o_va o_le o_mo f_x n_x l_x d_x m_x k_x c_x t_x (-1) 0 20
set_option maxRecDepth 100000 in
set_option maxHeartbeats 4000000 in
theorem sp_D0 (o_cu : SS) (o_fo : SS) (o_sv : SS) (o_hs : Int) (o_ol : Int) (o_tt : Int) (o_s0 : SS) (o_s1 : SS) (o_s2 : SS) (o_s3 : SS) (o_cs : Int → Int) (o_ln : Int) (o_kd : Int) (o_fk : Int) (o_hd : Int) (o_va : Int) (o_le : Int) (o_mo : Int) (f_x : Int → Int) (n_x : Int → Int) (l_x : Int → Int) (d_x : Int → Int) (m_x : Int → Int) (k_x : Int → Int) (c_x : Int → Int) (t_x : Int → Int) (ev : Int) (r_o_cu : RG o_cu) (r_o_fo : RG o_fo) (r_o_sv : RG o_sv) (r_o_hs : rg o_hs) (r_o_ol : rg o_ol) (r_o_tt : rg o_tt) (r_o_s0 : RG o_s0) (r_o_s1 : RG o_s1) (r_o_s2 : RG o_s2) (r_o_s3 : RG o_s3) (r_o_cs : rgA o_cs) (r_o_ln : rg o_ln) (r_o_kd : rg o_kd) (r_o_fk : rg o_fk) (r_o_hd : rg o_hd) (r_o_va : rg o_va) (r_o_le : rg o_le) (r_o_mo : rg o_mo) (r_f_x : rgA f_x) (r_n_x : rgA n_x) (r_l_x : rgA l_x) (r_d_x : rgA d_x) (r_m_x : rgA m_x) (r_k_x : rgA k_x) (r_c_x : rgA c_x) (r_t_x : rgA t_x) (r_ev : rg ev) (mm : SS) (nn : Int) (p0 : JA o_cu o_sv o_hs o_ol o_tt o_s0 o_s1 o_s2 o_s3 o_cs o_ln mm nn f_x n_x l_x d_x m_x k_x c_x t_x) : wp_D0 o_cu o_fo o_sv o_hs o_ol o_tt o_s0 o_s1 o_s2 o_s3 o_cs o_ln o_kd o_fk o_hd o_va o_le o_mo f_x n_x l_x d_x m_x k_x c_x t_x ev (fun o_cu o_fo o_sv o_hs o_ol o_tt o_s0 o_s1 o_s2 o_s3 o_cs o_ln o_kd o_fk o_hd o_va o_le o_mo f_x n_x l_x d_x m_x k_x c_x t_x b l s => JA o_cu o_sv o_hs o_ol o_tt o_s0 o_s1 o_s2 o_s3 o_cs o_ln mm nn f_x n_x l_x d_x m_x k_x c_x t_x ∧ BI (mm.2 0) b l s) := by
  unfold wp_D0
  exact ⟨p0, BI_0⟩
set_option maxRecDepth 100000 in
def wp_D1 (o_cu : SS) (o_fo : SS) (o_sv : SS) (o_hs : Int) (o_ol : Int) (o_tt : Int) (o_s0 : SS) (o_s1 : SS) (o_s2 : SS) (o_s3 : SS) (o_cs : Int → Int) (o_ln : Int) (o_kd : Int) (o_fk : Int) (o_hd : Int) (o_va : Int) (o_le : Int) (o_mo : Int) (f_x : Int → Int) (n_x : Int → Int) (l_x : Int → Int) (d_x : Int → Int) (m_x : Int → Int) (k_x : Int → Int) (c_x : Int → Int) (t_x : Int → Int) (bst : Int) (lst : Int) (sz : Int) (P928 : SS → SS → SS → Int → Int → Int → SS → SS → SS → SS → (Int → Int) → Int → Int → Int → Int → Int → Int → Int → (Int → Int) → (Int → Int) → (Int → Int) → (Int → Int) → (Int → Int) → (Int → Int) → (Int → Int) → (Int → Int) → Int → Int → Int → Prop) : Prop :=
  ∃ (g1 : Int → Int), (LV f_x n_x l_x d_x m_x k_x t_x g1) ∧ ((LC c_x g1) ∧ ((Vz g1) ∧ ((2 ≤ sz ∧ sz ≤ 20) ∧ ((Bd g1 60000) ∧ (((7 : Int) = 7 ∨ (7 : Int) = 8) ∧ (∀ (z16 : Int), rg z16 → (growZ g1 sz (7 : Int) z16) → (((z16 < 0) → (((bst = sz) → (rg (sz + (-1)) ∧ (P928 o_cu o_fo o_sv o_hs o_ol o_tt o_s0 o_s1 o_s2 o_s3 o_cs o_ln o_kd o_fk o_hd o_va o_le o_mo f_x n_x l_x d_x m_x k_x c_x t_x bst z16 (sz + (-1))))) ∧ ((¬ (bst = sz)) → (rg (sz + (-1)) ∧ (P928 o_cu o_fo o_sv o_hs o_ol o_tt o_s0 o_s1 o_s2 o_s3 o_cs o_ln o_kd o_fk o_hd o_va o_le o_mo f_x n_x l_x d_x m_x k_x c_x t_x bst lst (sz + (-1))))))) ∧ ((¬ (z16 < 0)) → (((bst < 0) → (((sz = sz) → (rg (sz + (-1)) ∧ (P928 o_cu o_fo o_sv o_hs o_ol o_tt o_s0 o_s1 o_s2 o_s3 o_cs o_ln o_kd o_fk o_hd o_va o_le o_mo f_x n_x l_x d_x m_x k_x c_x t_x sz z16 (sz + (-1))))) ∧ ((¬ (sz = sz)) → (rg (sz + (-1)) ∧ (P928 o_cu o_fo o_sv o_hs o_ol o_tt o_s0 o_s1 o_s2 o_s3 o_cs o_ln o_kd o_fk o_hd o_va o_le o_mo f_x n_x l_x d_x m_x k_x c_x t_x sz lst (sz + (-1))))))) ∧ ((¬ (bst < 0)) → (((lst < z16) → (((bst = sz) → (rg (sz + (-1)) ∧ (P928 o_cu o_fo o_sv o_hs o_ol o_tt o_s0 o_s1 o_s2 o_s3 o_cs o_ln o_kd o_fk o_hd o_va o_le o_mo f_x n_x l_x d_x m_x k_x c_x t_x bst z16 (sz + (-1))))) ∧ ((¬ (bst = sz)) → (rg (sz + (-1)) ∧ (P928 o_cu o_fo o_sv o_hs o_ol o_tt o_s0 o_s1 o_s2 o_s3 o_cs o_ln o_kd o_fk o_hd o_va o_le o_mo f_x n_x l_x d_x m_x k_x c_x t_x bst lst (sz + (-1))))))) ∧ ((¬ (lst < z16)) → (((sz = sz) → (rg (sz + (-1)) ∧ (P928 o_cu o_fo o_sv o_hs o_ol o_tt o_s0 o_s1 o_s2 o_s3 o_cs o_ln o_kd o_fk o_hd o_va o_le o_mo f_x n_x l_x d_x m_x k_x c_x t_x sz z16 (sz + (-1))))) ∧ ((¬ (sz = sz)) → (rg (sz + (-1)) ∧ (P928 o_cu o_fo o_sv o_hs o_ol o_tt o_s0 o_s1 o_s2 o_s3 o_cs o_ln o_kd o_fk o_hd o_va o_le o_mo f_x n_x l_x d_x m_x k_x c_x t_x sz lst (sz + (-1))))))))))))))))))
set_option maxRecDepth 100000 in
set_option maxHeartbeats 4000000 in
theorem sp_D1 (o_cu : SS) (o_fo : SS) (o_sv : SS) (o_hs : Int) (o_ol : Int) (o_tt : Int) (o_s0 : SS) (o_s1 : SS) (o_s2 : SS) (o_s3 : SS) (o_cs : Int → Int) (o_ln : Int) (o_kd : Int) (o_fk : Int) (o_hd : Int) (o_va : Int) (o_le : Int) (o_mo : Int) (f_x : Int → Int) (n_x : Int → Int) (l_x : Int → Int) (d_x : Int → Int) (m_x : Int → Int) (k_x : Int → Int) (c_x : Int → Int) (t_x : Int → Int) (bst : Int) (lst : Int) (sz : Int) (r_o_cu : RG o_cu) (r_o_fo : RG o_fo) (r_o_sv : RG o_sv) (r_o_hs : rg o_hs) (r_o_ol : rg o_ol) (r_o_tt : rg o_tt) (r_o_s0 : RG o_s0) (r_o_s1 : RG o_s1) (r_o_s2 : RG o_s2) (r_o_s3 : RG o_s3) (r_o_cs : rgA o_cs) (r_o_ln : rg o_ln) (r_o_kd : rg o_kd) (r_o_fk : rg o_fk) (r_o_hd : rg o_hd) (r_o_va : rg o_va) (r_o_le : rg o_le) (r_o_mo : rg o_mo) (r_f_x : rgA f_x) (r_n_x : rgA n_x) (r_l_x : rgA l_x) (r_d_x : rgA d_x) (r_m_x : rgA m_x) (r_k_x : rgA k_x) (r_c_x : rgA c_x) (r_t_x : rgA t_x) (r_bst : rg bst) (r_lst : rg lst) (r_sz : rg sz) (mm : SS) (nn : Int) (p0 : JA o_cu o_sv o_hs o_ol o_tt o_s0 o_s1 o_s2 o_s3 o_cs o_ln mm nn f_x n_x l_x d_x m_x k_x c_x t_x) (p1 : 0 ≤ nn ∧ nn ≤ 600) (p2 : BI (mm.2 0) bst lst sz) (hsz : 1 < sz) : wp_D1 o_cu o_fo o_sv o_hs o_ol o_tt o_s0 o_s1 o_s2 o_s3 o_cs o_ln o_kd o_fk o_hd o_va o_le o_mo f_x n_x l_x d_x m_x k_x c_x t_x bst lst sz (fun o_cu o_fo o_sv o_hs o_ol o_tt o_s0 o_s1 o_s2 o_s3 o_cs o_ln o_kd o_fk o_hd o_va o_le o_mo f_x n_x l_x d_x m_x k_x c_x t_x b l s => JA o_cu o_sv o_hs o_ol o_tt o_s0 o_s1 o_s2 o_s3 o_cs o_ln mm nn f_x n_x l_x d_x m_x k_x c_x t_x ∧ BI (mm.2 0) b l s ∧ s = sz - 1) := by
  unfold wp_D1
  have hJ := p0
  obtain ⟨hR, hL, hC, hM⟩ := p0
  have hV : Vz (mm.2 0) := hR.1.2.1
  have n600 : 0 ≤ nn ∧ nn ≤ 600 := by omega
  have hbd := HInv_Bd hR.1.2 n600.2
  have B60 := hbd.1
  have B50 := hbd.2
  obtain ⟨⟨b4, b7, b8, b9⟩, _⟩ := hbd
  have hb := hV.1
  have hz3 := hb.1
  have hz4 := hb.2.2.1
  have h120 := hb.2.1
  have hV' := hV
  obtain ⟨_, ⟨v0, v1, v2, v5, v6, v7, v8, v9⟩, _, _, vc, vm, _, vi, _, _⟩ := hV'
  have hL' := hL
  obtain ⟨⟨t0, t1, t2, t3, t4, t5, t7, t8, t9, t6⟩, hk, hmm, hF, hX, hT, h56⟩ := hL'
  refine ⟨mm.2 0, hL, hC, hV, ⟨by omega, p2.1.2⟩, B60, Or.inl rfl, fun r rr hg => ?_⟩
  obtain ⟨g1, g2, g3⟩ := BI_step p2 hsz hg
  have e : sz + (-1) = sz - 1 := by omega
  rw [e]
  have s1 := p2.1
  refine ⟨fun c => ⟨fun q => absurd q g3, fun _ => ⟨by unfold rg; omega, hJ, g1 (Or.inl c), rfl⟩⟩, fun c => ⟨fun c2 => ⟨fun _ => ⟨by unfold rg; omega, hJ, g2 ⟨by omega, Or.inl c2⟩, rfl⟩, fun q => absurd rfl q⟩, fun c2 => ⟨fun c3 => ⟨fun q => absurd q g3, fun _ => ⟨by unfold rg; omega, hJ, g1 (Or.inr ⟨c2, c3⟩), rfl⟩⟩, fun c3 => ⟨fun _ => ⟨by unfold rg; omega, hJ, g2 ⟨by omega, Or.inr (by omega)⟩, rfl⟩, fun q => absurd rfl q⟩⟩⟩⟩
set_option maxRecDepth 100000 in
def wp_D2 (o_cu : SS) (o_fo : SS) (o_sv : SS) (o_hs : Int) (o_ol : Int) (o_tt : Int) (o_s0 : SS) (o_s1 : SS) (o_s2 : SS) (o_s3 : SS) (o_cs : Int → Int) (o_ln : Int) (o_kd : Int) (o_fk : Int) (o_hd : Int) (o_va : Int) (o_le : Int) (o_mo : Int) (f_x : Int → Int) (n_x : Int → Int) (l_x : Int → Int) (d_x : Int → Int) (m_x : Int → Int) (k_x : Int → Int) (c_x : Int → Int) (t_x : Int → Int) (bst : Int) (lst : Int) (sz : Int)  : Prop :=
  ∃ (g1 : SS) (g2 : Int), (Rep6 o_cu o_sv o_hs o_ol o_tt o_s0 o_s1 o_s2 o_s3 o_cs o_ln g1 g2) ∧ ((0 ≤ g2 ∧ g2 ≤ 600) ∧ (∀ (z10 : Int) (u_fo8 : SS), rg z10 → RG u_fo8 → (∃ c : Int → Int, (∀ k, 2 ≤ k → k ≤ 20 → growZ (g1.2 0) k 7 (c k)) ∧ z10 = bsF c 19) → (((z10 = bst) → (True)) ∧ ((¬ (z10 = bst)) → (False)))))
set_option maxRecDepth 100000 in
set_option maxHeartbeats 4000000 in
theorem sp_D2 (o_cu : SS) (o_fo : SS) (o_sv : SS) (o_hs : Int) (o_ol : Int) (o_tt : Int) (o_s0 : SS) (o_s1 : SS) (o_s2 : SS) (o_s3 : SS) (o_cs : Int → Int) (o_ln : Int) (o_kd : Int) (o_fk : Int) (o_hd : Int) (o_va : Int) (o_le : Int) (o_mo : Int) (f_x : Int → Int) (n_x : Int → Int) (l_x : Int → Int) (d_x : Int → Int) (m_x : Int → Int) (k_x : Int → Int) (c_x : Int → Int) (t_x : Int → Int) (bst : Int) (lst : Int) (sz : Int) (r_o_cu : RG o_cu) (r_o_fo : RG o_fo) (r_o_sv : RG o_sv) (r_o_hs : rg o_hs) (r_o_ol : rg o_ol) (r_o_tt : rg o_tt) (r_o_s0 : RG o_s0) (r_o_s1 : RG o_s1) (r_o_s2 : RG o_s2) (r_o_s3 : RG o_s3) (r_o_cs : rgA o_cs) (r_o_ln : rg o_ln) (r_o_kd : rg o_kd) (r_o_fk : rg o_fk) (r_o_hd : rg o_hd) (r_o_va : rg o_va) (r_o_le : rg o_le) (r_o_mo : rg o_mo) (r_f_x : rgA f_x) (r_n_x : rgA n_x) (r_l_x : rgA l_x) (r_d_x : rgA d_x) (r_m_x : rgA m_x) (r_k_x : rgA k_x) (r_c_x : rgA c_x) (r_t_x : rgA t_x) (r_bst : rg bst) (r_lst : rg lst) (r_sz : rg sz) (mm : SS) (nn : Int) (p0 : JA o_cu o_sv o_hs o_ol o_tt o_s0 o_s1 o_s2 o_s3 o_cs o_ln mm nn f_x n_x l_x d_x m_x k_x c_x t_x) (p1 : 0 ≤ nn ∧ nn ≤ 600) (p2 : BI (mm.2 0) bst lst sz) (hsz : ¬ 1 < sz) : wp_D2 o_cu o_fo o_sv o_hs o_ol o_tt o_s0 o_s1 o_s2 o_s3 o_cs o_ln o_kd o_fk o_hd o_va o_le o_mo f_x n_x l_x d_x m_x k_x c_x t_x bst lst sz  := by
  unfold wp_D2
  have hJ := p0
  obtain ⟨hR, hL, hC, hM⟩ := p0
  have hV : Vz (mm.2 0) := hR.1.2.1
  have n600 : 0 ≤ nn ∧ nn ≤ 600 := by omega
  have hbd := HInv_Bd hR.1.2 n600.2
  have B60 := hbd.1
  have B50 := hbd.2
  obtain ⟨⟨b4, b7, b8, b9⟩, _⟩ := hbd
  have hb := hV.1
  have hz3 := hb.1
  have hz4 := hb.2.2.1
  have h120 := hb.2.1
  have hV' := hV
  obtain ⟨_, ⟨v0, v1, v2, v5, v6, v7, v8, v9⟩, _, _, vc, vm, _, vi, _, _⟩ := hV'
  have hL' := hL
  obtain ⟨⟨t0, t1, t2, t3, t4, t5, t7, t8, t9, t6⟩, hk, hmm, hF, hX, hT, h56⟩ := hL'
  have s1 : sz = 1 := by have := p2.1; omega
  rw [s1] at p2
  refine ⟨mm, nn, hR, n600, fun z1 fo r1 rfo ⟨c, h1, h2⟩ => ⟨fun _ => trivial, fun q => q (BI_end hV B60 p2 h1 h2)⟩⟩
