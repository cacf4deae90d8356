theorem hdL_tells : yL_tells.cls ≠ "java/lang/invoke/MethodHandle" ∧ yL_tells.cls ≠ "java/lang/invoke/VarHandle" ∧ (parseMethodDescriptor yL_tells.desc).map (fun d => d.parameters.length) = some 10 := by decide +kernel
set_option maxRecDepth 100000 in
set_option maxHeartbeats 4000000 in
theorem c0_L_tells (l : Launch) (G : ZG) (o_a0 : Nat) (o_a1 : Nat) (o_a2 : Nat) (o_a3 : Nat) (o_a4 : Nat → Nat) (o_a5 : Nat) (o_a6 : Nat) (o_a7 : Nat → Nat) (o_a8 : Nat → Nat) (o_a9 : Nat → Nat) (o_a10 : Nat → Nat) (o_a11 : Nat → Nat) (o_a12 : Nat → Nat) (f_a0 : Nat) (n_a0 : Nat) (l_a0 : Nat) (d_a0 : Nat) (m_a0 : Nat) (k_a0 : Nat) (c_a0 : Nat) (t_a0 : Nat) (o_cu : SS) (o_fo : SS) (o_sv : SS) (o_hs : Int) (o_ol : Int) (o_tt : Int) (o_s0 : SS) (o_s1 : SS) (o_s2 : SS) (o_s3 : SS) (o_cs : Int → Int) (o_ln : Int) (o_kd : Int) (o_fk : Int) (o_hd : Int) (o_va : Int) (o_le : Int) (o_mo : Int) (f_x : Int → Int) (n_x : Int → Int) (l_x : Int → Int) (d_x : Int → Int) (m_x : Int → Int) (k_x : Int → Int) (c_x : Int → Int) (t_x : Int → Int) (x : Int) (P : Int → Prop) (r_o_cu : RG o_cu) (r_o_fo : RG o_fo) (r_o_sv : RG o_sv) (r_o_hs : rg o_hs) (r_o_ol : rg o_ol) (r_o_tt : rg o_tt) (r_o_s0 : RG o_s0) (r_o_s1 : RG o_s1) (r_o_s2 : RG o_s2) (r_o_s3 : RG o_s3) (r_o_cs : rgA o_cs) (r_o_ln : rg o_ln) (r_o_kd : rg o_kd) (r_o_fk : rg o_fk) (r_o_hd : rg o_hd) (r_o_va : rg o_va) (r_o_le : rg o_le) (r_o_mo : rg o_mo) (r_f_x : rgA f_x) (r_n_x : rgA n_x) (r_l_x : rgA l_x) (r_d_x : rgA d_x) (r_m_x : rgA m_x) (r_k_x : rgA k_x) (r_c_x : rgA c_x) (r_t_x : rgA t_x) (r_x : rg x) (hwp : wp_L_tells o_cu o_fo o_sv o_hs o_ol o_tt o_s0 o_s1 o_s2 o_s3 o_cs o_ln o_kd o_fk o_hd o_va o_le o_mo f_x n_x l_x d_x m_x k_x c_x t_x x P) : ZI l G yL_tells wsL_tells 3 65 [.ref o_a0, .ref f_a0, .ref n_a0, .ref l_a0, .ref d_a0, .ref m_a0, .ref k_a0, .ref c_a0, .ref t_a0, .int (iI x)] (flt [W6o G o_a0 o_a4 o_a11 o_a12 o_a5 o_a1 o_a3 o_hs, W0 G o_a1 o_a2 o_cs o_ln, W2 G o_a3 o_kd o_fk o_hd o_va o_le o_mo, W5 G o_a4 o_cu, W1h G o_a5 o_a6 o_a7 o_a8 o_a9 o_a10 o_ol o_tt, W5 G o_a7 o_s0, W5 G o_a8 o_s1, W5 G o_a9 o_s2, W5 G o_a10 o_s3, W5 G o_a11 o_fo, W5 G o_a12 o_sv, [(f_a0, eI G 60 f_x)], [(n_a0, eI G 64 n_x)], [(l_a0, eI G 64 l_x)], [(d_a0, eI G 64 d_x)], [(m_a0, eI G 20 m_x)], [(k_a0, eI G 60 k_x)], [(c_a0, eI G 60 c_x)], [(t_a0, eI G 12 t_x)]]) (fun u : Unit => flt [W6o G o_a0 o_a4 o_a11 o_a12 o_a5 o_a1 o_a3 o_hs, W0 G o_a1 o_a2 o_cs o_ln, W2 G o_a3 o_kd o_fk o_hd o_va o_le o_mo, W5 G o_a4 o_cu, W1h G o_a5 o_a6 o_a7 o_a8 o_a9 o_a10 o_ol o_tt, W5 G o_a7 o_s0, W5 G o_a8 o_s1, W5 G o_a9 o_s2, W5 G o_a10 o_s3, W5 G o_a11 o_fo, W5 G o_a12 o_sv, [(f_a0, eI G 60 f_x)], [(n_a0, eI G 64 n_x)], [(l_a0, eI G 64 l_x)], [(d_a0, eI G 64 d_x)], [(m_a0, eI G 20 m_x)], [(k_a0, eI G 60 k_x)], [(c_a0, eI G 60 c_x)], [(t_a0, eI G 12 t_x)]]) (fun (z : Int) (u : Unit) => rg z ∧ P z) := by
  unfold wp_L_tells at hwp
  refine zm_i (cc := cL_tells) (maxL := 18) (ret := some .boolean) (own := RL) (lvs := [(0, .ref o_a0), (1, .ref f_a0), (2, .ref n_a0), (3, .ref l_a0), (4, .ref d_a0), (5, .ref m_a0), (6, .ref k_a0), (7, .ref c_a0), (8, .ref t_a0), (9, .int (iI x))]) (by decide) rfl rfl (Nat.le_of_ble_eq_true rfl) rfl ?_
  intro p e sT m args below meth c ls A hx hb hr hml hown hts hlocks hK hP hD hS hA hl
  refine lv_aload_n hx hb dL_tells_0 rfl (lv_at hl 3 rfl) ?_
  refine lv_aload hx hb dL_tells_1 (lv_at hl 8 rfl) ?_
  refine lv_bipush (v := iI 10) hx hb dL_tells_3 (by decide) ?_
  refine zr_iald (n := 12) (f := t_x) (i := 10) hx hb hK hP 111 rfl rg_10 ⟨by decide, by decide⟩ dL_tells_5 ?_
  obtain ⟨b1, h2⟩ := hwp
  obtain ⟨b3, h4⟩ := h2
  refine zs_viR (As := [.ref l_a0, .int (iI (t_x 10))]) (rest := []) (c_L_start l G l_a0 l_x (t_x 10) r_l_x (r_t_x 10) b1 b3) ⟨hx, hb, hml, hown, hts⟩ (va_cwS 2 hts gL_tells_L_start rfl rfl rfl hdL_start ⟨Nat.le_of_ble_eq_true rfl, Nat.le_of_ble_eq_true rfl⟩) hK hP hD hS hA [106] rfl rfl rfl hl.1 rfl (Nat.le_of_ble_eq_true rfl) dL_tells_6 ⟨Nat.zero_le _, Nat.zero_le _⟩ (fun z6 H locs hw hP hD hS => ?_)
  obtain ⟨rfl, r7⟩ := hw
  have hP : va_P G.1 vwCl (flt [W6o G o_a0 o_a4 o_a11 o_a12 o_a5 o_a1 o_a3 o_hs, W0 G o_a1 o_a2 o_cs o_ln, W2 G o_a3 o_kd o_fk o_hd o_va o_le o_mo, W5 G o_a4 o_cu, W1h G o_a5 o_a6 o_a7 o_a8 o_a9 o_a10 o_ol o_tt, W5 G o_a7 o_s0, W5 G o_a8 o_s1, W5 G o_a9 o_s2, W5 G o_a10 o_s3, W5 G o_a11 o_fo, W5 G o_a12 o_sv, [(f_a0, eI G 60 f_x)], [(n_a0, eI G 64 n_x)], [(l_a0, eI G 64 l_x)], [(d_a0, eI G 64 d_x)], [(m_a0, eI G 20 m_x)], [(k_a0, eI G 60 k_x)], [(c_a0, eI G 60 c_x)], [(t_a0, eI G 12 t_x)]]) H := hP
  have hD : va_D A (flt [W6o G o_a0 o_a4 o_a11 o_a12 o_a5 o_a1 o_a3 o_hs, W0 G o_a1 o_a2 o_cs o_ln, W2 G o_a3 o_kd o_fk o_hd o_va o_le o_mo, W5 G o_a4 o_cu, W1h G o_a5 o_a6 o_a7 o_a8 o_a9 o_a10 o_ol o_tt, W5 G o_a7 o_s0, W5 G o_a8 o_s1, W5 G o_a9 o_s2, W5 G o_a10 o_s3, W5 G o_a11 o_fo, W5 G o_a12 o_sv, [(f_a0, eI G 60 f_x)], [(n_a0, eI G 64 n_x)], [(l_a0, eI G 64 l_x)], [(d_a0, eI G 64 d_x)], [(m_a0, eI G 20 m_x)], [(k_a0, eI G 60 k_x)], [(c_a0, eI G 60 c_x)], [(t_a0, eI G 12 t_x)]]) := hD
  refine lv_aload hx hb dL_tells_9 (lv_at hl 8 rfl) ?_
  refine lv_bipush (v := iI 11) hx hb dL_tells_11 (by decide) ?_
  refine zr_iald (n := 12) (f := t_x) (i := 11) hx hb hK hP 111 rfl rg_11 ⟨by decide, by decide⟩ dL_tells_13 ?_
  refine zr_iadd (x := sumI l_x ((t_x 10)).toNat) (y := t_x 11) hx hb dL_tells_14 ?_
  obtain ⟨r8, h9⟩ := h4
  refine lv_istore (lv' := [(10, .int (iI ((sumI l_x ((t_x 10)).toNat) + (t_x 11)))), (0, .ref o_a0), (1, .ref f_a0), (2, .ref n_a0), (3, .ref l_a0), (4, .ref d_a0), (5, .ref m_a0), (6, .ref k_a0), (7, .ref c_a0), (8, .ref t_a0), (9, .int (iI x))]) hx hb dL_tells_15 hl (by decide) rfl (fun ls hl => ?_)
  refine lv_iconst (v := iI 0) hx hb dL_tells_17 rfl ?_
  refine lv_istore (lv' := [(11, .int (iI 0)), (10, .int (iI ((sumI l_x ((t_x 10)).toNat) + (t_x 11)))), (0, .ref o_a0), (1, .ref f_a0), (2, .ref n_a0), (3, .ref l_a0), (4, .ref d_a0), (5, .ref m_a0), (6, .ref k_a0), (7, .ref c_a0), (8, .ref t_a0), (9, .int (iI x))]) hx hb dL_tells_18 hl (by decide) rfl (fun ls hl => ?_)
  refine lv_iconst (v := iI 0) hx hb dL_tells_20 rfl ?_
  refine lv_istore (lv' := [(12, .int (iI 0)), (11, .int (iI 0)), (10, .int (iI ((sumI l_x ((t_x 10)).toNat) + (t_x 11)))), (0, .ref o_a0), (1, .ref f_a0), (2, .ref n_a0), (3, .ref l_a0), (4, .ref d_a0), (5, .ref m_a0), (6, .ref k_a0), (7, .ref c_a0), (8, .ref t_a0), (9, .int (iI x))]) hx hb dL_tells_21 hl (by decide) rfl (fun ls hl => ?_)
  refine lv_iload hx hb dL_tells_23 (lv_at hl 12 rfl) ?_
  refine lv_iload hx hb dL_tells_25 (lv_at hl 12 rfl) ?_
  refine lv_bipush (v := iI 12) hx hb dL_tells_27 (by decide) ?_
  refine zr_ishr (x := x) (y := 12) hx hb dL_tells_29 (fun q10 r11 => ?_)
  have h12 := h9 q10 r11
  refine lv_iconst (v := iI 2) hx hb dL_tells_30 rfl ?_
  obtain ⟨b13, h14⟩ := h12
  refine zc_si (As := [.int (iI q10), .int (iI 2)]) (rest := [.int (iI x)]) (c_L_low l G q10 2 r11 rg_2 b13) ⟨hx, hb, hml, hown, hts⟩ (va_cwS 2 hts gL_tells_L_low rfl rfl rfl hdL_low ⟨Nat.le_of_ble_eq_true rfl, Nat.le_of_ble_eq_true rfl⟩) hK hP hD hS hA rfl hl.1 rfl (Nat.le_of_ble_eq_true rfl) dL_tells_31 ⟨Nat.zero_le _, Nat.zero_le _⟩ (fun z16 H locs hw hP hD hS => ?_)
  obtain ⟨r18, h17⟩ := hw
  have h19 := h14 z16 r18 h17
  have hP : va_P G.1 vwCl (flt [W6o G o_a0 o_a4 o_a11 o_a12 o_a5 o_a1 o_a3 o_hs, W0 G o_a1 o_a2 o_cs o_ln, W2 G o_a3 o_kd o_fk o_hd o_va o_le o_mo, W5 G o_a4 o_cu, W1h G o_a5 o_a6 o_a7 o_a8 o_a9 o_a10 o_ol o_tt, W5 G o_a7 o_s0, W5 G o_a8 o_s1, W5 G o_a9 o_s2, W5 G o_a10 o_s3, W5 G o_a11 o_fo, W5 G o_a12 o_sv, [(f_a0, eI G 60 f_x)], [(n_a0, eI G 64 n_x)], [(l_a0, eI G 64 l_x)], [(d_a0, eI G 64 d_x)], [(m_a0, eI G 20 m_x)], [(k_a0, eI G 60 k_x)], [(c_a0, eI G 60 c_x)], [(t_a0, eI G 12 t_x)]]) H := hP
  have hD : va_D A (flt [W6o G o_a0 o_a4 o_a11 o_a12 o_a5 o_a1 o_a3 o_hs, W0 G o_a1 o_a2 o_cs o_ln, W2 G o_a3 o_kd o_fk o_hd o_va o_le o_mo, W5 G o_a4 o_cu, W1h G o_a5 o_a6 o_a7 o_a8 o_a9 o_a10 o_ol o_tt, W5 G o_a7 o_s0, W5 G o_a8 o_s1, W5 G o_a9 o_s2, W5 G o_a10 o_s3, W5 G o_a11 o_fo, W5 G o_a12 o_sv, [(f_a0, eI G 60 f_x)], [(n_a0, eI G 64 n_x)], [(l_a0, eI G 64 l_x)], [(d_a0, eI G 64 d_x)], [(m_a0, eI G 20 m_x)], [(k_a0, eI G 60 k_x)], [(c_a0, eI G 60 c_x)], [(t_a0, eI G 12 t_x)]]) := hD
  obtain ⟨h20, h27⟩ := h19
  refine zr_join (G := G) (A := A) (H0 := sT.heap) (nL := 18) 45 (flt [W6o G o_a0 o_a4 o_a11 o_a12 o_a5 o_a1 o_a3 o_hs, W0 G o_a1 o_a2 o_cs o_ln, W2 G o_a3 o_kd o_fk o_hd o_va o_le o_mo, W5 G o_a4 o_cu, W1h G o_a5 o_a6 o_a7 o_a8 o_a9 o_a10 o_ol o_tt, W5 G o_a7 o_s0, W5 G o_a8 o_s1, W5 G o_a9 o_s2, W5 G o_a10 o_s3, W5 G o_a11 o_fo, W5 G o_a12 o_sv, [(f_a0, eI G 60 f_x)], [(n_a0, eI G 64 n_x)], [(l_a0, eI G 64 l_x)], [(d_a0, eI G 64 d_x)], [(m_a0, eI G 20 m_x)], [(k_a0, eI G 60 k_x)], [(c_a0, eI G 60 c_x)], [(t_a0, eI G 12 t_x)]]) [(12, .int (iI 0)), (11, .int (iI 0)), (10, .int (iI ((sumI l_x ((t_x 10)).toNat) + (t_x 11)))), (0, .ref o_a0), (3, .ref l_a0), (4, .ref d_a0), (5, .ref m_a0), (6, .ref k_a0), (7, .ref c_a0), (8, .ref t_a0)] [.int (iI ((if z16 = 0 then 1000 else 12) : Int)), .int (iI x)] (rg ((if z16 = 0 then 1000 else 12) : Int)) ?_ ?_
  · intro p29 H locs ls hP hD hS hl
    have r26 := p29
    clear h20
    obtain ⟨b31, h32⟩ := h27
    refine zc_si (As := [.int (iI x), .int (iI ((if z16 = 0 then 1000 else 12) : Int))]) (rest := []) (c_L_low l G x ((if z16 = 0 then 1000 else 12) : Int) r_x r26 b31) ⟨hx, hb, hml, hown, hts⟩ (va_cwS 2 hts gL_tells_L_low rfl rfl rfl hdL_low ⟨Nat.le_of_ble_eq_true rfl, Nat.le_of_ble_eq_true rfl⟩) hK hP hD hS hA rfl hl.1 rfl (Nat.le_of_ble_eq_true rfl) dL_tells_45 ⟨Nat.zero_le _, Nat.zero_le _⟩ (fun z34 H locs hw hP hD hS => ?_)
    obtain ⟨r36, h35⟩ := hw
    have h37 := h32 z34 r36 h35
    have hP : va_P G.1 vwCl (flt [W6o G o_a0 o_a4 o_a11 o_a12 o_a5 o_a1 o_a3 o_hs, W0 G o_a1 o_a2 o_cs o_ln, W2 G o_a3 o_kd o_fk o_hd o_va o_le o_mo, W5 G o_a4 o_cu, W1h G o_a5 o_a6 o_a7 o_a8 o_a9 o_a10 o_ol o_tt, W5 G o_a7 o_s0, W5 G o_a8 o_s1, W5 G o_a9 o_s2, W5 G o_a10 o_s3, W5 G o_a11 o_fo, W5 G o_a12 o_sv, [(f_a0, eI G 60 f_x)], [(n_a0, eI G 64 n_x)], [(l_a0, eI G 64 l_x)], [(d_a0, eI G 64 d_x)], [(m_a0, eI G 20 m_x)], [(k_a0, eI G 60 k_x)], [(c_a0, eI G 60 c_x)], [(t_a0, eI G 12 t_x)]]) H := hP
    have hD : va_D A (flt [W6o G o_a0 o_a4 o_a11 o_a12 o_a5 o_a1 o_a3 o_hs, W0 G o_a1 o_a2 o_cs o_ln, W2 G o_a3 o_kd o_fk o_hd o_va o_le o_mo, W5 G o_a4 o_cu, W1h G o_a5 o_a6 o_a7 o_a8 o_a9 o_a10 o_ol o_tt, W5 G o_a7 o_s0, W5 G o_a8 o_s1, W5 G o_a9 o_s2, W5 G o_a10 o_s3, W5 G o_a11 o_fo, W5 G o_a12 o_sv, [(f_a0, eI G 60 f_x)], [(n_a0, eI G 64 n_x)], [(l_a0, eI G 64 l_x)], [(d_a0, eI G 64 d_x)], [(m_a0, eI G 20 m_x)], [(k_a0, eI G 60 k_x)], [(c_a0, eI G 60 c_x)], [(t_a0, eI G 12 t_x)]]) := hD
    refine lv_istore (lv' := [(13, .int (iI z34)), (12, .int (iI 0)), (11, .int (iI 0)), (10, .int (iI ((sumI l_x ((t_x 10)).toNat) + (t_x 11)))), (0, .ref o_a0), (3, .ref l_a0), (4, .ref d_a0), (5, .ref m_a0), (6, .ref k_a0), (7, .ref c_a0), (8, .ref t_a0)]) hx hb dL_tells_48 hl (by decide) rfl (fun ls hl => ?_)
    refine lv_iconst (v := iI 0) hx hb dL_tells_50 rfl ?_
    refine lv_istore (lv' := [(14, .int (iI 0)), (13, .int (iI z34)), (12, .int (iI 0)), (11, .int (iI 0)), (10, .int (iI ((sumI l_x ((t_x 10)).toNat) + (t_x 11)))), (0, .ref o_a0), (3, .ref l_a0), (4, .ref d_a0), (5, .ref m_a0), (6, .ref k_a0), (7, .ref c_a0), (8, .ref t_a0)]) hx hb dL_tells_51 hl (by decide) rfl (fun ls hl => ?_)
    obtain ⟨I39, μ40, h41, h42⟩ := h37
    refine zr_loop (G := G) (σ := Int × Int × Int) (fun x_38 => (rg x_38.1 ∧ rg x_38.2.1 ∧ rg x_38.2.2) ∧ I39 x_38.1 x_38.2.1 x_38.2.2) (fun x_38 => μ40 x_38.1 x_38.2.1 x_38.2.2) (fun x_38 => flt [W6o G o_a0 o_a4 o_a11 o_a12 o_a5 o_a1 o_a3 o_hs, W0 G o_a1 o_a2 o_cs o_ln, W2 G o_a3 o_kd o_fk o_hd o_va o_le o_mo, W5 G o_a4 o_cu, W1h G o_a5 o_a6 o_a7 o_a8 o_a9 o_a10 o_ol o_tt, W5 G o_a7 o_s0, W5 G o_a8 o_s1, W5 G o_a9 o_s2, W5 G o_a10 o_s3, W5 G o_a11 o_fo, W5 G o_a12 o_sv, [(f_a0, eI G 60 f_x)], [(n_a0, eI G 64 n_x)], [(l_a0, eI G 64 l_x)], [(d_a0, eI G 64 d_x)], [(m_a0, eI G 20 m_x)], [(k_a0, eI G 60 k_x)], [(c_a0, eI G 60 c_x)], [(t_a0, eI G 12 t_x)]]) (fun x_38 => [(14, .int (iI x_38.2.2)), (13, .int (iI z34)), (12, .int (iI x_38.2.1)), (11, .int (iI x_38.1)), (10, .int (iI ((sumI l_x ((t_x 10)).toNat) + (t_x 11)))), (0, .ref o_a0), (3, .ref l_a0), (4, .ref d_a0), (5, .ref m_a0), (6, .ref k_a0), (7, .ref c_a0), (8, .ref t_a0)]) ((0, 0, 0)) ⟨⟨rg_0, rg_0, rg_0⟩, h41⟩ hP hD hS (lv_sub hl [0, 1, 2, 3, 4, 5, 6, 7, 8, 9, 10, 11] rfl) ?_
    clear hP hD hS hl
    intro x_38 H locs ls ih43 h44 hP hD hS hl
    obtain ⟨x11_38, x12_38, x14_38⟩ := x_38
    obtain ⟨⟨rx11_38, rx12_38, rx14_38⟩, h44⟩ := h44
    have h45 := h42 x11_38 x12_38 x14_38 rx11_38 rx12_38 rx14_38 h44
    have hP : va_P G.1 vwCl (flt [W6o G o_a0 o_a4 o_a11 o_a12 o_a5 o_a1 o_a3 o_hs, W0 G o_a1 o_a2 o_cs o_ln, W2 G o_a3 o_kd o_fk o_hd o_va o_le o_mo, W5 G o_a4 o_cu, W1h G o_a5 o_a6 o_a7 o_a8 o_a9 o_a10 o_ol o_tt, W5 G o_a7 o_s0, W5 G o_a8 o_s1, W5 G o_a9 o_s2, W5 G o_a10 o_s3, W5 G o_a11 o_fo, W5 G o_a12 o_sv, [(f_a0, eI G 60 f_x)], [(n_a0, eI G 64 n_x)], [(l_a0, eI G 64 l_x)], [(d_a0, eI G 64 d_x)], [(m_a0, eI G 20 m_x)], [(k_a0, eI G 60 k_x)], [(c_a0, eI G 60 c_x)], [(t_a0, eI G 12 t_x)]]) H := hP
    have hD : va_D A (flt [W6o G o_a0 o_a4 o_a11 o_a12 o_a5 o_a1 o_a3 o_hs, W0 G o_a1 o_a2 o_cs o_ln, W2 G o_a3 o_kd o_fk o_hd o_va o_le o_mo, W5 G o_a4 o_cu, W1h G o_a5 o_a6 o_a7 o_a8 o_a9 o_a10 o_ol o_tt, W5 G o_a7 o_s0, W5 G o_a8 o_s1, W5 G o_a9 o_s2, W5 G o_a10 o_s3, W5 G o_a11 o_fo, W5 G o_a12 o_sv, [(f_a0, eI G 60 f_x)], [(n_a0, eI G 64 n_x)], [(l_a0, eI G 64 l_x)], [(d_a0, eI G 64 d_x)], [(m_a0, eI G 20 m_x)], [(k_a0, eI G 60 k_x)], [(c_a0, eI G 60 c_x)], [(t_a0, eI G 12 t_x)]]) := hD
    have hl : lv_has ls 18 [(14, .int (iI x14_38)), (13, .int (iI z34)), (12, .int (iI x12_38)), (11, .int (iI x11_38)), (10, .int (iI ((sumI l_x ((t_x 10)).toNat) + (t_x 11)))), (0, .ref o_a0), (3, .ref l_a0), (4, .ref d_a0), (5, .ref m_a0), (6, .ref k_a0), (7, .ref c_a0), (8, .ref t_a0)] := hl
    refine lv_iload hx hb dL_tells_53 (lv_at hl 0 rfl) ?_
    refine lv_aload hx hb dL_tells_55 (lv_at hl 11 rfl) ?_
    refine lv_iconst (v := iI 3) hx hb dL_tells_57 rfl ?_
    refine zr_iald (n := 12) (f := t_x) (i := 3) hx hb hK hP 111 rfl rg_3 ⟨by decide, by decide⟩ dL_tells_58 ?_
    refine zr_icmp_ge (tgt := 102) (x := x14_38) (y := t_x 3) hx hb rx14_38 (r_t_x 3) dL_tells_59 (by decide) (fun c46 => ?_) (fun c46 => ?_)
    · have h49 := h45.2 c46
      refine lv_aload_n hx hb dL_tells_102 rfl (lv_at hl 6 rfl) ?_
      refine lv_aload hx hb dL_tells_103 (lv_at hl 7 rfl) ?_
      refine lv_aload hx hb dL_tells_105 (lv_at hl 11 rfl) ?_
      refine lv_iconst (v := iI 1) hx hb dL_tells_107 rfl ?_
      refine lv_iconst (v := iI 1) hx hb dL_tells_108 rfl ?_
      obtain ⟨b50, h51⟩ := h49
      obtain ⟨b52, h53⟩ := h51
      refine zs_viR (As := [.ref l_a0, .ref d_a0, .ref t_a0, .int (iI 1), .int (iI 1)]) (rest := []) (c_L_kinds l G l_a0 d_a0 t_a0 l_x d_x t_x 1 1 r_l_x r_d_x r_t_x rg_1 rg_1 b50 b52) ⟨hx, hb, hml, hown, hts⟩ (va_cwS 5 hts gL_tells_L_kinds rfl rfl rfl hdL_kinds ⟨Nat.le_of_ble_eq_true rfl, Nat.le_of_ble_eq_true rfl⟩) hK hP hD hS hA [106, 107, 111] rfl rfl rfl hl.1 rfl (Nat.le_of_ble_eq_true rfl) dL_tells_109 ⟨Nat.zero_le _, Nat.zero_le _⟩ (fun z55 H locs hw hP hD hS => ?_)
      obtain ⟨rfl, r56⟩ := hw
      have hP : va_P G.1 vwCl (flt [W6o G o_a0 o_a4 o_a11 o_a12 o_a5 o_a1 o_a3 o_hs, W0 G o_a1 o_a2 o_cs o_ln, W2 G o_a3 o_kd o_fk o_hd o_va o_le o_mo, W5 G o_a4 o_cu, W1h G o_a5 o_a6 o_a7 o_a8 o_a9 o_a10 o_ol o_tt, W5 G o_a7 o_s0, W5 G o_a8 o_s1, W5 G o_a9 o_s2, W5 G o_a10 o_s3, W5 G o_a11 o_fo, W5 G o_a12 o_sv, [(f_a0, eI G 60 f_x)], [(n_a0, eI G 64 n_x)], [(l_a0, eI G 64 l_x)], [(d_a0, eI G 64 d_x)], [(m_a0, eI G 20 m_x)], [(k_a0, eI G 60 k_x)], [(c_a0, eI G 60 c_x)], [(t_a0, eI G 12 t_x)]]) H := hP
      have hD : va_D A (flt [W6o G o_a0 o_a4 o_a11 o_a12 o_a5 o_a1 o_a3 o_hs, W0 G o_a1 o_a2 o_cs o_ln, W2 G o_a3 o_kd o_fk o_hd o_va o_le o_mo, W5 G o_a4 o_cu, W1h G o_a5 o_a6 o_a7 o_a8 o_a9 o_a10 o_ol o_tt, W5 G o_a7 o_s0, W5 G o_a8 o_s1, W5 G o_a9 o_s2, W5 G o_a10 o_s3, W5 G o_a11 o_fo, W5 G o_a12 o_sv, [(f_a0, eI G 60 f_x)], [(n_a0, eI G 64 n_x)], [(l_a0, eI G 64 l_x)], [(d_a0, eI G 64 d_x)], [(m_a0, eI G 20 m_x)], [(k_a0, eI G 60 k_x)], [(c_a0, eI G 60 c_x)], [(t_a0, eI G 12 t_x)]]) := hD
      refine lv_istore (lv' := [(14, .int (iI (kdZ l_x d_x (1 : Int) (t_x 10).toNat))), (13, .int (iI z34)), (12, .int (iI x12_38)), (11, .int (iI x11_38)), (10, .int (iI ((sumI l_x ((t_x 10)).toNat) + (t_x 11)))), (0, .ref o_a0), (3, .ref l_a0), (4, .ref d_a0), (5, .ref m_a0), (6, .ref k_a0), (7, .ref c_a0), (8, .ref t_a0)]) hx hb dL_tells_112 hl (by decide) rfl (fun ls hl => ?_)
      refine lv_iconst (v := iI 0) hx hb dL_tells_114 rfl ?_
      refine lv_istore (lv' := [(15, .int (iI 0)), (14, .int (iI (kdZ l_x d_x (1 : Int) (t_x 10).toNat))), (13, .int (iI z34)), (12, .int (iI x12_38)), (11, .int (iI x11_38)), (10, .int (iI ((sumI l_x ((t_x 10)).toNat) + (t_x 11)))), (0, .ref o_a0), (3, .ref l_a0), (4, .ref d_a0), (5, .ref m_a0), (6, .ref k_a0), (7, .ref c_a0), (8, .ref t_a0)]) hx hb dL_tells_115 hl (by decide) rfl (fun ls hl => ?_)
      refine lv_iconst (v := iI 0) hx hb dL_tells_117 rfl ?_
      refine lv_istore (lv' := [(16, .int (iI 0)), (15, .int (iI 0)), (14, .int (iI (kdZ l_x d_x (1 : Int) (t_x 10).toNat))), (13, .int (iI z34)), (12, .int (iI x12_38)), (11, .int (iI x11_38)), (10, .int (iI ((sumI l_x ((t_x 10)).toNat) + (t_x 11)))), (0, .ref o_a0), (3, .ref l_a0), (4, .ref d_a0), (5, .ref m_a0), (6, .ref k_a0), (7, .ref c_a0), (8, .ref t_a0)]) hx hb dL_tells_118 hl (by decide) rfl (fun ls hl => ?_)
      obtain ⟨I58, μ59, h60, h61⟩ := h53
      refine zr_loop (G := G) (σ := Int × Int) (fun x_57 => (rg x_57.1 ∧ rg x_57.2) ∧ I58 x_57.1 x_57.2) (fun x_57 => μ59 x_57.1 x_57.2) (fun x_57 => flt [W6o G o_a0 o_a4 o_a11 o_a12 o_a5 o_a1 o_a3 o_hs, W0 G o_a1 o_a2 o_cs o_ln, W2 G o_a3 o_kd o_fk o_hd o_va o_le o_mo, W5 G o_a4 o_cu, W1h G o_a5 o_a6 o_a7 o_a8 o_a9 o_a10 o_ol o_tt, W5 G o_a7 o_s0, W5 G o_a8 o_s1, W5 G o_a9 o_s2, W5 G o_a10 o_s3, W5 G o_a11 o_fo, W5 G o_a12 o_sv, [(f_a0, eI G 60 f_x)], [(n_a0, eI G 64 n_x)], [(l_a0, eI G 64 l_x)], [(d_a0, eI G 64 d_x)], [(m_a0, eI G 20 m_x)], [(k_a0, eI G 60 k_x)], [(c_a0, eI G 60 c_x)], [(t_a0, eI G 12 t_x)]]) (fun x_57 => [(16, .int (iI x_57.2)), (15, .int (iI x_57.1)), (14, .int (iI (kdZ l_x d_x (1 : Int) (t_x 10).toNat))), (13, .int (iI z34)), (12, .int (iI x12_38)), (11, .int (iI x11_38)), (10, .int (iI ((sumI l_x ((t_x 10)).toNat) + (t_x 11)))), (0, .ref o_a0), (3, .ref l_a0), (4, .ref d_a0), (5, .ref m_a0), (6, .ref k_a0), (8, .ref t_a0)]) ((0, 0)) ⟨⟨rg_0, rg_0⟩, h60⟩ hP hD hS (lv_sub hl [0, 1, 2, 3, 4, 5, 6, 7, 8, 9, 10, 11, 13] rfl) ?_
      clear hP hD hS hl
      intro x_57 H locs ls ih62 h63 hP hD hS hl
      obtain ⟨x15_57, x16_57⟩ := x_57
      obtain ⟨⟨rx15_57, rx16_57⟩, h63⟩ := h63
      have h64 := h61 x15_57 x16_57 rx15_57 rx16_57 h63
      have hP : va_P G.1 vwCl (flt [W6o G o_a0 o_a4 o_a11 o_a12 o_a5 o_a1 o_a3 o_hs, W0 G o_a1 o_a2 o_cs o_ln, W2 G o_a3 o_kd o_fk o_hd o_va o_le o_mo, W5 G o_a4 o_cu, W1h G o_a5 o_a6 o_a7 o_a8 o_a9 o_a10 o_ol o_tt, W5 G o_a7 o_s0, W5 G o_a8 o_s1, W5 G o_a9 o_s2, W5 G o_a10 o_s3, W5 G o_a11 o_fo, W5 G o_a12 o_sv, [(f_a0, eI G 60 f_x)], [(n_a0, eI G 64 n_x)], [(l_a0, eI G 64 l_x)], [(d_a0, eI G 64 d_x)], [(m_a0, eI G 20 m_x)], [(k_a0, eI G 60 k_x)], [(c_a0, eI G 60 c_x)], [(t_a0, eI G 12 t_x)]]) H := hP
      have hD : va_D A (flt [W6o G o_a0 o_a4 o_a11 o_a12 o_a5 o_a1 o_a3 o_hs, W0 G o_a1 o_a2 o_cs o_ln, W2 G o_a3 o_kd o_fk o_hd o_va o_le o_mo, W5 G o_a4 o_cu, W1h G o_a5 o_a6 o_a7 o_a8 o_a9 o_a10 o_ol o_tt, W5 G o_a7 o_s0, W5 G o_a8 o_s1, W5 G o_a9 o_s2, W5 G o_a10 o_s3, W5 G o_a11 o_fo, W5 G o_a12 o_sv, [(f_a0, eI G 60 f_x)], [(n_a0, eI G 64 n_x)], [(l_a0, eI G 64 l_x)], [(d_a0, eI G 64 d_x)], [(m_a0, eI G 20 m_x)], [(k_a0, eI G 60 k_x)], [(c_a0, eI G 60 c_x)], [(t_a0, eI G 12 t_x)]]) := hD
      have hl : lv_has ls 18 [(16, .int (iI x16_57)), (15, .int (iI x15_57)), (14, .int (iI (kdZ l_x d_x (1 : Int) (t_x 10).toNat))), (13, .int (iI z34)), (12, .int (iI x12_38)), (11, .int (iI x11_38)), (10, .int (iI ((sumI l_x ((t_x 10)).toNat) + (t_x 11)))), (0, .ref o_a0), (3, .ref l_a0), (4, .ref d_a0), (5, .ref m_a0), (6, .ref k_a0), (8, .ref t_a0)] := hl
      refine lv_iload hx hb dL_tells_120 (lv_at hl 0 rfl) ?_
      refine lv_aload hx hb dL_tells_122 (lv_at hl 12 rfl) ?_
      refine lv_bipush (v := iI 10) hx hb dL_tells_124 (by decide) ?_
      refine zr_iald (n := 12) (f := t_x) (i := 10) hx hb hK hP 111 rfl rg_10 ⟨by decide, by decide⟩ dL_tells_126 ?_
      refine zr_icmp_ge (tgt := 158) (x := x16_57) (y := t_x 10) hx hb rx16_57 (r_t_x 10) dL_tells_127 (by decide) (fun c65 => ?_) (fun c65 => ?_)
      · have h68 := h64.2 c65
        refine lv_iconst (v := iI 0) hx hb dL_tells_158 rfl ?_
        refine lv_istore (lv' := [(16, .int (iI 0)), (15, .int (iI x15_57)), (14, .int (iI (kdZ l_x d_x (1 : Int) (t_x 10).toNat))), (13, .int (iI z34)), (12, .int (iI x12_38)), (11, .int (iI x11_38)), (10, .int (iI ((sumI l_x ((t_x 10)).toNat) + (t_x 11)))), (0, .ref o_a0), (3, .ref l_a0), (4, .ref d_a0), (5, .ref m_a0), (6, .ref k_a0), (8, .ref t_a0)]) hx hb dL_tells_159 hl (by decide) rfl (fun ls hl => ?_)
        obtain ⟨I70, μ71, h72, h73⟩ := h68
        refine zr_loop (G := G) (σ := Int) (fun x_69 => (rg x_69) ∧ I70 x_69) (fun x_69 => μ71 x_69) (fun x_69 => flt [W6o G o_a0 o_a4 o_a11 o_a12 o_a5 o_a1 o_a3 o_hs, W0 G o_a1 o_a2 o_cs o_ln, W2 G o_a3 o_kd o_fk o_hd o_va o_le o_mo, W5 G o_a4 o_cu, W1h G o_a5 o_a6 o_a7 o_a8 o_a9 o_a10 o_ol o_tt, W5 G o_a7 o_s0, W5 G o_a8 o_s1, W5 G o_a9 o_s2, W5 G o_a10 o_s3, W5 G o_a11 o_fo, W5 G o_a12 o_sv, [(f_a0, eI G 60 f_x)], [(n_a0, eI G 64 n_x)], [(l_a0, eI G 64 l_x)], [(d_a0, eI G 64 d_x)], [(m_a0, eI G 20 m_x)], [(k_a0, eI G 60 k_x)], [(c_a0, eI G 60 c_x)], [(t_a0, eI G 12 t_x)]]) (fun x_69 => [(16, .int (iI x_69)), (15, .int (iI x15_57)), (14, .int (iI (kdZ l_x d_x (1 : Int) (t_x 10).toNat))), (13, .int (iI z34)), (12, .int (iI x12_38)), (11, .int (iI x11_38)), (10, .int (iI ((sumI l_x ((t_x 10)).toNat) + (t_x 11)))), (0, .ref o_a0), (3, .ref l_a0), (5, .ref m_a0), (6, .ref k_a0), (8, .ref t_a0)]) (0) ⟨rg_0, h72⟩ hP hD hS (lv_sub hl [0, 1, 2, 3, 4, 5, 6, 7, 8, 10, 11, 12] rfl) ?_
        clear hP hD hS hl
        intro x_69 H locs ls ih74 h75 hP hD hS hl
        obtain ⟨x16_69, rfl⟩ : ∃ z, z = x_69 := ⟨_, rfl⟩
        obtain ⟨rx16_69, h75⟩ := h75
        have h76 := h73 x16_69 rx16_69 h75
        have hP : va_P G.1 vwCl (flt [W6o G o_a0 o_a4 o_a11 o_a12 o_a5 o_a1 o_a3 o_hs, W0 G o_a1 o_a2 o_cs o_ln, W2 G o_a3 o_kd o_fk o_hd o_va o_le o_mo, W5 G o_a4 o_cu, W1h G o_a5 o_a6 o_a7 o_a8 o_a9 o_a10 o_ol o_tt, W5 G o_a7 o_s0, W5 G o_a8 o_s1, W5 G o_a9 o_s2, W5 G o_a10 o_s3, W5 G o_a11 o_fo, W5 G o_a12 o_sv, [(f_a0, eI G 60 f_x)], [(n_a0, eI G 64 n_x)], [(l_a0, eI G 64 l_x)], [(d_a0, eI G 64 d_x)], [(m_a0, eI G 20 m_x)], [(k_a0, eI G 60 k_x)], [(c_a0, eI G 60 c_x)], [(t_a0, eI G 12 t_x)]]) H := hP
        have hD : va_D A (flt [W6o G o_a0 o_a4 o_a11 o_a12 o_a5 o_a1 o_a3 o_hs, W0 G o_a1 o_a2 o_cs o_ln, W2 G o_a3 o_kd o_fk o_hd o_va o_le o_mo, W5 G o_a4 o_cu, W1h G o_a5 o_a6 o_a7 o_a8 o_a9 o_a10 o_ol o_tt, W5 G o_a7 o_s0, W5 G o_a8 o_s1, W5 G o_a9 o_s2, W5 G o_a10 o_s3, W5 G o_a11 o_fo, W5 G o_a12 o_sv, [(f_a0, eI G 60 f_x)], [(n_a0, eI G 64 n_x)], [(l_a0, eI G 64 l_x)], [(d_a0, eI G 64 d_x)], [(m_a0, eI G 20 m_x)], [(k_a0, eI G 60 k_x)], [(c_a0, eI G 60 c_x)], [(t_a0, eI G 12 t_x)]]) := hD
        have hl : lv_has ls 18 [(16, .int (iI x16_69)), (15, .int (iI x15_57)), (14, .int (iI (kdZ l_x d_x (1 : Int) (t_x 10).toNat))), (13, .int (iI z34)), (12, .int (iI x12_38)), (11, .int (iI x11_38)), (10, .int (iI ((sumI l_x ((t_x 10)).toNat) + (t_x 11)))), (0, .ref o_a0), (3, .ref l_a0), (5, .ref m_a0), (6, .ref k_a0), (8, .ref t_a0)] := hl
        refine lv_iload hx hb dL_tells_161 (lv_at hl 0 rfl) ?_
        refine lv_aload hx hb dL_tells_163 (lv_at hl 11 rfl) ?_
        refine lv_bipush (v := iI 11) hx hb dL_tells_165 (by decide) ?_
        refine zr_iald (n := 12) (f := t_x) (i := 11) hx hb hK hP 111 rfl rg_11 ⟨by decide, by decide⟩ dL_tells_167 ?_
        refine zr_icmp_ge (tgt := 196) (x := x16_69) (y := t_x 11) hx hb rx16_69 (r_t_x 11) dL_tells_168 (by decide) (fun c77 => ?_) (fun c77 => ?_)
        · have h80 := h76.2 c77
          refine lv_aload_n hx hb dL_tells_196 rfl (lv_at hl 7 rfl) ?_
          refine lv_aload hx hb dL_tells_197 (lv_at hl 11 rfl) ?_
          refine lv_bipush (v := iI 11) hx hb dL_tells_199 (by decide) ?_
          refine zr_iald (n := 12) (f := t_x) (i := 11) hx hb hK hP 111 rfl rg_11 ⟨by decide, by decide⟩ dL_tells_201 ?_
          obtain ⟨g81, g82, h83⟩ := h80
          obtain ⟨b84, h85⟩ := h83
          obtain ⟨b86, h87⟩ := h85
          refine zq_viR (As := [.int (iI (t_x 11))]) (rest := []) (c_X6_inMemory l G o_a0 o_a1 o_a2 o_a3 o_a4 o_a5 o_a6 o_a7 o_a8 o_a9 o_a10 o_a11 o_a12 o_cu o_fo o_sv o_hs o_ol o_tt o_s0 o_s1 o_s2 o_s3 o_cs o_ln o_kd o_fk o_hd o_va o_le o_mo (t_x 11) g81 g82 r_o_cu r_o_fo r_o_sv r_o_hs r_o_ol r_o_tt r_o_s0 r_o_s1 r_o_s2 r_o_s3 r_o_cs r_o_ln r_o_kd r_o_fk r_o_hd r_o_va r_o_le r_o_mo (r_t_x 11) b84 b86) ⟨hx, hb, hml, hown, hts⟩ (cwV 1 hts gL_tells_X6_inMemory rfl rfl rfl hdX6_inMemory ⟨Nat.le_of_ble_eq_true rfl, Nat.le_of_ble_eq_true rfl⟩) hK hP hD hS hA rfl rfl [0, 1, 2, 3, 4, 5, 6, 7, 8, 9, 10, 11, 12, 13, 14, 15, 16, 17, 18, 19, 20, 21, 22, 23, 24, 25, 26, 27, 28, 29, 30, 31, 32, 33, 34, 35, 36, 37, 38, 39, 40, 41, 42, 43, 44, 45, 46, 47, 48, 49, 50, 51, 52, 53, 54, 55, 56, 57, 58, 59, 60, 61, 62, 63, 64, 65, 66, 67, 68, 69, 70, 71, 72, 73, 74, 75, 76, 77, 78, 79, 80, 81, 82, 83, 84, 85, 86, 87, 88, 89, 90, 91, 92, 93, 94, 95, 96, 97, 98, 99, 100, 101, 102, 103] rfl rfl rfl hl.1 rfl (Nat.le_of_ble_eq_true rfl) dL_tells_202 ⟨Nat.zero_le _, Nat.zero_le _⟩ (fun z89 H locs hw hP hD hS => ?_)
          obtain ⟨r91, h90⟩ := hw
          have h92 := h87 z89 r91 h90
          have hP : va_P G.1 vwCl (flt [W6o G o_a0 o_a4 o_a11 o_a12 o_a5 o_a1 o_a3 o_hs, W0 G o_a1 o_a2 o_cs o_ln, W2 G o_a3 o_kd o_fk o_hd o_va o_le o_mo, W5 G o_a4 o_cu, W1h G o_a5 o_a6 o_a7 o_a8 o_a9 o_a10 o_ol o_tt, W5 G o_a7 o_s0, W5 G o_a8 o_s1, W5 G o_a9 o_s2, W5 G o_a10 o_s3, W5 G o_a11 o_fo, W5 G o_a12 o_sv, [(f_a0, eI G 60 f_x)], [(n_a0, eI G 64 n_x)], [(l_a0, eI G 64 l_x)], [(d_a0, eI G 64 d_x)], [(m_a0, eI G 20 m_x)], [(k_a0, eI G 60 k_x)], [(c_a0, eI G 60 c_x)], [(t_a0, eI G 12 t_x)]]) H := hP
          have hD : va_D A (flt [W6o G o_a0 o_a4 o_a11 o_a12 o_a5 o_a1 o_a3 o_hs, W0 G o_a1 o_a2 o_cs o_ln, W2 G o_a3 o_kd o_fk o_hd o_va o_le o_mo, W5 G o_a4 o_cu, W1h G o_a5 o_a6 o_a7 o_a8 o_a9 o_a10 o_ol o_tt, W5 G o_a7 o_s0, W5 G o_a8 o_s1, W5 G o_a9 o_s2, W5 G o_a10 o_s3, W5 G o_a11 o_fo, W5 G o_a12 o_sv, [(f_a0, eI G 60 f_x)], [(n_a0, eI G 64 n_x)], [(l_a0, eI G 64 l_x)], [(d_a0, eI G 64 d_x)], [(m_a0, eI G 20 m_x)], [(k_a0, eI G 60 k_x)], [(c_a0, eI G 60 c_x)], [(t_a0, eI G 12 t_x)]]) := hD
          refine lv_iconst (v := iI (-1)) hx hb dL_tells_205 rfl ?_
          refine zr_icmp_ne (tgt := 348) (x := z89) (y := (-1)) hx hb r91 rg_m1 dL_tells_206 (by decide) (fun c93 => ?_) (fun c93 => ?_)
          · have h96 := h92.2 c93
            refine lv_iconst (v := iI 0) hx hb dL_tells_348 rfl ?_
            refine lv_istore (lv' := [(16, .int (iI 0)), (15, .int (iI x15_57)), (14, .int (iI (kdZ l_x d_x (1 : Int) (t_x 10).toNat))), (13, .int (iI z34)), (12, .int (iI x12_38)), (11, .int (iI x11_38)), (10, .int (iI ((sumI l_x ((t_x 10)).toNat) + (t_x 11)))), (0, .ref o_a0), (3, .ref l_a0), (5, .ref m_a0), (6, .ref k_a0), (8, .ref t_a0)]) hx hb dL_tells_349 hl (by decide) rfl (fun ls hl => ?_)
            refine lv_iload hx hb dL_tells_351 (lv_at hl 0 rfl) ?_
            refine zr_if_eq (tgt := 444) (x := 0) hx hb rg_0 dL_tells_353 (by decide) (fun _ => ?_) (fun c => absurd (by decide) c)
            refine lv_iconst (v := iI 0) hx hb dL_tells_444 rfl ?_
            refine lv_istore (lv' := [(16, .int (iI 0)), (15, .int (iI x15_57)), (14, .int (iI (kdZ l_x d_x (1 : Int) (t_x 10).toNat))), (13, .int (iI z34)), (12, .int (iI x12_38)), (11, .int (iI x11_38)), (10, .int (iI ((sumI l_x ((t_x 10)).toNat) + (t_x 11)))), (0, .ref o_a0), (3, .ref l_a0), (5, .ref m_a0), (6, .ref k_a0), (8, .ref t_a0)]) hx hb dL_tells_445 hl (by decide) rfl (fun ls hl => ?_)
            refine lv_bipush (v := iI (-6)) hx hb dL_tells_447 (by decide) ?_
            refine lv_istore (lv' := [(17, .int (iI (-6))), (16, .int (iI 0)), (15, .int (iI x15_57)), (14, .int (iI (kdZ l_x d_x (1 : Int) (t_x 10).toNat))), (13, .int (iI z34)), (12, .int (iI x12_38)), (11, .int (iI x11_38)), (10, .int (iI ((sumI l_x ((t_x 10)).toNat) + (t_x 11)))), (0, .ref o_a0), (3, .ref l_a0), (5, .ref m_a0), (6, .ref k_a0), (8, .ref t_a0)]) hx hb dL_tells_449 hl (by decide) rfl (fun ls hl => ?_)
            refine lv_iload hx hb dL_tells_451 (lv_at hl 1 rfl) ?_
            refine zr_if_eq (tgt := 562) (x := 0) hx hb rg_0 dL_tells_453 (by decide) (fun _ => ?_) (fun c => absurd (by decide) c)
            refine lv_iconst (v := iI 0) hx hb dL_tells_562 rfl ?_
            exact zr_zret (z := 0) hx hb hr hlocks hK (Or.inl rfl) () hP hD hS dL_tells_563 ⟨rg_0, h96⟩
          · have h97 := h92.1 c93
            refine lv_aload_n hx hb dL_tells_209 rfl (lv_at hl 7 rfl) ?_
            obtain ⟨g98, g99, h100⟩ := h97
            obtain ⟨b101, h102⟩ := h100
            obtain ⟨b103, h104⟩ := h102
            refine zq_viR (As := []) (rest := []) (c_X6_isCollecting l G o_a0 o_a1 o_a2 o_a3 o_a4 o_a5 o_a6 o_a7 o_a8 o_a9 o_a10 o_a11 o_a12 o_cu o_fo o_sv o_hs o_ol o_tt o_s0 o_s1 o_s2 o_s3 o_cs o_ln o_kd o_fk o_hd o_va o_le o_mo g98 g99 r_o_cu r_o_fo r_o_sv r_o_hs r_o_ol r_o_tt r_o_s0 r_o_s1 r_o_s2 r_o_s3 r_o_cs r_o_ln r_o_kd r_o_fk r_o_hd r_o_va r_o_le r_o_mo b101 b103) ⟨hx, hb, hml, hown, hts⟩ (cwV 0 hts gL_tells_X6_isCollecting rfl rfl rfl hdX6_isCollecting ⟨Nat.le_of_ble_eq_true rfl, Nat.le_of_ble_eq_true rfl⟩) hK hP hD hS hA rfl rfl [0, 1, 2, 3, 4, 5, 6, 7, 8, 9, 10, 11, 12, 13, 14, 15, 16, 17, 18, 19, 20, 21, 22, 23, 24, 25, 26, 27, 28, 29, 30, 31, 32, 33, 34, 35, 36, 37, 38, 39, 40, 41, 42, 43, 44, 45, 46, 47, 48, 49, 50, 51, 52, 53, 54, 55, 56, 57, 58, 59, 60, 61, 62, 63, 64, 65, 66, 67, 68, 69, 70, 71, 72, 73, 74, 75, 76, 77, 78, 79, 80, 81, 82, 83, 84, 85, 86, 87, 88, 89, 90, 91, 92, 93, 94, 95, 96, 97, 98, 99, 100, 101, 102, 103] rfl rfl rfl hl.1 rfl (Nat.le_of_ble_eq_true rfl) dL_tells_210 ⟨Nat.zero_le _, Nat.zero_le _⟩ (fun z106 H locs hw hP hD hS => ?_)
            obtain ⟨r108, h107⟩ := hw
            have h109 := h104 z106 r108 h107
            have hP : va_P G.1 vwCl (flt [W6o G o_a0 o_a4 o_a11 o_a12 o_a5 o_a1 o_a3 o_hs, W0 G o_a1 o_a2 o_cs o_ln, W2 G o_a3 o_kd o_fk o_hd o_va o_le o_mo, W5 G o_a4 o_cu, W1h G o_a5 o_a6 o_a7 o_a8 o_a9 o_a10 o_ol o_tt, W5 G o_a7 o_s0, W5 G o_a8 o_s1, W5 G o_a9 o_s2, W5 G o_a10 o_s3, W5 G o_a11 o_fo, W5 G o_a12 o_sv, [(f_a0, eI G 60 f_x)], [(n_a0, eI G 64 n_x)], [(l_a0, eI G 64 l_x)], [(d_a0, eI G 64 d_x)], [(m_a0, eI G 20 m_x)], [(k_a0, eI G 60 k_x)], [(c_a0, eI G 60 c_x)], [(t_a0, eI G 12 t_x)]]) H := hP
            have hD : va_D A (flt [W6o G o_a0 o_a4 o_a11 o_a12 o_a5 o_a1 o_a3 o_hs, W0 G o_a1 o_a2 o_cs o_ln, W2 G o_a3 o_kd o_fk o_hd o_va o_le o_mo, W5 G o_a4 o_cu, W1h G o_a5 o_a6 o_a7 o_a8 o_a9 o_a10 o_ol o_tt, W5 G o_a7 o_s0, W5 G o_a8 o_s1, W5 G o_a9 o_s2, W5 G o_a10 o_s3, W5 G o_a11 o_fo, W5 G o_a12 o_sv, [(f_a0, eI G 60 f_x)], [(n_a0, eI G 64 n_x)], [(l_a0, eI G 64 l_x)], [(d_a0, eI G 64 d_x)], [(m_a0, eI G 20 m_x)], [(k_a0, eI G 60 k_x)], [(c_a0, eI G 60 c_x)], [(t_a0, eI G 12 t_x)]]) := hD
            refine lv_aload hx hb dL_tells_213 (lv_at hl 11 rfl) ?_
            refine lv_iconst (v := iI 2) hx hb dL_tells_215 rfl ?_
            refine zr_iald (n := 12) (f := t_x) (i := 2) hx hb hK hP 111 rfl rg_2 ⟨by decide, by decide⟩ dL_tells_216 ?_
            refine zr_icmp_ne (tgt := 348) (x := z106) (y := t_x 2) hx hb r108 (r_t_x 2) dL_tells_217 (by decide) (fun c110 => ?_) (fun c110 => ?_)
            · have h113 := h109.2 c110
              refine lv_iconst (v := iI 0) hx hb dL_tells_348 rfl ?_
              refine lv_istore (lv' := [(16, .int (iI 0)), (15, .int (iI x15_57)), (14, .int (iI (kdZ l_x d_x (1 : Int) (t_x 10).toNat))), (13, .int (iI z34)), (12, .int (iI x12_38)), (11, .int (iI x11_38)), (10, .int (iI ((sumI l_x ((t_x 10)).toNat) + (t_x 11)))), (0, .ref o_a0), (3, .ref l_a0), (5, .ref m_a0), (6, .ref k_a0), (8, .ref t_a0)]) hx hb dL_tells_349 hl (by decide) rfl (fun ls hl => ?_)
              refine lv_iload hx hb dL_tells_351 (lv_at hl 0 rfl) ?_
              refine zr_if_eq (tgt := 444) (x := 0) hx hb rg_0 dL_tells_353 (by decide) (fun _ => ?_) (fun c => absurd (by decide) c)
              refine lv_iconst (v := iI 0) hx hb dL_tells_444 rfl ?_
              refine lv_istore (lv' := [(16, .int (iI 0)), (15, .int (iI x15_57)), (14, .int (iI (kdZ l_x d_x (1 : Int) (t_x 10).toNat))), (13, .int (iI z34)), (12, .int (iI x12_38)), (11, .int (iI x11_38)), (10, .int (iI ((sumI l_x ((t_x 10)).toNat) + (t_x 11)))), (0, .ref o_a0), (3, .ref l_a0), (5, .ref m_a0), (6, .ref k_a0), (8, .ref t_a0)]) hx hb dL_tells_445 hl (by decide) rfl (fun ls hl => ?_)
              refine lv_bipush (v := iI (-6)) hx hb dL_tells_447 (by decide) ?_
              refine lv_istore (lv' := [(17, .int (iI (-6))), (16, .int (iI 0)), (15, .int (iI x15_57)), (14, .int (iI (kdZ l_x d_x (1 : Int) (t_x 10).toNat))), (13, .int (iI z34)), (12, .int (iI x12_38)), (11, .int (iI x11_38)), (10, .int (iI ((sumI l_x ((t_x 10)).toNat) + (t_x 11)))), (0, .ref o_a0), (3, .ref l_a0), (5, .ref m_a0), (6, .ref k_a0), (8, .ref t_a0)]) hx hb dL_tells_449 hl (by decide) rfl (fun ls hl => ?_)
              refine lv_iload hx hb dL_tells_451 (lv_at hl 1 rfl) ?_
              refine zr_if_eq (tgt := 562) (x := 0) hx hb rg_0 dL_tells_453 (by decide) (fun _ => ?_) (fun c => absurd (by decide) c)
              refine lv_iconst (v := iI 0) hx hb dL_tells_562 rfl ?_
              exact zr_zret (z := 0) hx hb hr hlocks hK (Or.inl rfl) () hP hD hS dL_tells_563 ⟨rg_0, h113⟩
            · have h114 := h109.1 c110
              refine lv_aload_n hx hb dL_tells_220 rfl (lv_at hl 7 rfl) ?_
              obtain ⟨g115, g116, h117⟩ := h114
              obtain ⟨b118, h119⟩ := h117
              obtain ⟨b120, h121⟩ := h119
              refine zq_viR (As := []) (rest := []) (c_X6_isMerging l G o_a0 o_a1 o_a2 o_a3 o_a4 o_a5 o_a6 o_a7 o_a8 o_a9 o_a10 o_a11 o_a12 o_cu o_fo o_sv o_hs o_ol o_tt o_s0 o_s1 o_s2 o_s3 o_cs o_ln o_kd o_fk o_hd o_va o_le o_mo g115 g116 r_o_cu r_o_fo r_o_sv r_o_hs r_o_ol r_o_tt r_o_s0 r_o_s1 r_o_s2 r_o_s3 r_o_cs r_o_ln r_o_kd r_o_fk r_o_hd r_o_va r_o_le r_o_mo b118 b120) ⟨hx, hb, hml, hown, hts⟩ (cwV 0 hts gL_tells_X6_isMerging rfl rfl rfl hdX6_isMerging ⟨Nat.le_of_ble_eq_true rfl, Nat.le_of_ble_eq_true rfl⟩) hK hP hD hS hA rfl rfl [0, 1, 2, 3, 4, 5, 6, 7, 8, 9, 10, 11, 12, 13, 14, 15, 16, 17, 18, 19, 20, 21, 22, 23, 24, 25, 26, 27, 28, 29, 30, 31, 32, 33, 34, 35, 36, 37, 38, 39, 40, 41, 42, 43, 44, 45, 46, 47, 48, 49, 50, 51, 52, 53, 54, 55, 56, 57, 58, 59, 60, 61, 62, 63, 64, 65, 66, 67, 68, 69, 70, 71, 72, 73, 74, 75, 76, 77, 78, 79, 80, 81, 82, 83, 84, 85, 86, 87, 88, 89, 90, 91, 92, 93, 94, 95, 96, 97, 98, 99, 100, 101, 102, 103] rfl rfl rfl hl.1 rfl (Nat.le_of_ble_eq_true rfl) dL_tells_221 ⟨Nat.zero_le _, Nat.zero_le _⟩ (fun z123 H locs hw hP hD hS => ?_)
              obtain ⟨r125, h124⟩ := hw
              have h126 := h121 z123 r125 h124
              have hP : va_P G.1 vwCl (flt [W6o G o_a0 o_a4 o_a11 o_a12 o_a5 o_a1 o_a3 o_hs, W0 G o_a1 o_a2 o_cs o_ln, W2 G o_a3 o_kd o_fk o_hd o_va o_le o_mo, W5 G o_a4 o_cu, W1h G o_a5 o_a6 o_a7 o_a8 o_a9 o_a10 o_ol o_tt, W5 G o_a7 o_s0, W5 G o_a8 o_s1, W5 G o_a9 o_s2, W5 G o_a10 o_s3, W5 G o_a11 o_fo, W5 G o_a12 o_sv, [(f_a0, eI G 60 f_x)], [(n_a0, eI G 64 n_x)], [(l_a0, eI G 64 l_x)], [(d_a0, eI G 64 d_x)], [(m_a0, eI G 20 m_x)], [(k_a0, eI G 60 k_x)], [(c_a0, eI G 60 c_x)], [(t_a0, eI G 12 t_x)]]) H := hP
              have hD : va_D A (flt [W6o G o_a0 o_a4 o_a11 o_a12 o_a5 o_a1 o_a3 o_hs, W0 G o_a1 o_a2 o_cs o_ln, W2 G o_a3 o_kd o_fk o_hd o_va o_le o_mo, W5 G o_a4 o_cu, W1h G o_a5 o_a6 o_a7 o_a8 o_a9 o_a10 o_ol o_tt, W5 G o_a7 o_s0, W5 G o_a8 o_s1, W5 G o_a9 o_s2, W5 G o_a10 o_s3, W5 G o_a11 o_fo, W5 G o_a12 o_sv, [(f_a0, eI G 60 f_x)], [(n_a0, eI G 64 n_x)], [(l_a0, eI G 64 l_x)], [(d_a0, eI G 64 d_x)], [(m_a0, eI G 20 m_x)], [(k_a0, eI G 60 k_x)], [(c_a0, eI G 60 c_x)], [(t_a0, eI G 12 t_x)]]) := hD
              refine lv_aload hx hb dL_tells_224 (lv_at hl 11 rfl) ?_
              refine lv_iconst (v := iI 5) hx hb dL_tells_226 rfl ?_
              refine zr_iald (n := 12) (f := t_x) (i := 5) hx hb hK hP 111 rfl rg_5 ⟨by decide, by decide⟩ dL_tells_227 ?_
              refine zr_icmp_ne (tgt := 348) (x := z123) (y := t_x 5) hx hb r125 (r_t_x 5) dL_tells_228 (by decide) (fun c127 => ?_) (fun c127 => ?_)
              · have h130 := h126.2 c127
                refine lv_iconst (v := iI 0) hx hb dL_tells_348 rfl ?_
                refine lv_istore (lv' := [(16, .int (iI 0)), (15, .int (iI x15_57)), (14, .int (iI (kdZ l_x d_x (1 : Int) (t_x 10).toNat))), (13, .int (iI z34)), (12, .int (iI x12_38)), (11, .int (iI x11_38)), (10, .int (iI ((sumI l_x ((t_x 10)).toNat) + (t_x 11)))), (0, .ref o_a0), (3, .ref l_a0), (5, .ref m_a0), (6, .ref k_a0), (8, .ref t_a0)]) hx hb dL_tells_349 hl (by decide) rfl (fun ls hl => ?_)
                refine lv_iload hx hb dL_tells_351 (lv_at hl 0 rfl) ?_
                refine zr_if_eq (tgt := 444) (x := 0) hx hb rg_0 dL_tells_353 (by decide) (fun _ => ?_) (fun c => absurd (by decide) c)
                refine lv_iconst (v := iI 0) hx hb dL_tells_444 rfl ?_
                refine lv_istore (lv' := [(16, .int (iI 0)), (15, .int (iI x15_57)), (14, .int (iI (kdZ l_x d_x (1 : Int) (t_x 10).toNat))), (13, .int (iI z34)), (12, .int (iI x12_38)), (11, .int (iI x11_38)), (10, .int (iI ((sumI l_x ((t_x 10)).toNat) + (t_x 11)))), (0, .ref o_a0), (3, .ref l_a0), (5, .ref m_a0), (6, .ref k_a0), (8, .ref t_a0)]) hx hb dL_tells_445 hl (by decide) rfl (fun ls hl => ?_)
                refine lv_bipush (v := iI (-6)) hx hb dL_tells_447 (by decide) ?_
                refine lv_istore (lv' := [(17, .int (iI (-6))), (16, .int (iI 0)), (15, .int (iI x15_57)), (14, .int (iI (kdZ l_x d_x (1 : Int) (t_x 10).toNat))), (13, .int (iI z34)), (12, .int (iI x12_38)), (11, .int (iI x11_38)), (10, .int (iI ((sumI l_x ((t_x 10)).toNat) + (t_x 11)))), (0, .ref o_a0), (3, .ref l_a0), (5, .ref m_a0), (6, .ref k_a0), (8, .ref t_a0)]) hx hb dL_tells_449 hl (by decide) rfl (fun ls hl => ?_)
                refine lv_iload hx hb dL_tells_451 (lv_at hl 1 rfl) ?_
                refine zr_if_eq (tgt := 562) (x := 0) hx hb rg_0 dL_tells_453 (by decide) (fun _ => ?_) (fun c => absurd (by decide) c)
                refine lv_iconst (v := iI 0) hx hb dL_tells_562 rfl ?_
                exact zr_zret (z := 0) hx hb hr hlocks hK (Or.inl rfl) () hP hD hS dL_tells_563 ⟨rg_0, h130⟩
              · have h131 := h126.1 c127
                refine lv_aload_n hx hb dL_tells_231 rfl (lv_at hl 7 rfl) ?_
                obtain ⟨g132, g133, h134⟩ := h131
                obtain ⟨b135, h136⟩ := h134
                obtain ⟨b137, h138⟩ := h136
                refine zq_viR (As := []) (rest := []) (c_X6_isDone l G o_a0 o_a1 o_a2 o_a3 o_a4 o_a5 o_a6 o_a7 o_a8 o_a9 o_a10 o_a11 o_a12 o_cu o_fo o_sv o_hs o_ol o_tt o_s0 o_s1 o_s2 o_s3 o_cs o_ln o_kd o_fk o_hd o_va o_le o_mo g132 g133 r_o_cu r_o_fo r_o_sv r_o_hs r_o_ol r_o_tt r_o_s0 r_o_s1 r_o_s2 r_o_s3 r_o_cs r_o_ln r_o_kd r_o_fk r_o_hd r_o_va r_o_le r_o_mo b135 b137) ⟨hx, hb, hml, hown, hts⟩ (cwV 0 hts gL_tells_X6_isDone rfl rfl rfl hdX6_isDone ⟨Nat.le_of_ble_eq_true rfl, Nat.le_of_ble_eq_true rfl⟩) hK hP hD hS hA rfl rfl [0, 1, 2, 3, 4, 5, 6, 7, 8, 9, 10, 11, 12, 13, 14, 15, 16, 17, 18, 19, 20, 21, 22, 23, 24, 25, 26, 27, 28, 29, 30, 31, 32, 33, 34, 35, 36, 37, 38, 39, 40, 41, 42, 43, 44, 45, 46, 47, 48, 49, 50, 51, 52, 53, 54, 55, 56, 57, 58, 59, 60, 61, 62, 63, 64, 65, 66, 67, 68, 69, 70, 71, 72, 73, 74, 75, 76, 77, 78, 79, 80, 81, 82, 83, 84, 85, 86, 87, 88, 89, 90, 91, 92, 93, 94, 95, 96, 97, 98, 99, 100, 101, 102, 103] rfl rfl rfl hl.1 rfl (Nat.le_of_ble_eq_true rfl) dL_tells_232 ⟨Nat.zero_le _, Nat.zero_le _⟩ (fun z140 H locs hw hP hD hS => ?_)
                obtain ⟨r142, h141⟩ := hw
                have h143 := h138 z140 r142 h141
                have hP : va_P G.1 vwCl (flt [W6o G o_a0 o_a4 o_a11 o_a12 o_a5 o_a1 o_a3 o_hs, W0 G o_a1 o_a2 o_cs o_ln, W2 G o_a3 o_kd o_fk o_hd o_va o_le o_mo, W5 G o_a4 o_cu, W1h G o_a5 o_a6 o_a7 o_a8 o_a9 o_a10 o_ol o_tt, W5 G o_a7 o_s0, W5 G o_a8 o_s1, W5 G o_a9 o_s2, W5 G o_a10 o_s3, W5 G o_a11 o_fo, W5 G o_a12 o_sv, [(f_a0, eI G 60 f_x)], [(n_a0, eI G 64 n_x)], [(l_a0, eI G 64 l_x)], [(d_a0, eI G 64 d_x)], [(m_a0, eI G 20 m_x)], [(k_a0, eI G 60 k_x)], [(c_a0, eI G 60 c_x)], [(t_a0, eI G 12 t_x)]]) H := hP
                have hD : va_D A (flt [W6o G o_a0 o_a4 o_a11 o_a12 o_a5 o_a1 o_a3 o_hs, W0 G o_a1 o_a2 o_cs o_ln, W2 G o_a3 o_kd o_fk o_hd o_va o_le o_mo, W5 G o_a4 o_cu, W1h G o_a5 o_a6 o_a7 o_a8 o_a9 o_a10 o_ol o_tt, W5 G o_a7 o_s0, W5 G o_a8 o_s1, W5 G o_a9 o_s2, W5 G o_a10 o_s3, W5 G o_a11 o_fo, W5 G o_a12 o_sv, [(f_a0, eI G 60 f_x)], [(n_a0, eI G 64 n_x)], [(l_a0, eI G 64 l_x)], [(d_a0, eI G 64 d_x)], [(m_a0, eI G 20 m_x)], [(k_a0, eI G 60 k_x)], [(c_a0, eI G 60 c_x)], [(t_a0, eI G 12 t_x)]]) := hD
                refine lv_aload hx hb dL_tells_235 (lv_at hl 11 rfl) ?_
                refine lv_iconst (v := iI 2) hx hb dL_tells_237 rfl ?_
                refine zr_iald (n := 12) (f := t_x) (i := 2) hx hb hK hP 111 rfl rg_2 ⟨by decide, by decide⟩ dL_tells_238 ?_
                obtain ⟨h144, h161⟩ := h143
                refine zr_join (G := G) (A := A) (H0 := sT.heap) (nL := 18) 263 (flt [W6o G o_a0 o_a4 o_a11 o_a12 o_a5 o_a1 o_a3 o_hs, W0 G o_a1 o_a2 o_cs o_ln, W2 G o_a3 o_kd o_fk o_hd o_va o_le o_mo, W5 G o_a4 o_cu, W1h G o_a5 o_a6 o_a7 o_a8 o_a9 o_a10 o_ol o_tt, W5 G o_a7 o_s0, W5 G o_a8 o_s1, W5 G o_a9 o_s2, W5 G o_a10 o_s3, W5 G o_a11 o_fo, W5 G o_a12 o_sv, [(f_a0, eI G 60 f_x)], [(n_a0, eI G 64 n_x)], [(l_a0, eI G 64 l_x)], [(d_a0, eI G 64 d_x)], [(m_a0, eI G 20 m_x)], [(k_a0, eI G 60 k_x)], [(c_a0, eI G 60 c_x)], [(t_a0, eI G 12 t_x)]]) [(15, .int (iI x15_57)), (14, .int (iI (kdZ l_x d_x (1 : Int) (t_x 10).toNat))), (13, .int (iI z34)), (12, .int (iI x12_38)), (11, .int (iI x11_38)), (10, .int (iI ((sumI l_x ((t_x 10)).toNat) + (t_x 11)))), (0, .ref o_a0), (3, .ref l_a0), (8, .ref t_a0)] [.int (iI ((if (t_x 2) = 0 then (if (t_x 5) = 0 then (if (t_x 10) < 2 then 1 else 0) else 0) else 0) : Int)), .int (iI z140)] (rg ((if (t_x 2) = 0 then (if (t_x 5) = 0 then (if (t_x 10) < 2 then 1 else 0) else 0) else 0) : Int)) ?_ ?_
                · intro p163 H locs ls hP hD hS hl
                  have r160 := p163
                  clear h144
                  refine zr_icmp_ne (tgt := 348) (x := z140) (y := ((if (t_x 2) = 0 then (if (t_x 5) = 0 then (if (t_x 10) < 2 then 1 else 0) else 0) else 0) : Int)) hx hb r142 r160 dL_tells_263 (by decide) (fun c165 => ?_) (fun c165 => ?_)
                  · have h168 := h161.2 c165
                    refine lv_iconst (v := iI 0) hx hb dL_tells_348 rfl ?_
                    refine lv_istore (lv' := [(16, .int (iI 0)), (15, .int (iI x15_57)), (14, .int (iI (kdZ l_x d_x (1 : Int) (t_x 10).toNat))), (13, .int (iI z34)), (12, .int (iI x12_38)), (11, .int (iI x11_38)), (10, .int (iI ((sumI l_x ((t_x 10)).toNat) + (t_x 11)))), (0, .ref o_a0), (3, .ref l_a0), (8, .ref t_a0)]) hx hb dL_tells_349 hl (by decide) rfl (fun ls hl => ?_)
                    refine lv_iload hx hb dL_tells_351 (lv_at hl 0 rfl) ?_
                    refine zr_if_eq (tgt := 444) (x := 0) hx hb rg_0 dL_tells_353 (by decide) (fun _ => ?_) (fun c => absurd (by decide) c)
                    refine lv_iconst (v := iI 0) hx hb dL_tells_444 rfl ?_
                    refine lv_istore (lv' := [(16, .int (iI 0)), (15, .int (iI x15_57)), (14, .int (iI (kdZ l_x d_x (1 : Int) (t_x 10).toNat))), (13, .int (iI z34)), (12, .int (iI x12_38)), (11, .int (iI x11_38)), (10, .int (iI ((sumI l_x ((t_x 10)).toNat) + (t_x 11)))), (0, .ref o_a0), (3, .ref l_a0), (8, .ref t_a0)]) hx hb dL_tells_445 hl (by decide) rfl (fun ls hl => ?_)
                    refine lv_bipush (v := iI (-6)) hx hb dL_tells_447 (by decide) ?_
                    refine lv_istore (lv' := [(17, .int (iI (-6))), (16, .int (iI 0)), (15, .int (iI x15_57)), (14, .int (iI (kdZ l_x d_x (1 : Int) (t_x 10).toNat))), (13, .int (iI z34)), (12, .int (iI x12_38)), (11, .int (iI x11_38)), (10, .int (iI ((sumI l_x ((t_x 10)).toNat) + (t_x 11)))), (0, .ref o_a0), (3, .ref l_a0), (8, .ref t_a0)]) hx hb dL_tells_449 hl (by decide) rfl (fun ls hl => ?_)
                    refine lv_iload hx hb dL_tells_451 (lv_at hl 1 rfl) ?_
                    refine zr_if_eq (tgt := 562) (x := 0) hx hb rg_0 dL_tells_453 (by decide) (fun _ => ?_) (fun c => absurd (by decide) c)
                    refine lv_iconst (v := iI 0) hx hb dL_tells_562 rfl ?_
                    exact zr_zret (z := 0) hx hb hr hlocks hK (Or.inl rfl) () hP hD hS dL_tells_563 ⟨rg_0, h168⟩
                  · have h169 := h161.1 c165
                    refine lv_aload_n hx hb dL_tells_266 rfl (lv_at hl 6 rfl) ?_
                    refine lv_iconst (v := iI 0) hx hb dL_tells_267 rfl ?_
                    obtain ⟨g170, g171, h172⟩ := h169
                    obtain ⟨b173, h174⟩ := h172
                    obtain ⟨b175, h176⟩ := h174
                    refine zq_viR (As := [.int (iI 0)]) (rest := []) (c_X6_memory l G o_a0 o_a1 o_a2 o_a3 o_a4 o_a5 o_a6 o_a7 o_a8 o_a9 o_a10 o_a11 o_a12 o_cu o_fo o_sv o_hs o_ol o_tt o_s0 o_s1 o_s2 o_s3 o_cs o_ln o_kd o_fk o_hd o_va o_le o_mo 0 g170 g171 r_o_cu r_o_fo r_o_sv r_o_hs r_o_ol r_o_tt r_o_s0 r_o_s1 r_o_s2 r_o_s3 r_o_cs r_o_ln r_o_kd r_o_fk r_o_hd r_o_va r_o_le r_o_mo rg_0 b173 b175) ⟨hx, hb, hml, hown, hts⟩ (cwV 1 hts gL_tells_X6_memory rfl rfl rfl hdX6_memory ⟨Nat.le_of_ble_eq_true rfl, Nat.le_of_ble_eq_true rfl⟩) hK hP hD hS hA rfl rfl [0, 1, 2, 3, 4, 5, 6, 7, 8, 9, 10, 11, 12, 13, 14, 15, 16, 17, 18, 19, 20, 21, 22, 23, 24, 25, 26, 27, 28, 29, 30, 31, 32, 33, 34, 35, 36, 37, 38, 39, 40, 41, 42, 43, 44, 45, 46, 47, 48, 49, 50, 51, 52, 53, 54, 55, 56, 57, 58, 59, 60, 61, 62, 63, 64, 65, 66, 67, 68, 69, 70, 71, 72, 73, 74, 75, 76, 77, 78, 79, 80, 81, 82, 83, 84, 85, 86, 87, 88, 89, 90, 91, 92, 93, 94, 95, 96, 97, 98, 99, 100, 101, 102, 103] rfl rfl rfl hl.1 rfl (Nat.le_of_ble_eq_true rfl) dL_tells_268 ⟨Nat.zero_le _, Nat.zero_le _⟩ (fun z178 H locs hw hP hD hS => ?_)
                    obtain ⟨r180, h179⟩ := hw
                    have h181 := h176 z178 r180 h179
                    have hP : va_P G.1 vwCl (flt [W6o G o_a0 o_a4 o_a11 o_a12 o_a5 o_a1 o_a3 o_hs, W0 G o_a1 o_a2 o_cs o_ln, W2 G o_a3 o_kd o_fk o_hd o_va o_le o_mo, W5 G o_a4 o_cu, W1h G o_a5 o_a6 o_a7 o_a8 o_a9 o_a10 o_ol o_tt, W5 G o_a7 o_s0, W5 G o_a8 o_s1, W5 G o_a9 o_s2, W5 G o_a10 o_s3, W5 G o_a11 o_fo, W5 G o_a12 o_sv, [(f_a0, eI G 60 f_x)], [(n_a0, eI G 64 n_x)], [(l_a0, eI G 64 l_x)], [(d_a0, eI G 64 d_x)], [(m_a0, eI G 20 m_x)], [(k_a0, eI G 60 k_x)], [(c_a0, eI G 60 c_x)], [(t_a0, eI G 12 t_x)]]) H := hP
                    have hD : va_D A (flt [W6o G o_a0 o_a4 o_a11 o_a12 o_a5 o_a1 o_a3 o_hs, W0 G o_a1 o_a2 o_cs o_ln, W2 G o_a3 o_kd o_fk o_hd o_va o_le o_mo, W5 G o_a4 o_cu, W1h G o_a5 o_a6 o_a7 o_a8 o_a9 o_a10 o_ol o_tt, W5 G o_a7 o_s0, W5 G o_a8 o_s1, W5 G o_a9 o_s2, W5 G o_a10 o_s3, W5 G o_a11 o_fo, W5 G o_a12 o_sv, [(f_a0, eI G 60 f_x)], [(n_a0, eI G 64 n_x)], [(l_a0, eI G 64 l_x)], [(d_a0, eI G 64 d_x)], [(m_a0, eI G 20 m_x)], [(k_a0, eI G 60 k_x)], [(c_a0, eI G 60 c_x)], [(t_a0, eI G 12 t_x)]]) := hD
                    refine lv_aload hx hb dL_tells_271 (lv_at hl 8 rfl) ?_
                    refine lv_iconst (v := iI 0) hx hb dL_tells_273 rfl ?_
                    refine zr_iald (n := 12) (f := t_x) (i := 0) hx hb hK hP 111 rfl rg_0 ⟨by decide, by decide⟩ dL_tells_274 ?_
                    refine zr_icmp_ne (tgt := 348) (x := z178) (y := t_x 0) hx hb r180 (r_t_x 0) dL_tells_275 (by decide) (fun c182 => ?_) (fun c182 => ?_)
                    · have h185 := h181.2 c182
                      refine lv_iconst (v := iI 0) hx hb dL_tells_348 rfl ?_
                      refine lv_istore (lv' := [(16, .int (iI 0)), (15, .int (iI x15_57)), (14, .int (iI (kdZ l_x d_x (1 : Int) (t_x 10).toNat))), (13, .int (iI z34)), (12, .int (iI x12_38)), (11, .int (iI x11_38)), (10, .int (iI ((sumI l_x ((t_x 10)).toNat) + (t_x 11)))), (0, .ref o_a0), (3, .ref l_a0), (8, .ref t_a0)]) hx hb dL_tells_349 hl (by decide) rfl (fun ls hl => ?_)
                      refine lv_iload hx hb dL_tells_351 (lv_at hl 0 rfl) ?_
                      refine zr_if_eq (tgt := 444) (x := 0) hx hb rg_0 dL_tells_353 (by decide) (fun _ => ?_) (fun c => absurd (by decide) c)
                      refine lv_iconst (v := iI 0) hx hb dL_tells_444 rfl ?_
                      refine lv_istore (lv' := [(16, .int (iI 0)), (15, .int (iI x15_57)), (14, .int (iI (kdZ l_x d_x (1 : Int) (t_x 10).toNat))), (13, .int (iI z34)), (12, .int (iI x12_38)), (11, .int (iI x11_38)), (10, .int (iI ((sumI l_x ((t_x 10)).toNat) + (t_x 11)))), (0, .ref o_a0), (3, .ref l_a0), (8, .ref t_a0)]) hx hb dL_tells_445 hl (by decide) rfl (fun ls hl => ?_)
                      refine lv_bipush (v := iI (-6)) hx hb dL_tells_447 (by decide) ?_
                      refine lv_istore (lv' := [(17, .int (iI (-6))), (16, .int (iI 0)), (15, .int (iI x15_57)), (14, .int (iI (kdZ l_x d_x (1 : Int) (t_x 10).toNat))), (13, .int (iI z34)), (12, .int (iI x12_38)), (11, .int (iI x11_38)), (10, .int (iI ((sumI l_x ((t_x 10)).toNat) + (t_x 11)))), (0, .ref o_a0), (3, .ref l_a0), (8, .ref t_a0)]) hx hb dL_tells_449 hl (by decide) rfl (fun ls hl => ?_)
                      refine lv_iload hx hb dL_tells_451 (lv_at hl 1 rfl) ?_
                      refine zr_if_eq (tgt := 562) (x := 0) hx hb rg_0 dL_tells_453 (by decide) (fun _ => ?_) (fun c => absurd (by decide) c)
                      refine lv_iconst (v := iI 0) hx hb dL_tells_562 rfl ?_
                      exact zr_zret (z := 0) hx hb hr hlocks hK (Or.inl rfl) () hP hD hS dL_tells_563 ⟨rg_0, h185⟩
                    · have h186 := h181.1 c182
                      refine lv_aload_n hx hb dL_tells_278 rfl (lv_at hl 6 rfl) ?_
                      refine lv_iconst (v := iI 1) hx hb dL_tells_279 rfl ?_
                      obtain ⟨g187, g188, h189⟩ := h186
                      obtain ⟨b190, h191⟩ := h189
                      obtain ⟨b192, h193⟩ := h191
                      refine zq_viR (As := [.int (iI 1)]) (rest := []) (c_X6_memory l G o_a0 o_a1 o_a2 o_a3 o_a4 o_a5 o_a6 o_a7 o_a8 o_a9 o_a10 o_a11 o_a12 o_cu o_fo o_sv o_hs o_ol o_tt o_s0 o_s1 o_s2 o_s3 o_cs o_ln o_kd o_fk o_hd o_va o_le o_mo 1 g187 g188 r_o_cu r_o_fo r_o_sv r_o_hs r_o_ol r_o_tt r_o_s0 r_o_s1 r_o_s2 r_o_s3 r_o_cs r_o_ln r_o_kd r_o_fk r_o_hd r_o_va r_o_le r_o_mo rg_1 b190 b192) ⟨hx, hb, hml, hown, hts⟩ (cwV 1 hts gL_tells_X6_memory rfl rfl rfl hdX6_memory ⟨Nat.le_of_ble_eq_true rfl, Nat.le_of_ble_eq_true rfl⟩) hK hP hD hS hA rfl rfl [0, 1, 2, 3, 4, 5, 6, 7, 8, 9, 10, 11, 12, 13, 14, 15, 16, 17, 18, 19, 20, 21, 22, 23, 24, 25, 26, 27, 28, 29, 30, 31, 32, 33, 34, 35, 36, 37, 38, 39, 40, 41, 42, 43, 44, 45, 46, 47, 48, 49, 50, 51, 52, 53, 54, 55, 56, 57, 58, 59, 60, 61, 62, 63, 64, 65, 66, 67, 68, 69, 70, 71, 72, 73, 74, 75, 76, 77, 78, 79, 80, 81, 82, 83, 84, 85, 86, 87, 88, 89, 90, 91, 92, 93, 94, 95, 96, 97, 98, 99, 100, 101, 102, 103] rfl rfl rfl hl.1 rfl (Nat.le_of_ble_eq_true rfl) dL_tells_280 ⟨Nat.zero_le _, Nat.zero_le _⟩ (fun z195 H locs hw hP hD hS => ?_)
                      obtain ⟨r197, h196⟩ := hw
                      have h198 := h193 z195 r197 h196
                      have hP : va_P G.1 vwCl (flt [W6o G o_a0 o_a4 o_a11 o_a12 o_a5 o_a1 o_a3 o_hs, W0 G o_a1 o_a2 o_cs o_ln, W2 G o_a3 o_kd o_fk o_hd o_va o_le o_mo, W5 G o_a4 o_cu, W1h G o_a5 o_a6 o_a7 o_a8 o_a9 o_a10 o_ol o_tt, W5 G o_a7 o_s0, W5 G o_a8 o_s1, W5 G o_a9 o_s2, W5 G o_a10 o_s3, W5 G o_a11 o_fo, W5 G o_a12 o_sv, [(f_a0, eI G 60 f_x)], [(n_a0, eI G 64 n_x)], [(l_a0, eI G 64 l_x)], [(d_a0, eI G 64 d_x)], [(m_a0, eI G 20 m_x)], [(k_a0, eI G 60 k_x)], [(c_a0, eI G 60 c_x)], [(t_a0, eI G 12 t_x)]]) H := hP
                      have hD : va_D A (flt [W6o G o_a0 o_a4 o_a11 o_a12 o_a5 o_a1 o_a3 o_hs, W0 G o_a1 o_a2 o_cs o_ln, W2 G o_a3 o_kd o_fk o_hd o_va o_le o_mo, W5 G o_a4 o_cu, W1h G o_a5 o_a6 o_a7 o_a8 o_a9 o_a10 o_ol o_tt, W5 G o_a7 o_s0, W5 G o_a8 o_s1, W5 G o_a9 o_s2, W5 G o_a10 o_s3, W5 G o_a11 o_fo, W5 G o_a12 o_sv, [(f_a0, eI G 60 f_x)], [(n_a0, eI G 64 n_x)], [(l_a0, eI G 64 l_x)], [(d_a0, eI G 64 d_x)], [(m_a0, eI G 20 m_x)], [(k_a0, eI G 60 k_x)], [(c_a0, eI G 60 c_x)], [(t_a0, eI G 12 t_x)]]) := hD
                      refine lv_aload hx hb dL_tells_283 (lv_at hl 8 rfl) ?_
                      refine lv_iconst (v := iI 2) hx hb dL_tells_285 rfl ?_
                      refine zr_iald (n := 12) (f := t_x) (i := 2) hx hb hK hP 111 rfl rg_2 ⟨by decide, by decide⟩ dL_tells_286 ?_
                      refine lv_iconst (v := iI 1) hx hb dL_tells_287 rfl ?_
                      obtain ⟨h199, h213⟩ := h198
                      refine zr_join (G := G) (A := A) (H0 := sT.heap) (nL := 18) 315 (flt [W6o G o_a0 o_a4 o_a11 o_a12 o_a5 o_a1 o_a3 o_hs, W0 G o_a1 o_a2 o_cs o_ln, W2 G o_a3 o_kd o_fk o_hd o_va o_le o_mo, W5 G o_a4 o_cu, W1h G o_a5 o_a6 o_a7 o_a8 o_a9 o_a10 o_ol o_tt, W5 G o_a7 o_s0, W5 G o_a8 o_s1, W5 G o_a9 o_s2, W5 G o_a10 o_s3, W5 G o_a11 o_fo, W5 G o_a12 o_sv, [(f_a0, eI G 60 f_x)], [(n_a0, eI G 64 n_x)], [(l_a0, eI G 64 l_x)], [(d_a0, eI G 64 d_x)], [(m_a0, eI G 20 m_x)], [(k_a0, eI G 60 k_x)], [(c_a0, eI G 60 c_x)], [(t_a0, eI G 12 t_x)]]) [(15, .int (iI x15_57)), (14, .int (iI (kdZ l_x d_x (1 : Int) (t_x 10).toNat))), (13, .int (iI z34)), (12, .int (iI x12_38)), (11, .int (iI x11_38)), (10, .int (iI ((sumI l_x ((t_x 10)).toNat) + (t_x 11)))), (0, .ref o_a0), (3, .ref l_a0), (8, .ref t_a0)] [.int (iI ((if (t_x 2) = 1 then t_x 11 else (if (t_x 5) = 1 then (kdZ l_x d_x (1 : Int) (t_x 10).toNat) + 1 else 0)) : Int)), .int (iI z195)] (rg ((if (t_x 2) = 1 then t_x 11 else (if (t_x 5) = 1 then (kdZ l_x d_x (1 : Int) (t_x 10).toNat) + 1 else 0)) : Int)) ?_ ?_
                      · intro p215 H locs ls hP hD hS hl
                        have r212 := p215
                        clear h199
                        refine zr_icmp_ne (tgt := 348) (x := z195) (y := ((if (t_x 2) = 1 then t_x 11 else (if (t_x 5) = 1 then (kdZ l_x d_x (1 : Int) (t_x 10).toNat) + 1 else 0)) : Int)) hx hb r197 r212 dL_tells_315 (by decide) (fun c217 => ?_) (fun c217 => ?_)
                        · have h220 := h213.2 c217
                          refine lv_iconst (v := iI 0) hx hb dL_tells_348 rfl ?_
                          refine lv_istore (lv' := [(16, .int (iI 0)), (15, .int (iI x15_57)), (14, .int (iI (kdZ l_x d_x (1 : Int) (t_x 10).toNat))), (13, .int (iI z34)), (12, .int (iI x12_38)), (11, .int (iI x11_38)), (10, .int (iI ((sumI l_x ((t_x 10)).toNat) + (t_x 11)))), (0, .ref o_a0), (3, .ref l_a0), (8, .ref t_a0)]) hx hb dL_tells_349 hl (by decide) rfl (fun ls hl => ?_)
                          refine lv_iload hx hb dL_tells_351 (lv_at hl 0 rfl) ?_
                          refine zr_if_eq (tgt := 444) (x := 0) hx hb rg_0 dL_tells_353 (by decide) (fun _ => ?_) (fun c => absurd (by decide) c)
                          refine lv_iconst (v := iI 0) hx hb dL_tells_444 rfl ?_
                          refine lv_istore (lv' := [(16, .int (iI 0)), (15, .int (iI x15_57)), (14, .int (iI (kdZ l_x d_x (1 : Int) (t_x 10).toNat))), (13, .int (iI z34)), (12, .int (iI x12_38)), (11, .int (iI x11_38)), (10, .int (iI ((sumI l_x ((t_x 10)).toNat) + (t_x 11)))), (0, .ref o_a0), (3, .ref l_a0), (8, .ref t_a0)]) hx hb dL_tells_445 hl (by decide) rfl (fun ls hl => ?_)
                          refine lv_bipush (v := iI (-6)) hx hb dL_tells_447 (by decide) ?_
                          refine lv_istore (lv' := [(17, .int (iI (-6))), (16, .int (iI 0)), (15, .int (iI x15_57)), (14, .int (iI (kdZ l_x d_x (1 : Int) (t_x 10).toNat))), (13, .int (iI z34)), (12, .int (iI x12_38)), (11, .int (iI x11_38)), (10, .int (iI ((sumI l_x ((t_x 10)).toNat) + (t_x 11)))), (0, .ref o_a0), (3, .ref l_a0), (8, .ref t_a0)]) hx hb dL_tells_449 hl (by decide) rfl (fun ls hl => ?_)
                          refine lv_iload hx hb dL_tells_451 (lv_at hl 1 rfl) ?_
                          refine zr_if_eq (tgt := 562) (x := 0) hx hb rg_0 dL_tells_453 (by decide) (fun _ => ?_) (fun c => absurd (by decide) c)
                          refine lv_iconst (v := iI 0) hx hb dL_tells_562 rfl ?_
                          exact zr_zret (z := 0) hx hb hr hlocks hK (Or.inl rfl) () hP hD hS dL_tells_563 ⟨rg_0, h220⟩
                        · have h221 := h213.1 c217
                          refine lv_aload_n hx hb dL_tells_318 rfl (lv_at hl 6 rfl) ?_
                          refine lv_iconst (v := iI 2) hx hb dL_tells_319 rfl ?_
                          obtain ⟨g222, g223, h224⟩ := h221
                          obtain ⟨b225, h226⟩ := h224
                          obtain ⟨b227, h228⟩ := h226
                          refine zq_viR (As := [.int (iI 2)]) (rest := []) (c_X6_memory l G o_a0 o_a1 o_a2 o_a3 o_a4 o_a5 o_a6 o_a7 o_a8 o_a9 o_a10 o_a11 o_a12 o_cu o_fo o_sv o_hs o_ol o_tt o_s0 o_s1 o_s2 o_s3 o_cs o_ln o_kd o_fk o_hd o_va o_le o_mo 2 g222 g223 r_o_cu r_o_fo r_o_sv r_o_hs r_o_ol r_o_tt r_o_s0 r_o_s1 r_o_s2 r_o_s3 r_o_cs r_o_ln r_o_kd r_o_fk r_o_hd r_o_va r_o_le r_o_mo rg_2 b225 b227) ⟨hx, hb, hml, hown, hts⟩ (cwV 1 hts gL_tells_X6_memory rfl rfl rfl hdX6_memory ⟨Nat.le_of_ble_eq_true rfl, Nat.le_of_ble_eq_true rfl⟩) hK hP hD hS hA rfl rfl [0, 1, 2, 3, 4, 5, 6, 7, 8, 9, 10, 11, 12, 13, 14, 15, 16, 17, 18, 19, 20, 21, 22, 23, 24, 25, 26, 27, 28, 29, 30, 31, 32, 33, 34, 35, 36, 37, 38, 39, 40, 41, 42, 43, 44, 45, 46, 47, 48, 49, 50, 51, 52, 53, 54, 55, 56, 57, 58, 59, 60, 61, 62, 63, 64, 65, 66, 67, 68, 69, 70, 71, 72, 73, 74, 75, 76, 77, 78, 79, 80, 81, 82, 83, 84, 85, 86, 87, 88, 89, 90, 91, 92, 93, 94, 95, 96, 97, 98, 99, 100, 101, 102, 103] rfl rfl rfl hl.1 rfl (Nat.le_of_ble_eq_true rfl) dL_tells_320 ⟨Nat.zero_le _, Nat.zero_le _⟩ (fun z230 H locs hw hP hD hS => ?_)
                          obtain ⟨r232, h231⟩ := hw
                          have h233 := h228 z230 r232 h231
                          have hP : va_P G.1 vwCl (flt [W6o G o_a0 o_a4 o_a11 o_a12 o_a5 o_a1 o_a3 o_hs, W0 G o_a1 o_a2 o_cs o_ln, W2 G o_a3 o_kd o_fk o_hd o_va o_le o_mo, W5 G o_a4 o_cu, W1h G o_a5 o_a6 o_a7 o_a8 o_a9 o_a10 o_ol o_tt, W5 G o_a7 o_s0, W5 G o_a8 o_s1, W5 G o_a9 o_s2, W5 G o_a10 o_s3, W5 G o_a11 o_fo, W5 G o_a12 o_sv, [(f_a0, eI G 60 f_x)], [(n_a0, eI G 64 n_x)], [(l_a0, eI G 64 l_x)], [(d_a0, eI G 64 d_x)], [(m_a0, eI G 20 m_x)], [(k_a0, eI G 60 k_x)], [(c_a0, eI G 60 c_x)], [(t_a0, eI G 12 t_x)]]) H := hP
                          have hD : va_D A (flt [W6o G o_a0 o_a4 o_a11 o_a12 o_a5 o_a1 o_a3 o_hs, W0 G o_a1 o_a2 o_cs o_ln, W2 G o_a3 o_kd o_fk o_hd o_va o_le o_mo, W5 G o_a4 o_cu, W1h G o_a5 o_a6 o_a7 o_a8 o_a9 o_a10 o_ol o_tt, W5 G o_a7 o_s0, W5 G o_a8 o_s1, W5 G o_a9 o_s2, W5 G o_a10 o_s3, W5 G o_a11 o_fo, W5 G o_a12 o_sv, [(f_a0, eI G 60 f_x)], [(n_a0, eI G 64 n_x)], [(l_a0, eI G 64 l_x)], [(d_a0, eI G 64 d_x)], [(m_a0, eI G 20 m_x)], [(k_a0, eI G 60 k_x)], [(c_a0, eI G 60 c_x)], [(t_a0, eI G 12 t_x)]]) := hD
                          refine lv_aload hx hb dL_tells_323 (lv_at hl 8 rfl) ?_
                          refine lv_iconst (v := iI 0) hx hb dL_tells_325 rfl ?_
                          refine zr_iald (n := 12) (f := t_x) (i := 0) hx hb hK hP 111 rfl rg_0 ⟨by decide, by decide⟩ dL_tells_326 ?_
                          obtain ⟨b234, h235⟩ := h233
                          refine zc_si (As := [.int (iI (t_x 0))]) (rest := [.int (iI z230)]) (c_L_ways l G (t_x 0) (r_t_x 0) b234) ⟨hx, hb, hml, hown, hts⟩ (va_cwS 1 hts gL_tells_L_ways rfl rfl rfl hdL_ways ⟨Nat.le_of_ble_eq_true rfl, Nat.le_of_ble_eq_true rfl⟩) hK hP hD hS hA rfl hl.1 rfl (Nat.le_of_ble_eq_true rfl) dL_tells_327 ⟨Nat.zero_le _, Nat.zero_le _⟩ (fun z237 H locs hw hP hD hS => ?_)
                          obtain ⟨rfl, r238⟩ := hw
                          have hP : va_P G.1 vwCl (flt [W6o G o_a0 o_a4 o_a11 o_a12 o_a5 o_a1 o_a3 o_hs, W0 G o_a1 o_a2 o_cs o_ln, W2 G o_a3 o_kd o_fk o_hd o_va o_le o_mo, W5 G o_a4 o_cu, W1h G o_a5 o_a6 o_a7 o_a8 o_a9 o_a10 o_ol o_tt, W5 G o_a7 o_s0, W5 G o_a8 o_s1, W5 G o_a9 o_s2, W5 G o_a10 o_s3, W5 G o_a11 o_fo, W5 G o_a12 o_sv, [(f_a0, eI G 60 f_x)], [(n_a0, eI G 64 n_x)], [(l_a0, eI G 64 l_x)], [(d_a0, eI G 64 d_x)], [(m_a0, eI G 20 m_x)], [(k_a0, eI G 60 k_x)], [(c_a0, eI G 60 c_x)], [(t_a0, eI G 12 t_x)]]) H := hP
                          have hD : va_D A (flt [W6o G o_a0 o_a4 o_a11 o_a12 o_a5 o_a1 o_a3 o_hs, W0 G o_a1 o_a2 o_cs o_ln, W2 G o_a3 o_kd o_fk o_hd o_va o_le o_mo, W5 G o_a4 o_cu, W1h G o_a5 o_a6 o_a7 o_a8 o_a9 o_a10 o_ol o_tt, W5 G o_a7 o_s0, W5 G o_a8 o_s1, W5 G o_a9 o_s2, W5 G o_a10 o_s3, W5 G o_a11 o_fo, W5 G o_a12 o_sv, [(f_a0, eI G 60 f_x)], [(n_a0, eI G 64 n_x)], [(l_a0, eI G 64 l_x)], [(d_a0, eI G 64 d_x)], [(m_a0, eI G 20 m_x)], [(k_a0, eI G 60 k_x)], [(c_a0, eI G 60 c_x)], [(t_a0, eI G 12 t_x)]]) := hD
                          refine zr_icmp_ne (tgt := 348) (x := z230) (y := waysZ (t_x 0)) hx hb r232 r238 dL_tells_330 (by decide) (fun c239 => ?_) (fun c239 => ?_)
                          · have h242 := h235.2 c239
                            refine lv_iconst (v := iI 0) hx hb dL_tells_348 rfl ?_
                            refine lv_istore (lv' := [(16, .int (iI 0)), (15, .int (iI x15_57)), (14, .int (iI (kdZ l_x d_x (1 : Int) (t_x 10).toNat))), (13, .int (iI z34)), (12, .int (iI x12_38)), (11, .int (iI x11_38)), (10, .int (iI ((sumI l_x ((t_x 10)).toNat) + (t_x 11)))), (0, .ref o_a0), (3, .ref l_a0), (8, .ref t_a0)]) hx hb dL_tells_349 hl (by decide) rfl (fun ls hl => ?_)
                            refine lv_iload hx hb dL_tells_351 (lv_at hl 0 rfl) ?_
                            refine zr_if_eq (tgt := 444) (x := 0) hx hb rg_0 dL_tells_353 (by decide) (fun _ => ?_) (fun c => absurd (by decide) c)
                            refine lv_iconst (v := iI 0) hx hb dL_tells_444 rfl ?_
                            refine lv_istore (lv' := [(16, .int (iI 0)), (15, .int (iI x15_57)), (14, .int (iI (kdZ l_x d_x (1 : Int) (t_x 10).toNat))), (13, .int (iI z34)), (12, .int (iI x12_38)), (11, .int (iI x11_38)), (10, .int (iI ((sumI l_x ((t_x 10)).toNat) + (t_x 11)))), (0, .ref o_a0), (3, .ref l_a0), (8, .ref t_a0)]) hx hb dL_tells_445 hl (by decide) rfl (fun ls hl => ?_)
                            refine lv_bipush (v := iI (-6)) hx hb dL_tells_447 (by decide) ?_
                            refine lv_istore (lv' := [(17, .int (iI (-6))), (16, .int (iI 0)), (15, .int (iI x15_57)), (14, .int (iI (kdZ l_x d_x (1 : Int) (t_x 10).toNat))), (13, .int (iI z34)), (12, .int (iI x12_38)), (11, .int (iI x11_38)), (10, .int (iI ((sumI l_x ((t_x 10)).toNat) + (t_x 11)))), (0, .ref o_a0), (3, .ref l_a0), (8, .ref t_a0)]) hx hb dL_tells_449 hl (by decide) rfl (fun ls hl => ?_)
                            refine lv_iload hx hb dL_tells_451 (lv_at hl 1 rfl) ?_
                            refine zr_if_eq (tgt := 562) (x := 0) hx hb rg_0 dL_tells_453 (by decide) (fun _ => ?_) (fun c => absurd (by decide) c)
                            refine lv_iconst (v := iI 0) hx hb dL_tells_562 rfl ?_
                            exact zr_zret (z := 0) hx hb hr hlocks hK (Or.inl rfl) () hP hD hS dL_tells_563 ⟨rg_0, h242⟩
                          · have h243 := h235.1 c239
                            refine lv_aload_n hx hb dL_tells_333 rfl (lv_at hl 6 rfl) ?_
                            refine lv_iload hx hb dL_tells_334 (lv_at hl 2 rfl) ?_
                            obtain ⟨g244, g245, h246⟩ := h243
                            obtain ⟨b247, h248⟩ := h246
                            obtain ⟨b249, h250⟩ := h248
                            refine zq_viR (As := [.int (iI z34)]) (rest := []) (c_X6_rank l G o_a0 o_a1 o_a2 o_a3 o_a4 o_a5 o_a6 o_a7 o_a8 o_a9 o_a10 o_a11 o_a12 o_cu o_fo o_sv o_hs o_ol o_tt o_s0 o_s1 o_s2 o_s3 o_cs o_ln o_kd o_fk o_hd o_va o_le o_mo z34 g244 g245 r_o_cu r_o_fo r_o_sv r_o_hs r_o_ol r_o_tt r_o_s0 r_o_s1 r_o_s2 r_o_s3 r_o_cs r_o_ln r_o_kd r_o_fk r_o_hd r_o_va r_o_le r_o_mo r36 b247 b249) ⟨hx, hb, hml, hown, hts⟩ (cwV 1 hts gL_tells_X6_rank rfl rfl rfl hdX6_rank ⟨Nat.le_of_ble_eq_true rfl, Nat.le_of_ble_eq_true rfl⟩) hK hP hD hS hA rfl rfl [0, 1, 2, 3, 4, 5, 6, 7, 8, 9, 10, 11, 12, 13, 14, 15, 16, 17, 18, 19, 20, 21, 22, 23, 24, 25, 26, 27, 28, 29, 30, 31, 32, 33, 34, 35, 36, 37, 38, 39, 40, 41, 42, 43, 44, 45, 46, 47, 48, 49, 50, 51, 52, 53, 54, 55, 56, 57, 58, 59, 60, 61, 62, 63, 64, 65, 66, 67, 68, 69, 70, 71, 72, 73, 74, 75, 76, 77, 78, 79, 80, 81, 82, 83, 84, 85, 86, 87, 88, 89, 90, 91, 92, 93, 94, 95, 96, 97, 98, 99, 100, 101, 102, 103] rfl rfl rfl hl.1 rfl (Nat.le_of_ble_eq_true rfl) dL_tells_336 ⟨Nat.zero_le _, Nat.zero_le _⟩ (fun z252 H locs hw hP hD hS => ?_)
                            obtain ⟨r254, h253⟩ := hw
                            have h255 := h250 z252 r254 h253
                            have hP : va_P G.1 vwCl (flt [W6o G o_a0 o_a4 o_a11 o_a12 o_a5 o_a1 o_a3 o_hs, W0 G o_a1 o_a2 o_cs o_ln, W2 G o_a3 o_kd o_fk o_hd o_va o_le o_mo, W5 G o_a4 o_cu, W1h G o_a5 o_a6 o_a7 o_a8 o_a9 o_a10 o_ol o_tt, W5 G o_a7 o_s0, W5 G o_a8 o_s1, W5 G o_a9 o_s2, W5 G o_a10 o_s3, W5 G o_a11 o_fo, W5 G o_a12 o_sv, [(f_a0, eI G 60 f_x)], [(n_a0, eI G 64 n_x)], [(l_a0, eI G 64 l_x)], [(d_a0, eI G 64 d_x)], [(m_a0, eI G 20 m_x)], [(k_a0, eI G 60 k_x)], [(c_a0, eI G 60 c_x)], [(t_a0, eI G 12 t_x)]]) H := hP
                            have hD : va_D A (flt [W6o G o_a0 o_a4 o_a11 o_a12 o_a5 o_a1 o_a3 o_hs, W0 G o_a1 o_a2 o_cs o_ln, W2 G o_a3 o_kd o_fk o_hd o_va o_le o_mo, W5 G o_a4 o_cu, W1h G o_a5 o_a6 o_a7 o_a8 o_a9 o_a10 o_ol o_tt, W5 G o_a7 o_s0, W5 G o_a8 o_s1, W5 G o_a9 o_s2, W5 G o_a10 o_s3, W5 G o_a11 o_fo, W5 G o_a12 o_sv, [(f_a0, eI G 60 f_x)], [(n_a0, eI G 64 n_x)], [(l_a0, eI G 64 l_x)], [(d_a0, eI G 64 d_x)], [(m_a0, eI G 20 m_x)], [(k_a0, eI G 60 k_x)], [(c_a0, eI G 60 c_x)], [(t_a0, eI G 12 t_x)]]) := hD
                            refine lv_iload hx hb dL_tells_339 (lv_at hl 3 rfl) ?_
                            refine zr_icmp_ne (tgt := 348) (x := z252) (y := x12_38) hx hb r254 rx12_38 dL_tells_341 (by decide) (fun c256 => ?_) (fun c256 => ?_)
                            · have h259 := h255.2 c256
                              refine lv_iconst (v := iI 0) hx hb dL_tells_348 rfl ?_
                              refine lv_istore (lv' := [(16, .int (iI 0)), (15, .int (iI x15_57)), (14, .int (iI (kdZ l_x d_x (1 : Int) (t_x 10).toNat))), (13, .int (iI z34)), (12, .int (iI x12_38)), (11, .int (iI x11_38)), (10, .int (iI ((sumI l_x ((t_x 10)).toNat) + (t_x 11)))), (0, .ref o_a0), (3, .ref l_a0), (8, .ref t_a0)]) hx hb dL_tells_349 hl (by decide) rfl (fun ls hl => ?_)
                              refine lv_iload hx hb dL_tells_351 (lv_at hl 0 rfl) ?_
                              refine zr_if_eq (tgt := 444) (x := 0) hx hb rg_0 dL_tells_353 (by decide) (fun _ => ?_) (fun c => absurd (by decide) c)
                              refine lv_iconst (v := iI 0) hx hb dL_tells_444 rfl ?_
                              refine lv_istore (lv' := [(16, .int (iI 0)), (15, .int (iI x15_57)), (14, .int (iI (kdZ l_x d_x (1 : Int) (t_x 10).toNat))), (13, .int (iI z34)), (12, .int (iI x12_38)), (11, .int (iI x11_38)), (10, .int (iI ((sumI l_x ((t_x 10)).toNat) + (t_x 11)))), (0, .ref o_a0), (3, .ref l_a0), (8, .ref t_a0)]) hx hb dL_tells_445 hl (by decide) rfl (fun ls hl => ?_)
                              refine lv_bipush (v := iI (-6)) hx hb dL_tells_447 (by decide) ?_
                              refine lv_istore (lv' := [(17, .int (iI (-6))), (16, .int (iI 0)), (15, .int (iI x15_57)), (14, .int (iI (kdZ l_x d_x (1 : Int) (t_x 10).toNat))), (13, .int (iI z34)), (12, .int (iI x12_38)), (11, .int (iI x11_38)), (10, .int (iI ((sumI l_x ((t_x 10)).toNat) + (t_x 11)))), (0, .ref o_a0), (3, .ref l_a0), (8, .ref t_a0)]) hx hb dL_tells_449 hl (by decide) rfl (fun ls hl => ?_)
                              refine lv_iload hx hb dL_tells_451 (lv_at hl 1 rfl) ?_
                              refine zr_if_eq (tgt := 562) (x := 0) hx hb rg_0 dL_tells_453 (by decide) (fun _ => ?_) (fun c => absurd (by decide) c)
                              refine lv_iconst (v := iI 0) hx hb dL_tells_562 rfl ?_
                              exact zr_zret (z := 0) hx hb hr hlocks hK (Or.inl rfl) () hP hD hS dL_tells_563 ⟨rg_0, h259⟩
                            · have h260 := h255.1 c256
                              refine lv_iconst (v := iI 1) hx hb dL_tells_344 rfl ?_
                              refine lv_goto (tgt := 349) hx hb dL_tells_345 (by decide) ?_
                              refine lv_istore (lv' := [(16, .int (iI 1)), (15, .int (iI x15_57)), (14, .int (iI (kdZ l_x d_x (1 : Int) (t_x 10).toNat))), (13, .int (iI z34)), (12, .int (iI x12_38)), (11, .int (iI x11_38)), (10, .int (iI ((sumI l_x ((t_x 10)).toNat) + (t_x 11)))), (0, .ref o_a0), (3, .ref l_a0), (8, .ref t_a0)]) hx hb dL_tells_349 hl (by decide) rfl (fun ls hl => ?_)
                              refine lv_iload hx hb dL_tells_351 (lv_at hl 0 rfl) ?_
                              refine zr_if_eq (tgt := 444) (x := 1) hx hb rg_1 dL_tells_353 (by decide) (fun c => absurd c (by decide)) (fun _ => ?_)
                              refine lv_aload_n hx hb dL_tells_356 rfl (lv_at hl 7 rfl) ?_
                              refine lv_iconst (v := iI 0) hx hb dL_tells_357 rfl ?_
                              obtain ⟨g261, g262, h263⟩ := h260
                              obtain ⟨b264, h265⟩ := h263
                              obtain ⟨b266, h267⟩ := h265
                              refine zq_viR (As := [.int (iI 0)]) (rest := []) (c_X6_count l G o_a0 o_a1 o_a2 o_a3 o_a4 o_a5 o_a6 o_a7 o_a8 o_a9 o_a10 o_a11 o_a12 o_cu o_fo o_sv o_hs o_ol o_tt o_s0 o_s1 o_s2 o_s3 o_cs o_ln o_kd o_fk o_hd o_va o_le o_mo 0 g261 g262 r_o_cu r_o_fo r_o_sv r_o_hs r_o_ol r_o_tt r_o_s0 r_o_s1 r_o_s2 r_o_s3 r_o_cs r_o_ln r_o_kd r_o_fk r_o_hd r_o_va r_o_le r_o_mo rg_0 b264 b266) ⟨hx, hb, hml, hown, hts⟩ (cwV 1 hts gL_tells_X6_count rfl rfl rfl hdX6_count ⟨Nat.le_of_ble_eq_true rfl, Nat.le_of_ble_eq_true rfl⟩) hK hP hD hS hA rfl rfl [0, 1, 2, 3, 4, 5, 6, 7, 8, 9, 10, 11, 12, 13, 14, 15, 16, 17, 18, 19, 20, 21, 22, 23, 24, 25, 26, 27, 28, 29, 30, 31, 32, 33, 34, 35, 36, 37, 38, 39, 40, 41, 42, 43, 44, 45, 46, 47, 48, 49, 50, 51, 52, 53, 54, 55, 56, 57, 58, 59, 60, 61, 62, 63, 64, 65, 66, 67, 68, 69, 70, 71, 72, 73, 74, 75, 76, 77, 78, 79, 80, 81, 82, 83, 84, 85, 86, 87, 88, 89, 90, 91, 92, 93, 94, 95, 96, 97, 98, 99, 100, 101, 102, 103] rfl rfl rfl hl.1 rfl (Nat.le_of_ble_eq_true rfl) dL_tells_358 ⟨Nat.zero_le _, Nat.zero_le _⟩ (fun z269 H locs hw hP hD hS => ?_)
                              obtain ⟨r271, h270⟩ := hw
                              have h272 := h267 z269 r271 h270
                              have hP : va_P G.1 vwCl (flt [W6o G o_a0 o_a4 o_a11 o_a12 o_a5 o_a1 o_a3 o_hs, W0 G o_a1 o_a2 o_cs o_ln, W2 G o_a3 o_kd o_fk o_hd o_va o_le o_mo, W5 G o_a4 o_cu, W1h G o_a5 o_a6 o_a7 o_a8 o_a9 o_a10 o_ol o_tt, W5 G o_a7 o_s0, W5 G o_a8 o_s1, W5 G o_a9 o_s2, W5 G o_a10 o_s3, W5 G o_a11 o_fo, W5 G o_a12 o_sv, [(f_a0, eI G 60 f_x)], [(n_a0, eI G 64 n_x)], [(l_a0, eI G 64 l_x)], [(d_a0, eI G 64 d_x)], [(m_a0, eI G 20 m_x)], [(k_a0, eI G 60 k_x)], [(c_a0, eI G 60 c_x)], [(t_a0, eI G 12 t_x)]]) H := hP
                              have hD : va_D A (flt [W6o G o_a0 o_a4 o_a11 o_a12 o_a5 o_a1 o_a3 o_hs, W0 G o_a1 o_a2 o_cs o_ln, W2 G o_a3 o_kd o_fk o_hd o_va o_le o_mo, W5 G o_a4 o_cu, W1h G o_a5 o_a6 o_a7 o_a8 o_a9 o_a10 o_ol o_tt, W5 G o_a7 o_s0, W5 G o_a8 o_s1, W5 G o_a9 o_s2, W5 G o_a10 o_s3, W5 G o_a11 o_fo, W5 G o_a12 o_sv, [(f_a0, eI G 60 f_x)], [(n_a0, eI G 64 n_x)], [(l_a0, eI G 64 l_x)], [(d_a0, eI G 64 d_x)], [(m_a0, eI G 20 m_x)], [(k_a0, eI G 60 k_x)], [(c_a0, eI G 60 c_x)], [(t_a0, eI G 12 t_x)]]) := hD
                              refine lv_aload hx hb dL_tells_361 (lv_at hl 9 rfl) ?_
                              refine lv_iconst (v := iI 3) hx hb dL_tells_363 rfl ?_
                              refine zr_iald (n := 12) (f := t_x) (i := 3) hx hb hK hP 111 rfl rg_3 ⟨by decide, by decide⟩ dL_tells_364 ?_
                              refine zr_icmp_ne (tgt := 444) (x := z269) (y := t_x 3) hx hb r271 (r_t_x 3) dL_tells_365 (by decide) (fun c273 => ?_) (fun c273 => ?_)
                              · have h276 := h272.2 c273
                                refine lv_iconst (v := iI 0) hx hb dL_tells_444 rfl ?_
                                refine lv_istore (lv' := [(16, .int (iI 0)), (15, .int (iI x15_57)), (14, .int (iI (kdZ l_x d_x (1 : Int) (t_x 10).toNat))), (13, .int (iI z34)), (12, .int (iI x12_38)), (11, .int (iI x11_38)), (10, .int (iI ((sumI l_x ((t_x 10)).toNat) + (t_x 11)))), (0, .ref o_a0), (3, .ref l_a0), (8, .ref t_a0)]) hx hb dL_tells_445 hl (by decide) rfl (fun ls hl => ?_)
                                refine lv_bipush (v := iI (-6)) hx hb dL_tells_447 (by decide) ?_
                                refine lv_istore (lv' := [(17, .int (iI (-6))), (16, .int (iI 0)), (15, .int (iI x15_57)), (14, .int (iI (kdZ l_x d_x (1 : Int) (t_x 10).toNat))), (13, .int (iI z34)), (12, .int (iI x12_38)), (11, .int (iI x11_38)), (10, .int (iI ((sumI l_x ((t_x 10)).toNat) + (t_x 11)))), (0, .ref o_a0), (3, .ref l_a0), (8, .ref t_a0)]) hx hb dL_tells_449 hl (by decide) rfl (fun ls hl => ?_)
                                refine lv_iload hx hb dL_tells_451 (lv_at hl 1 rfl) ?_
                                refine zr_if_eq (tgt := 562) (x := 0) hx hb rg_0 dL_tells_453 (by decide) (fun _ => ?_) (fun c => absurd (by decide) c)
                                refine lv_iconst (v := iI 0) hx hb dL_tells_562 rfl ?_
                                exact zr_zret (z := 0) hx hb hr hlocks hK (Or.inl rfl) () hP hD hS dL_tells_563 ⟨rg_0, h276⟩
                              · have h277 := h272.1 c273
                                refine lv_aload_n hx hb dL_tells_368 rfl (lv_at hl 7 rfl) ?_
                                refine lv_iconst (v := iI 1) hx hb dL_tells_369 rfl ?_
                                obtain ⟨g278, g279, h280⟩ := h277
                                obtain ⟨b281, h282⟩ := h280
                                obtain ⟨b283, h284⟩ := h282
                                refine zq_viR (As := [.int (iI 1)]) (rest := []) (c_X6_count l G o_a0 o_a1 o_a2 o_a3 o_a4 o_a5 o_a6 o_a7 o_a8 o_a9 o_a10 o_a11 o_a12 o_cu o_fo o_sv o_hs o_ol o_tt o_s0 o_s1 o_s2 o_s3 o_cs o_ln o_kd o_fk o_hd o_va o_le o_mo 1 g278 g279 r_o_cu r_o_fo r_o_sv r_o_hs r_o_ol r_o_tt r_o_s0 r_o_s1 r_o_s2 r_o_s3 r_o_cs r_o_ln r_o_kd r_o_fk r_o_hd r_o_va r_o_le r_o_mo rg_1 b281 b283) ⟨hx, hb, hml, hown, hts⟩ (cwV 1 hts gL_tells_X6_count rfl rfl rfl hdX6_count ⟨Nat.le_of_ble_eq_true rfl, Nat.le_of_ble_eq_true rfl⟩) hK hP hD hS hA rfl rfl [0, 1, 2, 3, 4, 5, 6, 7, 8, 9, 10, 11, 12, 13, 14, 15, 16, 17, 18, 19, 20, 21, 22, 23, 24, 25, 26, 27, 28, 29, 30, 31, 32, 33, 34, 35, 36, 37, 38, 39, 40, 41, 42, 43, 44, 45, 46, 47, 48, 49, 50, 51, 52, 53, 54, 55, 56, 57, 58, 59, 60, 61, 62, 63, 64, 65, 66, 67, 68, 69, 70, 71, 72, 73, 74, 75, 76, 77, 78, 79, 80, 81, 82, 83, 84, 85, 86, 87, 88, 89, 90, 91, 92, 93, 94, 95, 96, 97, 98, 99, 100, 101, 102, 103] rfl rfl rfl hl.1 rfl (Nat.le_of_ble_eq_true rfl) dL_tells_370 ⟨Nat.zero_le _, Nat.zero_le _⟩ (fun z286 H locs hw hP hD hS => ?_)
                                obtain ⟨r288, h287⟩ := hw
                                have h289 := h284 z286 r288 h287
                                have hP : va_P G.1 vwCl (flt [W6o G o_a0 o_a4 o_a11 o_a12 o_a5 o_a1 o_a3 o_hs, W0 G o_a1 o_a2 o_cs o_ln, W2 G o_a3 o_kd o_fk o_hd o_va o_le o_mo, W5 G o_a4 o_cu, W1h G o_a5 o_a6 o_a7 o_a8 o_a9 o_a10 o_ol o_tt, W5 G o_a7 o_s0, W5 G o_a8 o_s1, W5 G o_a9 o_s2, W5 G o_a10 o_s3, W5 G o_a11 o_fo, W5 G o_a12 o_sv, [(f_a0, eI G 60 f_x)], [(n_a0, eI G 64 n_x)], [(l_a0, eI G 64 l_x)], [(d_a0, eI G 64 d_x)], [(m_a0, eI G 20 m_x)], [(k_a0, eI G 60 k_x)], [(c_a0, eI G 60 c_x)], [(t_a0, eI G 12 t_x)]]) H := hP
                                have hD : va_D A (flt [W6o G o_a0 o_a4 o_a11 o_a12 o_a5 o_a1 o_a3 o_hs, W0 G o_a1 o_a2 o_cs o_ln, W2 G o_a3 o_kd o_fk o_hd o_va o_le o_mo, W5 G o_a4 o_cu, W1h G o_a5 o_a6 o_a7 o_a8 o_a9 o_a10 o_ol o_tt, W5 G o_a7 o_s0, W5 G o_a8 o_s1, W5 G o_a9 o_s2, W5 G o_a10 o_s3, W5 G o_a11 o_fo, W5 G o_a12 o_sv, [(f_a0, eI G 60 f_x)], [(n_a0, eI G 64 n_x)], [(l_a0, eI G 64 l_x)], [(d_a0, eI G 64 d_x)], [(m_a0, eI G 20 m_x)], [(k_a0, eI G 60 k_x)], [(c_a0, eI G 60 c_x)], [(t_a0, eI G 12 t_x)]]) := hD
                                refine lv_iload hx hb dL_tells_373 (lv_at hl 6 rfl) ?_
                                refine zr_icmp_ne (tgt := 444) (x := z286) (y := (sumI l_x ((t_x 10)).toNat) + (t_x 11)) hx hb r288 r8 dL_tells_375 (by decide) (fun c290 => ?_) (fun c290 => ?_)
                                · have h293 := h289.2 c290
                                  refine lv_iconst (v := iI 0) hx hb dL_tells_444 rfl ?_
                                  refine lv_istore (lv' := [(16, .int (iI 0)), (15, .int (iI x15_57)), (14, .int (iI (kdZ l_x d_x (1 : Int) (t_x 10).toNat))), (13, .int (iI z34)), (12, .int (iI x12_38)), (11, .int (iI x11_38)), (10, .int (iI ((sumI l_x ((t_x 10)).toNat) + (t_x 11)))), (0, .ref o_a0), (3, .ref l_a0), (8, .ref t_a0)]) hx hb dL_tells_445 hl (by decide) rfl (fun ls hl => ?_)
                                  refine lv_bipush (v := iI (-6)) hx hb dL_tells_447 (by decide) ?_
                                  refine lv_istore (lv' := [(17, .int (iI (-6))), (16, .int (iI 0)), (15, .int (iI x15_57)), (14, .int (iI (kdZ l_x d_x (1 : Int) (t_x 10).toNat))), (13, .int (iI z34)), (12, .int (iI x12_38)), (11, .int (iI x11_38)), (10, .int (iI ((sumI l_x ((t_x 10)).toNat) + (t_x 11)))), (0, .ref o_a0), (3, .ref l_a0), (8, .ref t_a0)]) hx hb dL_tells_449 hl (by decide) rfl (fun ls hl => ?_)
                                  refine lv_iload hx hb dL_tells_451 (lv_at hl 1 rfl) ?_
                                  refine zr_if_eq (tgt := 562) (x := 0) hx hb rg_0 dL_tells_453 (by decide) (fun _ => ?_) (fun c => absurd (by decide) c)
                                  refine lv_iconst (v := iI 0) hx hb dL_tells_562 rfl ?_
                                  exact zr_zret (z := 0) hx hb hr hlocks hK (Or.inl rfl) () hP hD hS dL_tells_563 ⟨rg_0, h293⟩
                                · have h294 := h289.1 c290
                                  refine lv_aload_n hx hb dL_tells_378 rfl (lv_at hl 7 rfl) ?_
                                  refine lv_iconst (v := iI 2) hx hb dL_tells_379 rfl ?_
                                  obtain ⟨g295, g296, h297⟩ := h294
                                  obtain ⟨b298, h299⟩ := h297
                                  obtain ⟨b300, h301⟩ := h299
                                  refine zq_viR (As := [.int (iI 2)]) (rest := []) (c_X6_count l G o_a0 o_a1 o_a2 o_a3 o_a4 o_a5 o_a6 o_a7 o_a8 o_a9 o_a10 o_a11 o_a12 o_cu o_fo o_sv o_hs o_ol o_tt o_s0 o_s1 o_s2 o_s3 o_cs o_ln o_kd o_fk o_hd o_va o_le o_mo 2 g295 g296 r_o_cu r_o_fo r_o_sv r_o_hs r_o_ol r_o_tt r_o_s0 r_o_s1 r_o_s2 r_o_s3 r_o_cs r_o_ln r_o_kd r_o_fk r_o_hd r_o_va r_o_le r_o_mo rg_2 b298 b300) ⟨hx, hb, hml, hown, hts⟩ (cwV 1 hts gL_tells_X6_count rfl rfl rfl hdX6_count ⟨Nat.le_of_ble_eq_true rfl, Nat.le_of_ble_eq_true rfl⟩) hK hP hD hS hA rfl rfl [0, 1, 2, 3, 4, 5, 6, 7, 8, 9, 10, 11, 12, 13, 14, 15, 16, 17, 18, 19, 20, 21, 22, 23, 24, 25, 26, 27, 28, 29, 30, 31, 32, 33, 34, 35, 36, 37, 38, 39, 40, 41, 42, 43, 44, 45, 46, 47, 48, 49, 50, 51, 52, 53, 54, 55, 56, 57, 58, 59, 60, 61, 62, 63, 64, 65, 66, 67, 68, 69, 70, 71, 72, 73, 74, 75, 76, 77, 78, 79, 80, 81, 82, 83, 84, 85, 86, 87, 88, 89, 90, 91, 92, 93, 94, 95, 96, 97, 98, 99, 100, 101, 102, 103] rfl rfl rfl hl.1 rfl (Nat.le_of_ble_eq_true rfl) dL_tells_380 ⟨Nat.zero_le _, Nat.zero_le _⟩ (fun z303 H locs hw hP hD hS => ?_)
                                  obtain ⟨r305, h304⟩ := hw
                                  have h306 := h301 z303 r305 h304
                                  have hP : va_P G.1 vwCl (flt [W6o G o_a0 o_a4 o_a11 o_a12 o_a5 o_a1 o_a3 o_hs, W0 G o_a1 o_a2 o_cs o_ln, W2 G o_a3 o_kd o_fk o_hd o_va o_le o_mo, W5 G o_a4 o_cu, W1h G o_a5 o_a6 o_a7 o_a8 o_a9 o_a10 o_ol o_tt, W5 G o_a7 o_s0, W5 G o_a8 o_s1, W5 G o_a9 o_s2, W5 G o_a10 o_s3, W5 G o_a11 o_fo, W5 G o_a12 o_sv, [(f_a0, eI G 60 f_x)], [(n_a0, eI G 64 n_x)], [(l_a0, eI G 64 l_x)], [(d_a0, eI G 64 d_x)], [(m_a0, eI G 20 m_x)], [(k_a0, eI G 60 k_x)], [(c_a0, eI G 60 c_x)], [(t_a0, eI G 12 t_x)]]) H := hP
                                  have hD : va_D A (flt [W6o G o_a0 o_a4 o_a11 o_a12 o_a5 o_a1 o_a3 o_hs, W0 G o_a1 o_a2 o_cs o_ln, W2 G o_a3 o_kd o_fk o_hd o_va o_le o_mo, W5 G o_a4 o_cu, W1h G o_a5 o_a6 o_a7 o_a8 o_a9 o_a10 o_ol o_tt, W5 G o_a7 o_s0, W5 G o_a8 o_s1, W5 G o_a9 o_s2, W5 G o_a10 o_s3, W5 G o_a11 o_fo, W5 G o_a12 o_sv, [(f_a0, eI G 60 f_x)], [(n_a0, eI G 64 n_x)], [(l_a0, eI G 64 l_x)], [(d_a0, eI G 64 d_x)], [(m_a0, eI G 20 m_x)], [(k_a0, eI G 60 k_x)], [(c_a0, eI G 60 c_x)], [(t_a0, eI G 12 t_x)]]) := hD
                                  refine lv_iload hx hb dL_tells_383 (lv_at hl 5 rfl) ?_
                                  refine zr_icmp_ne (tgt := 444) (x := z303) (y := x11_38) hx hb r305 rx11_38 dL_tells_385 (by decide) (fun c307 => ?_) (fun c307 => ?_)
                                  · have h310 := h306.2 c307
                                    refine lv_iconst (v := iI 0) hx hb dL_tells_444 rfl ?_
                                    refine lv_istore (lv' := [(16, .int (iI 0)), (15, .int (iI x15_57)), (14, .int (iI (kdZ l_x d_x (1 : Int) (t_x 10).toNat))), (13, .int (iI z34)), (12, .int (iI x12_38)), (11, .int (iI x11_38)), (10, .int (iI ((sumI l_x ((t_x 10)).toNat) + (t_x 11)))), (0, .ref o_a0), (3, .ref l_a0), (8, .ref t_a0)]) hx hb dL_tells_445 hl (by decide) rfl (fun ls hl => ?_)
                                    refine lv_bipush (v := iI (-6)) hx hb dL_tells_447 (by decide) ?_
                                    refine lv_istore (lv' := [(17, .int (iI (-6))), (16, .int (iI 0)), (15, .int (iI x15_57)), (14, .int (iI (kdZ l_x d_x (1 : Int) (t_x 10).toNat))), (13, .int (iI z34)), (12, .int (iI x12_38)), (11, .int (iI x11_38)), (10, .int (iI ((sumI l_x ((t_x 10)).toNat) + (t_x 11)))), (0, .ref o_a0), (3, .ref l_a0), (8, .ref t_a0)]) hx hb dL_tells_449 hl (by decide) rfl (fun ls hl => ?_)
                                    refine lv_iload hx hb dL_tells_451 (lv_at hl 1 rfl) ?_
                                    refine zr_if_eq (tgt := 562) (x := 0) hx hb rg_0 dL_tells_453 (by decide) (fun _ => ?_) (fun c => absurd (by decide) c)
                                    refine lv_iconst (v := iI 0) hx hb dL_tells_562 rfl ?_
                                    exact zr_zret (z := 0) hx hb hr hlocks hK (Or.inl rfl) () hP hD hS dL_tells_563 ⟨rg_0, h310⟩
                                  · have h311 := h306.1 c307
                                    refine lv_aload_n hx hb dL_tells_388 rfl (lv_at hl 7 rfl) ?_
                                    refine lv_iconst (v := iI 3) hx hb dL_tells_389 rfl ?_
                                    obtain ⟨g312, g313, h314⟩ := h311
                                    obtain ⟨b315, h316⟩ := h314
                                    obtain ⟨b317, h318⟩ := h316
                                    refine zq_viR (As := [.int (iI 3)]) (rest := []) (c_X6_count l G o_a0 o_a1 o_a2 o_a3 o_a4 o_a5 o_a6 o_a7 o_a8 o_a9 o_a10 o_a11 o_a12 o_cu o_fo o_sv o_hs o_ol o_tt o_s0 o_s1 o_s2 o_s3 o_cs o_ln o_kd o_fk o_hd o_va o_le o_mo 3 g312 g313 r_o_cu r_o_fo r_o_sv r_o_hs r_o_ol r_o_tt r_o_s0 r_o_s1 r_o_s2 r_o_s3 r_o_cs r_o_ln r_o_kd r_o_fk r_o_hd r_o_va r_o_le r_o_mo rg_3 b315 b317) ⟨hx, hb, hml, hown, hts⟩ (cwV 1 hts gL_tells_X6_count rfl rfl rfl hdX6_count ⟨Nat.le_of_ble_eq_true rfl, Nat.le_of_ble_eq_true rfl⟩) hK hP hD hS hA rfl rfl [0, 1, 2, 3, 4, 5, 6, 7, 8, 9, 10, 11, 12, 13, 14, 15, 16, 17, 18, 19, 20, 21, 22, 23, 24, 25, 26, 27, 28, 29, 30, 31, 32, 33, 34, 35, 36, 37, 38, 39, 40, 41, 42, 43, 44, 45, 46, 47, 48, 49, 50, 51, 52, 53, 54, 55, 56, 57, 58, 59, 60, 61, 62, 63, 64, 65, 66, 67, 68, 69, 70, 71, 72, 73, 74, 75, 76, 77, 78, 79, 80, 81, 82, 83, 84, 85, 86, 87, 88, 89, 90, 91, 92, 93, 94, 95, 96, 97, 98, 99, 100, 101, 102, 103] rfl rfl rfl hl.1 rfl (Nat.le_of_ble_eq_true rfl) dL_tells_390 ⟨Nat.zero_le _, Nat.zero_le _⟩ (fun z320 H locs hw hP hD hS => ?_)
                                    obtain ⟨r322, h321⟩ := hw
                                    have h323 := h318 z320 r322 h321
                                    have hP : va_P G.1 vwCl (flt [W6o G o_a0 o_a4 o_a11 o_a12 o_a5 o_a1 o_a3 o_hs, W0 G o_a1 o_a2 o_cs o_ln, W2 G o_a3 o_kd o_fk o_hd o_va o_le o_mo, W5 G o_a4 o_cu, W1h G o_a5 o_a6 o_a7 o_a8 o_a9 o_a10 o_ol o_tt, W5 G o_a7 o_s0, W5 G o_a8 o_s1, W5 G o_a9 o_s2, W5 G o_a10 o_s3, W5 G o_a11 o_fo, W5 G o_a12 o_sv, [(f_a0, eI G 60 f_x)], [(n_a0, eI G 64 n_x)], [(l_a0, eI G 64 l_x)], [(d_a0, eI G 64 d_x)], [(m_a0, eI G 20 m_x)], [(k_a0, eI G 60 k_x)], [(c_a0, eI G 60 c_x)], [(t_a0, eI G 12 t_x)]]) H := hP
                                    have hD : va_D A (flt [W6o G o_a0 o_a4 o_a11 o_a12 o_a5 o_a1 o_a3 o_hs, W0 G o_a1 o_a2 o_cs o_ln, W2 G o_a3 o_kd o_fk o_hd o_va o_le o_mo, W5 G o_a4 o_cu, W1h G o_a5 o_a6 o_a7 o_a8 o_a9 o_a10 o_ol o_tt, W5 G o_a7 o_s0, W5 G o_a8 o_s1, W5 G o_a9 o_s2, W5 G o_a10 o_s3, W5 G o_a11 o_fo, W5 G o_a12 o_sv, [(f_a0, eI G 60 f_x)], [(n_a0, eI G 64 n_x)], [(l_a0, eI G 64 l_x)], [(d_a0, eI G 64 d_x)], [(m_a0, eI G 20 m_x)], [(k_a0, eI G 60 k_x)], [(c_a0, eI G 60 c_x)], [(t_a0, eI G 12 t_x)]]) := hD
                                    refine lv_aload hx hb dL_tells_393 (lv_at hl 9 rfl) ?_
                                    refine lv_bipush (v := iI 7) hx hb dL_tells_395 (by decide) ?_
                                    refine zr_iald (n := 12) (f := t_x) (i := 7) hx hb hK hP 111 rfl rg_7 ⟨by decide, by decide⟩ dL_tells_397 ?_
                                    refine zr_icmp_ne (tgt := 444) (x := z320) (y := t_x 7) hx hb r322 (r_t_x 7) dL_tells_398 (by decide) (fun c324 => ?_) (fun c324 => ?_)
                                    · have h327 := h323.2 c324
                                      refine lv_iconst (v := iI 0) hx hb dL_tells_444 rfl ?_
                                      refine lv_istore (lv' := [(16, .int (iI 0)), (15, .int (iI x15_57)), (14, .int (iI (kdZ l_x d_x (1 : Int) (t_x 10).toNat))), (13, .int (iI z34)), (12, .int (iI x12_38)), (11, .int (iI x11_38)), (10, .int (iI ((sumI l_x ((t_x 10)).toNat) + (t_x 11)))), (0, .ref o_a0), (3, .ref l_a0), (8, .ref t_a0)]) hx hb dL_tells_445 hl (by decide) rfl (fun ls hl => ?_)
                                      refine lv_bipush (v := iI (-6)) hx hb dL_tells_447 (by decide) ?_
                                      refine lv_istore (lv' := [(17, .int (iI (-6))), (16, .int (iI 0)), (15, .int (iI x15_57)), (14, .int (iI (kdZ l_x d_x (1 : Int) (t_x 10).toNat))), (13, .int (iI z34)), (12, .int (iI x12_38)), (11, .int (iI x11_38)), (10, .int (iI ((sumI l_x ((t_x 10)).toNat) + (t_x 11)))), (0, .ref o_a0), (3, .ref l_a0), (8, .ref t_a0)]) hx hb dL_tells_449 hl (by decide) rfl (fun ls hl => ?_)
                                      refine lv_iload hx hb dL_tells_451 (lv_at hl 1 rfl) ?_
                                      refine zr_if_eq (tgt := 562) (x := 0) hx hb rg_0 dL_tells_453 (by decide) (fun _ => ?_) (fun c => absurd (by decide) c)
                                      refine lv_iconst (v := iI 0) hx hb dL_tells_562 rfl ?_
                                      exact zr_zret (z := 0) hx hb hr hlocks hK (Or.inl rfl) () hP hD hS dL_tells_563 ⟨rg_0, h327⟩
                                    · have h328 := h323.1 c324
                                      refine lv_aload_n hx hb dL_tells_401 rfl (lv_at hl 7 rfl) ?_
                                      refine lv_iconst (v := iI 4) hx hb dL_tells_402 rfl ?_
                                      obtain ⟨g329, g330, h331⟩ := h328
                                      obtain ⟨b332, h333⟩ := h331
                                      obtain ⟨b334, h335⟩ := h333
                                      refine zq_viR (As := [.int (iI 4)]) (rest := []) (c_X6_count l G o_a0 o_a1 o_a2 o_a3 o_a4 o_a5 o_a6 o_a7 o_a8 o_a9 o_a10 o_a11 o_a12 o_cu o_fo o_sv o_hs o_ol o_tt o_s0 o_s1 o_s2 o_s3 o_cs o_ln o_kd o_fk o_hd o_va o_le o_mo 4 g329 g330 r_o_cu r_o_fo r_o_sv r_o_hs r_o_ol r_o_tt r_o_s0 r_o_s1 r_o_s2 r_o_s3 r_o_cs r_o_ln r_o_kd r_o_fk r_o_hd r_o_va r_o_le r_o_mo rg_4 b332 b334) ⟨hx, hb, hml, hown, hts⟩ (cwV 1 hts gL_tells_X6_count rfl rfl rfl hdX6_count ⟨Nat.le_of_ble_eq_true rfl, Nat.le_of_ble_eq_true rfl⟩) hK hP hD hS hA rfl rfl [0, 1, 2, 3, 4, 5, 6, 7, 8, 9, 10, 11, 12, 13, 14, 15, 16, 17, 18, 19, 20, 21, 22, 23, 24, 25, 26, 27, 28, 29, 30, 31, 32, 33, 34, 35, 36, 37, 38, 39, 40, 41, 42, 43, 44, 45, 46, 47, 48, 49, 50, 51, 52, 53, 54, 55, 56, 57, 58, 59, 60, 61, 62, 63, 64, 65, 66, 67, 68, 69, 70, 71, 72, 73, 74, 75, 76, 77, 78, 79, 80, 81, 82, 83, 84, 85, 86, 87, 88, 89, 90, 91, 92, 93, 94, 95, 96, 97, 98, 99, 100, 101, 102, 103] rfl rfl rfl hl.1 rfl (Nat.le_of_ble_eq_true rfl) dL_tells_403 ⟨Nat.zero_le _, Nat.zero_le _⟩ (fun z337 H locs hw hP hD hS => ?_)
                                      obtain ⟨r339, h338⟩ := hw
                                      have h340 := h335 z337 r339 h338
                                      have hP : va_P G.1 vwCl (flt [W6o G o_a0 o_a4 o_a11 o_a12 o_a5 o_a1 o_a3 o_hs, W0 G o_a1 o_a2 o_cs o_ln, W2 G o_a3 o_kd o_fk o_hd o_va o_le o_mo, W5 G o_a4 o_cu, W1h G o_a5 o_a6 o_a7 o_a8 o_a9 o_a10 o_ol o_tt, W5 G o_a7 o_s0, W5 G o_a8 o_s1, W5 G o_a9 o_s2, W5 G o_a10 o_s3, W5 G o_a11 o_fo, W5 G o_a12 o_sv, [(f_a0, eI G 60 f_x)], [(n_a0, eI G 64 n_x)], [(l_a0, eI G 64 l_x)], [(d_a0, eI G 64 d_x)], [(m_a0, eI G 20 m_x)], [(k_a0, eI G 60 k_x)], [(c_a0, eI G 60 c_x)], [(t_a0, eI G 12 t_x)]]) H := hP
                                      have hD : va_D A (flt [W6o G o_a0 o_a4 o_a11 o_a12 o_a5 o_a1 o_a3 o_hs, W0 G o_a1 o_a2 o_cs o_ln, W2 G o_a3 o_kd o_fk o_hd o_va o_le o_mo, W5 G o_a4 o_cu, W1h G o_a5 o_a6 o_a7 o_a8 o_a9 o_a10 o_ol o_tt, W5 G o_a7 o_s0, W5 G o_a8 o_s1, W5 G o_a9 o_s2, W5 G o_a10 o_s3, W5 G o_a11 o_fo, W5 G o_a12 o_sv, [(f_a0, eI G 60 f_x)], [(n_a0, eI G 64 n_x)], [(l_a0, eI G 64 l_x)], [(d_a0, eI G 64 d_x)], [(m_a0, eI G 20 m_x)], [(k_a0, eI G 60 k_x)], [(c_a0, eI G 60 c_x)], [(t_a0, eI G 12 t_x)]]) := hD
                                      refine lv_aload hx hb dL_tells_406 (lv_at hl 9 rfl) ?_
                                      refine lv_bipush (v := iI 8) hx hb dL_tells_408 (by decide) ?_
                                      refine zr_iald (n := 12) (f := t_x) (i := 8) hx hb hK hP 111 rfl rg_8 ⟨by decide, by decide⟩ dL_tells_410 ?_
                                      refine zr_icmp_ne (tgt := 444) (x := z337) (y := t_x 8) hx hb r339 (r_t_x 8) dL_tells_411 (by decide) (fun c341 => ?_) (fun c341 => ?_)
                                      · have h344 := h340.2 c341
                                        refine lv_iconst (v := iI 0) hx hb dL_tells_444 rfl ?_
                                        refine lv_istore (lv' := [(16, .int (iI 0)), (15, .int (iI x15_57)), (14, .int (iI (kdZ l_x d_x (1 : Int) (t_x 10).toNat))), (13, .int (iI z34)), (12, .int (iI x12_38)), (11, .int (iI x11_38)), (10, .int (iI ((sumI l_x ((t_x 10)).toNat) + (t_x 11)))), (0, .ref o_a0), (3, .ref l_a0), (8, .ref t_a0)]) hx hb dL_tells_445 hl (by decide) rfl (fun ls hl => ?_)
                                        refine lv_bipush (v := iI (-6)) hx hb dL_tells_447 (by decide) ?_
                                        refine lv_istore (lv' := [(17, .int (iI (-6))), (16, .int (iI 0)), (15, .int (iI x15_57)), (14, .int (iI (kdZ l_x d_x (1 : Int) (t_x 10).toNat))), (13, .int (iI z34)), (12, .int (iI x12_38)), (11, .int (iI x11_38)), (10, .int (iI ((sumI l_x ((t_x 10)).toNat) + (t_x 11)))), (0, .ref o_a0), (3, .ref l_a0), (8, .ref t_a0)]) hx hb dL_tells_449 hl (by decide) rfl (fun ls hl => ?_)
                                        refine lv_iload hx hb dL_tells_451 (lv_at hl 1 rfl) ?_
                                        refine zr_if_eq (tgt := 562) (x := 0) hx hb rg_0 dL_tells_453 (by decide) (fun _ => ?_) (fun c => absurd (by decide) c)
                                        refine lv_iconst (v := iI 0) hx hb dL_tells_562 rfl ?_
                                        exact zr_zret (z := 0) hx hb hr hlocks hK (Or.inl rfl) () hP hD hS dL_tells_563 ⟨rg_0, h344⟩
                                      · have h345 := h340.1 c341
                                        refine lv_aload_n hx hb dL_tells_414 rfl (lv_at hl 7 rfl) ?_
                                        refine lv_iconst (v := iI 5) hx hb dL_tells_415 rfl ?_
                                        obtain ⟨g346, g347, h348⟩ := h345
                                        obtain ⟨b349, h350⟩ := h348
                                        obtain ⟨b351, h352⟩ := h350
                                        refine zq_viR (As := [.int (iI 5)]) (rest := []) (c_X6_count l G o_a0 o_a1 o_a2 o_a3 o_a4 o_a5 o_a6 o_a7 o_a8 o_a9 o_a10 o_a11 o_a12 o_cu o_fo o_sv o_hs o_ol o_tt o_s0 o_s1 o_s2 o_s3 o_cs o_ln o_kd o_fk o_hd o_va o_le o_mo 5 g346 g347 r_o_cu r_o_fo r_o_sv r_o_hs r_o_ol r_o_tt r_o_s0 r_o_s1 r_o_s2 r_o_s3 r_o_cs r_o_ln r_o_kd r_o_fk r_o_hd r_o_va r_o_le r_o_mo rg_5 b349 b351) ⟨hx, hb, hml, hown, hts⟩ (cwV 1 hts gL_tells_X6_count rfl rfl rfl hdX6_count ⟨Nat.le_of_ble_eq_true rfl, Nat.le_of_ble_eq_true rfl⟩) hK hP hD hS hA rfl rfl [0, 1, 2, 3, 4, 5, 6, 7, 8, 9, 10, 11, 12, 13, 14, 15, 16, 17, 18, 19, 20, 21, 22, 23, 24, 25, 26, 27, 28, 29, 30, 31, 32, 33, 34, 35, 36, 37, 38, 39, 40, 41, 42, 43, 44, 45, 46, 47, 48, 49, 50, 51, 52, 53, 54, 55, 56, 57, 58, 59, 60, 61, 62, 63, 64, 65, 66, 67, 68, 69, 70, 71, 72, 73, 74, 75, 76, 77, 78, 79, 80, 81, 82, 83, 84, 85, 86, 87, 88, 89, 90, 91, 92, 93, 94, 95, 96, 97, 98, 99, 100, 101, 102, 103] rfl rfl rfl hl.1 rfl (Nat.le_of_ble_eq_true rfl) dL_tells_416 ⟨Nat.zero_le _, Nat.zero_le _⟩ (fun z354 H locs hw hP hD hS => ?_)
                                        obtain ⟨r356, h355⟩ := hw
                                        have h357 := h352 z354 r356 h355
                                        have hP : va_P G.1 vwCl (flt [W6o G o_a0 o_a4 o_a11 o_a12 o_a5 o_a1 o_a3 o_hs, W0 G o_a1 o_a2 o_cs o_ln, W2 G o_a3 o_kd o_fk o_hd o_va o_le o_mo, W5 G o_a4 o_cu, W1h G o_a5 o_a6 o_a7 o_a8 o_a9 o_a10 o_ol o_tt, W5 G o_a7 o_s0, W5 G o_a8 o_s1, W5 G o_a9 o_s2, W5 G o_a10 o_s3, W5 G o_a11 o_fo, W5 G o_a12 o_sv, [(f_a0, eI G 60 f_x)], [(n_a0, eI G 64 n_x)], [(l_a0, eI G 64 l_x)], [(d_a0, eI G 64 d_x)], [(m_a0, eI G 20 m_x)], [(k_a0, eI G 60 k_x)], [(c_a0, eI G 60 c_x)], [(t_a0, eI G 12 t_x)]]) H := hP
                                        have hD : va_D A (flt [W6o G o_a0 o_a4 o_a11 o_a12 o_a5 o_a1 o_a3 o_hs, W0 G o_a1 o_a2 o_cs o_ln, W2 G o_a3 o_kd o_fk o_hd o_va o_le o_mo, W5 G o_a4 o_cu, W1h G o_a5 o_a6 o_a7 o_a8 o_a9 o_a10 o_ol o_tt, W5 G o_a7 o_s0, W5 G o_a8 o_s1, W5 G o_a9 o_s2, W5 G o_a10 o_s3, W5 G o_a11 o_fo, W5 G o_a12 o_sv, [(f_a0, eI G 60 f_x)], [(n_a0, eI G 64 n_x)], [(l_a0, eI G 64 l_x)], [(d_a0, eI G 64 d_x)], [(m_a0, eI G 20 m_x)], [(k_a0, eI G 60 k_x)], [(c_a0, eI G 60 c_x)], [(t_a0, eI G 12 t_x)]]) := hD
                                        refine lv_aload hx hb dL_tells_419 (lv_at hl 9 rfl) ?_
                                        refine lv_bipush (v := iI 9) hx hb dL_tells_421 (by decide) ?_
                                        refine zr_iald (n := 12) (f := t_x) (i := 9) hx hb hK hP 111 rfl rg_9 ⟨by decide, by decide⟩ dL_tells_423 ?_
                                        refine zr_icmp_ne (tgt := 444) (x := z354) (y := t_x 9) hx hb r356 (r_t_x 9) dL_tells_424 (by decide) (fun c358 => ?_) (fun c358 => ?_)
                                        · have h361 := h357.2 c358
                                          refine lv_iconst (v := iI 0) hx hb dL_tells_444 rfl ?_
                                          refine lv_istore (lv' := [(16, .int (iI 0)), (15, .int (iI x15_57)), (14, .int (iI (kdZ l_x d_x (1 : Int) (t_x 10).toNat))), (13, .int (iI z34)), (12, .int (iI x12_38)), (11, .int (iI x11_38)), (10, .int (iI ((sumI l_x ((t_x 10)).toNat) + (t_x 11)))), (0, .ref o_a0), (3, .ref l_a0), (8, .ref t_a0)]) hx hb dL_tells_445 hl (by decide) rfl (fun ls hl => ?_)
                                          refine lv_bipush (v := iI (-6)) hx hb dL_tells_447 (by decide) ?_
                                          refine lv_istore (lv' := [(17, .int (iI (-6))), (16, .int (iI 0)), (15, .int (iI x15_57)), (14, .int (iI (kdZ l_x d_x (1 : Int) (t_x 10).toNat))), (13, .int (iI z34)), (12, .int (iI x12_38)), (11, .int (iI x11_38)), (10, .int (iI ((sumI l_x ((t_x 10)).toNat) + (t_x 11)))), (0, .ref o_a0), (3, .ref l_a0), (8, .ref t_a0)]) hx hb dL_tells_449 hl (by decide) rfl (fun ls hl => ?_)
                                          refine lv_iload hx hb dL_tells_451 (lv_at hl 1 rfl) ?_
                                          refine zr_if_eq (tgt := 562) (x := 0) hx hb rg_0 dL_tells_453 (by decide) (fun _ => ?_) (fun c => absurd (by decide) c)
                                          refine lv_iconst (v := iI 0) hx hb dL_tells_562 rfl ?_
                                          exact zr_zret (z := 0) hx hb hr hlocks hK (Or.inl rfl) () hP hD hS dL_tells_563 ⟨rg_0, h361⟩
                                        · have h362 := h357.1 c358
                                          refine lv_aload_n hx hb dL_tells_427 rfl (lv_at hl 7 rfl) ?_
                                          refine lv_bipush (v := iI 6) hx hb dL_tells_428 (by decide) ?_
                                          obtain ⟨g363, g364, h365⟩ := h362
                                          obtain ⟨b366, h367⟩ := h365
                                          obtain ⟨b368, h369⟩ := h367
                                          refine zq_viR (As := [.int (iI 6)]) (rest := []) (c_X6_count l G o_a0 o_a1 o_a2 o_a3 o_a4 o_a5 o_a6 o_a7 o_a8 o_a9 o_a10 o_a11 o_a12 o_cu o_fo o_sv o_hs o_ol o_tt o_s0 o_s1 o_s2 o_s3 o_cs o_ln o_kd o_fk o_hd o_va o_le o_mo 6 g363 g364 r_o_cu r_o_fo r_o_sv r_o_hs r_o_ol r_o_tt r_o_s0 r_o_s1 r_o_s2 r_o_s3 r_o_cs r_o_ln r_o_kd r_o_fk r_o_hd r_o_va r_o_le r_o_mo rg_6 b366 b368) ⟨hx, hb, hml, hown, hts⟩ (cwV 1 hts gL_tells_X6_count rfl rfl rfl hdX6_count ⟨Nat.le_of_ble_eq_true rfl, Nat.le_of_ble_eq_true rfl⟩) hK hP hD hS hA rfl rfl [0, 1, 2, 3, 4, 5, 6, 7, 8, 9, 10, 11, 12, 13, 14, 15, 16, 17, 18, 19, 20, 21, 22, 23, 24, 25, 26, 27, 28, 29, 30, 31, 32, 33, 34, 35, 36, 37, 38, 39, 40, 41, 42, 43, 44, 45, 46, 47, 48, 49, 50, 51, 52, 53, 54, 55, 56, 57, 58, 59, 60, 61, 62, 63, 64, 65, 66, 67, 68, 69, 70, 71, 72, 73, 74, 75, 76, 77, 78, 79, 80, 81, 82, 83, 84, 85, 86, 87, 88, 89, 90, 91, 92, 93, 94, 95, 96, 97, 98, 99, 100, 101, 102, 103] rfl rfl rfl hl.1 rfl (Nat.le_of_ble_eq_true rfl) dL_tells_430 ⟨Nat.zero_le _, Nat.zero_le _⟩ (fun z371 H locs hw hP hD hS => ?_)
                                          obtain ⟨r373, h372⟩ := hw
                                          have h374 := h369 z371 r373 h372
                                          have hP : va_P G.1 vwCl (flt [W6o G o_a0 o_a4 o_a11 o_a12 o_a5 o_a1 o_a3 o_hs, W0 G o_a1 o_a2 o_cs o_ln, W2 G o_a3 o_kd o_fk o_hd o_va o_le o_mo, W5 G o_a4 o_cu, W1h G o_a5 o_a6 o_a7 o_a8 o_a9 o_a10 o_ol o_tt, W5 G o_a7 o_s0, W5 G o_a8 o_s1, W5 G o_a9 o_s2, W5 G o_a10 o_s3, W5 G o_a11 o_fo, W5 G o_a12 o_sv, [(f_a0, eI G 60 f_x)], [(n_a0, eI G 64 n_x)], [(l_a0, eI G 64 l_x)], [(d_a0, eI G 64 d_x)], [(m_a0, eI G 20 m_x)], [(k_a0, eI G 60 k_x)], [(c_a0, eI G 60 c_x)], [(t_a0, eI G 12 t_x)]]) H := hP
                                          have hD : va_D A (flt [W6o G o_a0 o_a4 o_a11 o_a12 o_a5 o_a1 o_a3 o_hs, W0 G o_a1 o_a2 o_cs o_ln, W2 G o_a3 o_kd o_fk o_hd o_va o_le o_mo, W5 G o_a4 o_cu, W1h G o_a5 o_a6 o_a7 o_a8 o_a9 o_a10 o_ol o_tt, W5 G o_a7 o_s0, W5 G o_a8 o_s1, W5 G o_a9 o_s2, W5 G o_a10 o_s3, W5 G o_a11 o_fo, W5 G o_a12 o_sv, [(f_a0, eI G 60 f_x)], [(n_a0, eI G 64 n_x)], [(l_a0, eI G 64 l_x)], [(d_a0, eI G 64 d_x)], [(m_a0, eI G 20 m_x)], [(k_a0, eI G 60 k_x)], [(c_a0, eI G 60 c_x)], [(t_a0, eI G 12 t_x)]]) := hD
                                          refine lv_aload hx hb dL_tells_433 (lv_at hl 9 rfl) ?_
                                          refine lv_iconst (v := iI 4) hx hb dL_tells_435 rfl ?_
                                          refine zr_iald (n := 12) (f := t_x) (i := 4) hx hb hK hP 111 rfl rg_4 ⟨by decide, by decide⟩ dL_tells_436 ?_
                                          refine zr_icmp_ne (tgt := 444) (x := z371) (y := t_x 4) hx hb r373 (r_t_x 4) dL_tells_437 (by decide) (fun c375 => ?_) (fun c375 => ?_)
                                          · have h378 := h374.2 c375
                                            refine lv_iconst (v := iI 0) hx hb dL_tells_444 rfl ?_
                                            refine lv_istore (lv' := [(16, .int (iI 0)), (15, .int (iI x15_57)), (14, .int (iI (kdZ l_x d_x (1 : Int) (t_x 10).toNat))), (13, .int (iI z34)), (12, .int (iI x12_38)), (11, .int (iI x11_38)), (10, .int (iI ((sumI l_x ((t_x 10)).toNat) + (t_x 11)))), (0, .ref o_a0), (3, .ref l_a0), (8, .ref t_a0)]) hx hb dL_tells_445 hl (by decide) rfl (fun ls hl => ?_)
                                            refine lv_bipush (v := iI (-6)) hx hb dL_tells_447 (by decide) ?_
                                            refine lv_istore (lv' := [(17, .int (iI (-6))), (16, .int (iI 0)), (15, .int (iI x15_57)), (14, .int (iI (kdZ l_x d_x (1 : Int) (t_x 10).toNat))), (13, .int (iI z34)), (12, .int (iI x12_38)), (11, .int (iI x11_38)), (10, .int (iI ((sumI l_x ((t_x 10)).toNat) + (t_x 11)))), (0, .ref o_a0), (3, .ref l_a0), (8, .ref t_a0)]) hx hb dL_tells_449 hl (by decide) rfl (fun ls hl => ?_)
                                            refine lv_iload hx hb dL_tells_451 (lv_at hl 1 rfl) ?_
                                            refine zr_if_eq (tgt := 562) (x := 0) hx hb rg_0 dL_tells_453 (by decide) (fun _ => ?_) (fun c => absurd (by decide) c)
                                            refine lv_iconst (v := iI 0) hx hb dL_tells_562 rfl ?_
                                            exact zr_zret (z := 0) hx hb hr hlocks hK (Or.inl rfl) () hP hD hS dL_tells_563 ⟨rg_0, h378⟩
                                          · have h379 := h374.1 c375
                                            refine lv_iconst (v := iI 1) hx hb dL_tells_440 rfl ?_
                                            refine lv_goto (tgt := 445) hx hb dL_tells_441 (by decide) ?_
                                            refine lv_istore (lv' := [(16, .int (iI 1)), (15, .int (iI x15_57)), (14, .int (iI (kdZ l_x d_x (1 : Int) (t_x 10).toNat))), (13, .int (iI z34)), (12, .int (iI x12_38)), (11, .int (iI x11_38)), (10, .int (iI ((sumI l_x ((t_x 10)).toNat) + (t_x 11)))), (0, .ref o_a0), (3, .ref l_a0), (8, .ref t_a0)]) hx hb dL_tells_445 hl (by decide) rfl (fun ls hl => ?_)
                                            refine lv_bipush (v := iI (-6)) hx hb dL_tells_447 (by decide) ?_
                                            refine lv_istore (lv' := [(17, .int (iI (-6))), (16, .int (iI 1)), (15, .int (iI x15_57)), (14, .int (iI (kdZ l_x d_x (1 : Int) (t_x 10).toNat))), (13, .int (iI z34)), (12, .int (iI x12_38)), (11, .int (iI x11_38)), (10, .int (iI ((sumI l_x ((t_x 10)).toNat) + (t_x 11)))), (0, .ref o_a0), (3, .ref l_a0), (8, .ref t_a0)]) hx hb dL_tells_449 hl (by decide) rfl (fun ls hl => ?_)
                                            refine lv_iload hx hb dL_tells_451 (lv_at hl 1 rfl) ?_
                                            refine zr_if_eq (tgt := 562) (x := 1) hx hb rg_1 dL_tells_453 (by decide) (fun c => absurd c (by decide)) (fun _ => ?_)
                                            refine lv_aload_n hx hb dL_tells_456 rfl (lv_at hl 8 rfl) ?_
                                            refine lv_iconst (v := iI 0) hx hb dL_tells_457 rfl ?_
                                            obtain ⟨g380, g381, h382⟩ := h379
                                            obtain ⟨b383, h384⟩ := h382
                                            obtain ⟨b385, h386⟩ := h384
                                            refine zq_viR (As := [.int (iI 0)]) (rest := []) (c_X6_ofMerge l G o_a0 o_a1 o_a2 o_a3 o_a4 o_a5 o_a6 o_a7 o_a8 o_a9 o_a10 o_a11 o_a12 o_cu o_fo o_sv o_hs o_ol o_tt o_s0 o_s1 o_s2 o_s3 o_cs o_ln o_kd o_fk o_hd o_va o_le o_mo 0 g380 g381 r_o_cu r_o_fo r_o_sv r_o_hs r_o_ol r_o_tt r_o_s0 r_o_s1 r_o_s2 r_o_s3 r_o_cs r_o_ln r_o_kd r_o_fk r_o_hd r_o_va r_o_le r_o_mo rg_0 b383 b385) ⟨hx, hb, hml, hown, hts⟩ (cwV 1 hts gL_tells_X6_ofMerge rfl rfl rfl hdX6_ofMerge ⟨Nat.le_of_ble_eq_true rfl, Nat.le_of_ble_eq_true rfl⟩) hK hP hD hS hA rfl rfl [0, 1, 2, 3, 4, 5, 6, 7, 8, 9, 10, 11, 12, 13, 14, 15, 16, 17, 18, 19, 20, 21, 22, 23, 24, 25, 26, 27, 28, 29, 30, 31, 32, 33, 34, 35, 36, 37, 38, 39, 40, 41, 42, 43, 44, 45, 46, 47, 48, 49, 50, 51, 52, 53, 54, 55, 56, 57, 58, 59, 60, 61, 62, 63, 64, 65, 66, 67, 68, 69, 70, 71, 72, 73, 74, 75, 76, 77, 78, 79, 80, 81, 82, 83, 84, 85, 86, 87, 88, 89, 90, 91, 92, 93, 94, 95, 96, 97, 98, 99, 100, 101, 102, 103] rfl rfl rfl hl.1 rfl (Nat.le_of_ble_eq_true rfl) dL_tells_458 ⟨Nat.zero_le _, Nat.zero_le _⟩ (fun z388 H locs hw hP hD hS => ?_)
                                            obtain ⟨r390, h389⟩ := hw
                                            have h391 := h386 z388 r390 h389
                                            have hP : va_P G.1 vwCl (flt [W6o G o_a0 o_a4 o_a11 o_a12 o_a5 o_a1 o_a3 o_hs, W0 G o_a1 o_a2 o_cs o_ln, W2 G o_a3 o_kd o_fk o_hd o_va o_le o_mo, W5 G o_a4 o_cu, W1h G o_a5 o_a6 o_a7 o_a8 o_a9 o_a10 o_ol o_tt, W5 G o_a7 o_s0, W5 G o_a8 o_s1, W5 G o_a9 o_s2, W5 G o_a10 o_s3, W5 G o_a11 o_fo, W5 G o_a12 o_sv, [(f_a0, eI G 60 f_x)], [(n_a0, eI G 64 n_x)], [(l_a0, eI G 64 l_x)], [(d_a0, eI G 64 d_x)], [(m_a0, eI G 20 m_x)], [(k_a0, eI G 60 k_x)], [(c_a0, eI G 60 c_x)], [(t_a0, eI G 12 t_x)]]) H := hP
                                            have hD : va_D A (flt [W6o G o_a0 o_a4 o_a11 o_a12 o_a5 o_a1 o_a3 o_hs, W0 G o_a1 o_a2 o_cs o_ln, W2 G o_a3 o_kd o_fk o_hd o_va o_le o_mo, W5 G o_a4 o_cu, W1h G o_a5 o_a6 o_a7 o_a8 o_a9 o_a10 o_ol o_tt, W5 G o_a7 o_s0, W5 G o_a8 o_s1, W5 G o_a9 o_s2, W5 G o_a10 o_s3, W5 G o_a11 o_fo, W5 G o_a12 o_sv, [(f_a0, eI G 60 f_x)], [(n_a0, eI G 64 n_x)], [(l_a0, eI G 64 l_x)], [(d_a0, eI G 64 d_x)], [(m_a0, eI G 20 m_x)], [(k_a0, eI G 60 k_x)], [(c_a0, eI G 60 c_x)], [(t_a0, eI G 12 t_x)]]) := hD
                                            refine lv_aload hx hb dL_tells_461 (lv_at hl 10 rfl) ?_
                                            refine lv_iconst (v := iI 5) hx hb dL_tells_463 rfl ?_
                                            refine zr_iald (n := 12) (f := t_x) (i := 5) hx hb hK hP 111 rfl rg_5 ⟨by decide, by decide⟩ dL_tells_464 ?_
                                            refine lv_iconst (v := iI 1) hx hb dL_tells_465 rfl ?_
                                            obtain ⟨h392, h399⟩ := h391
                                            refine zr_join (G := G) (A := A) (H0 := sT.heap) (nL := 18) 479 (flt [W6o G o_a0 o_a4 o_a11 o_a12 o_a5 o_a1 o_a3 o_hs, W0 G o_a1 o_a2 o_cs o_ln, W2 G o_a3 o_kd o_fk o_hd o_va o_le o_mo, W5 G o_a4 o_cu, W1h G o_a5 o_a6 o_a7 o_a8 o_a9 o_a10 o_ol o_tt, W5 G o_a7 o_s0, W5 G o_a8 o_s1, W5 G o_a9 o_s2, W5 G o_a10 o_s3, W5 G o_a11 o_fo, W5 G o_a12 o_sv, [(f_a0, eI G 60 f_x)], [(n_a0, eI G 64 n_x)], [(l_a0, eI G 64 l_x)], [(d_a0, eI G 64 d_x)], [(m_a0, eI G 20 m_x)], [(k_a0, eI G 60 k_x)], [(c_a0, eI G 60 c_x)], [(t_a0, eI G 12 t_x)]]) [(17, .int (iI (-6))), (15, .int (iI x15_57)), (14, .int (iI (kdZ l_x d_x (1 : Int) (t_x 10).toNat))), (0, .ref o_a0), (3, .ref l_a0), (8, .ref t_a0)] [.int (iI ((if (t_x 5) = 1 then t_x 6 else (-6)) : Int)), .int (iI z388)] (rg ((if (t_x 5) = 1 then t_x 6 else (-6)) : Int)) ?_ ?_
                                            · intro p401 H locs ls hP hD hS hl
                                              have r398 := p401
                                              clear h392
                                              refine zr_icmp_ne (tgt := 562) (x := z388) (y := ((if (t_x 5) = 1 then t_x 6 else (-6)) : Int)) hx hb r390 r398 dL_tells_479 (by decide) (fun c403 => ?_) (fun c403 => ?_)
                                              · have h406 := h399.2 c403
                                                refine lv_iconst (v := iI 0) hx hb dL_tells_562 rfl ?_
                                                exact zr_zret (z := 0) hx hb hr hlocks hK (Or.inl rfl) () hP hD hS dL_tells_563 ⟨rg_0, h406⟩
                                              · have h407 := h399.1 c403
                                                refine lv_aload_n hx hb dL_tells_482 rfl (lv_at hl 3 rfl) ?_
                                                refine lv_iconst (v := iI 1) hx hb dL_tells_483 rfl ?_
                                                obtain ⟨g408, g409, h410⟩ := h407
                                                obtain ⟨b411, h412⟩ := h410
                                                obtain ⟨b413, h414⟩ := h412
                                                refine zq_viR (As := [.int (iI 1)]) (rest := []) (c_X6_ofMerge l G o_a0 o_a1 o_a2 o_a3 o_a4 o_a5 o_a6 o_a7 o_a8 o_a9 o_a10 o_a11 o_a12 o_cu o_fo o_sv o_hs o_ol o_tt o_s0 o_s1 o_s2 o_s3 o_cs o_ln o_kd o_fk o_hd o_va o_le o_mo 1 g408 g409 r_o_cu r_o_fo r_o_sv r_o_hs r_o_ol r_o_tt r_o_s0 r_o_s1 r_o_s2 r_o_s3 r_o_cs r_o_ln r_o_kd r_o_fk r_o_hd r_o_va r_o_le r_o_mo rg_1 b411 b413) ⟨hx, hb, hml, hown, hts⟩ (cwV 1 hts gL_tells_X6_ofMerge rfl rfl rfl hdX6_ofMerge ⟨Nat.le_of_ble_eq_true rfl, Nat.le_of_ble_eq_true rfl⟩) hK hP hD hS hA rfl rfl [0, 1, 2, 3, 4, 5, 6, 7, 8, 9, 10, 11, 12, 13, 14, 15, 16, 17, 18, 19, 20, 21, 22, 23, 24, 25, 26, 27, 28, 29, 30, 31, 32, 33, 34, 35, 36, 37, 38, 39, 40, 41, 42, 43, 44, 45, 46, 47, 48, 49, 50, 51, 52, 53, 54, 55, 56, 57, 58, 59, 60, 61, 62, 63, 64, 65, 66, 67, 68, 69, 70, 71, 72, 73, 74, 75, 76, 77, 78, 79, 80, 81, 82, 83, 84, 85, 86, 87, 88, 89, 90, 91, 92, 93, 94, 95, 96, 97, 98, 99, 100, 101, 102, 103] rfl rfl rfl hl.1 rfl (Nat.le_of_ble_eq_true rfl) dL_tells_484 ⟨Nat.zero_le _, Nat.zero_le _⟩ (fun z416 H locs hw hP hD hS => ?_)
                                                obtain ⟨r418, h417⟩ := hw
                                                have h419 := h414 z416 r418 h417
                                                have hP : va_P G.1 vwCl (flt [W6o G o_a0 o_a4 o_a11 o_a12 o_a5 o_a1 o_a3 o_hs, W0 G o_a1 o_a2 o_cs o_ln, W2 G o_a3 o_kd o_fk o_hd o_va o_le o_mo, W5 G o_a4 o_cu, W1h G o_a5 o_a6 o_a7 o_a8 o_a9 o_a10 o_ol o_tt, W5 G o_a7 o_s0, W5 G o_a8 o_s1, W5 G o_a9 o_s2, W5 G o_a10 o_s3, W5 G o_a11 o_fo, W5 G o_a12 o_sv, [(f_a0, eI G 60 f_x)], [(n_a0, eI G 64 n_x)], [(l_a0, eI G 64 l_x)], [(d_a0, eI G 64 d_x)], [(m_a0, eI G 20 m_x)], [(k_a0, eI G 60 k_x)], [(c_a0, eI G 60 c_x)], [(t_a0, eI G 12 t_x)]]) H := hP
                                                have hD : va_D A (flt [W6o G o_a0 o_a4 o_a11 o_a12 o_a5 o_a1 o_a3 o_hs, W0 G o_a1 o_a2 o_cs o_ln, W2 G o_a3 o_kd o_fk o_hd o_va o_le o_mo, W5 G o_a4 o_cu, W1h G o_a5 o_a6 o_a7 o_a8 o_a9 o_a10 o_ol o_tt, W5 G o_a7 o_s0, W5 G o_a8 o_s1, W5 G o_a9 o_s2, W5 G o_a10 o_s3, W5 G o_a11 o_fo, W5 G o_a12 o_sv, [(f_a0, eI G 60 f_x)], [(n_a0, eI G 64 n_x)], [(l_a0, eI G 64 l_x)], [(d_a0, eI G 64 d_x)], [(m_a0, eI G 20 m_x)], [(k_a0, eI G 60 k_x)], [(c_a0, eI G 60 c_x)], [(t_a0, eI G 12 t_x)]]) := hD
                                                refine lv_aload hx hb dL_tells_487 (lv_at hl 5 rfl) ?_
                                                refine lv_iconst (v := iI 5) hx hb dL_tells_489 rfl ?_
                                                refine zr_iald (n := 12) (f := t_x) (i := 5) hx hb hK hP 111 rfl rg_5 ⟨by decide, by decide⟩ dL_tells_490 ?_
                                                refine lv_iconst (v := iI 1) hx hb dL_tells_491 rfl ?_
                                                obtain ⟨h420, h427⟩ := h419
                                                refine zr_join (G := G) (A := A) (H0 := sT.heap) (nL := 18) 502 (flt [W6o G o_a0 o_a4 o_a11 o_a12 o_a5 o_a1 o_a3 o_hs, W0 G o_a1 o_a2 o_cs o_ln, W2 G o_a3 o_kd o_fk o_hd o_va o_le o_mo, W5 G o_a4 o_cu, W1h G o_a5 o_a6 o_a7 o_a8 o_a9 o_a10 o_ol o_tt, W5 G o_a7 o_s0, W5 G o_a8 o_s1, W5 G o_a9 o_s2, W5 G o_a10 o_s3, W5 G o_a11 o_fo, W5 G o_a12 o_sv, [(f_a0, eI G 60 f_x)], [(n_a0, eI G 64 n_x)], [(l_a0, eI G 64 l_x)], [(d_a0, eI G 64 d_x)], [(m_a0, eI G 20 m_x)], [(k_a0, eI G 60 k_x)], [(c_a0, eI G 60 c_x)], [(t_a0, eI G 12 t_x)]]) [(17, .int (iI (-6))), (15, .int (iI x15_57)), (0, .ref o_a0), (3, .ref l_a0), (8, .ref t_a0)] [.int (iI ((if (t_x 5) = 1 then kdZ l_x d_x (1 : Int) (t_x 10).toNat else (-6)) : Int)), .int (iI z416)] (rg ((if (t_x 5) = 1 then kdZ l_x d_x (1 : Int) (t_x 10).toNat else (-6)) : Int)) ?_ ?_
                                                · intro p429 H locs ls hP hD hS hl
                                                  have r426 := p429
                                                  clear h420
                                                  refine zr_icmp_ne (tgt := 562) (x := z416) (y := ((if (t_x 5) = 1 then kdZ l_x d_x (1 : Int) (t_x 10).toNat else (-6)) : Int)) hx hb r418 r426 dL_tells_502 (by decide) (fun c431 => ?_) (fun c431 => ?_)
                                                  · have h434 := h427.2 c431
                                                    refine lv_iconst (v := iI 0) hx hb dL_tells_562 rfl ?_
                                                    exact zr_zret (z := 0) hx hb hr hlocks hK (Or.inl rfl) () hP hD hS dL_tells_563 ⟨rg_0, h434⟩
                                                  · have h435 := h427.1 c431
                                                    refine lv_aload_n hx hb dL_tells_505 rfl (lv_at hl 2 rfl) ?_
                                                    refine lv_iconst (v := iI 2) hx hb dL_tells_506 rfl ?_
                                                    obtain ⟨g436, g437, h438⟩ := h435
                                                    obtain ⟨b439, h440⟩ := h438
                                                    obtain ⟨b441, h442⟩ := h440
                                                    refine zq_viR (As := [.int (iI 2)]) (rest := []) (c_X6_ofMerge l G o_a0 o_a1 o_a2 o_a3 o_a4 o_a5 o_a6 o_a7 o_a8 o_a9 o_a10 o_a11 o_a12 o_cu o_fo o_sv o_hs o_ol o_tt o_s0 o_s1 o_s2 o_s3 o_cs o_ln o_kd o_fk o_hd o_va o_le o_mo 2 g436 g437 r_o_cu r_o_fo r_o_sv r_o_hs r_o_ol r_o_tt r_o_s0 r_o_s1 r_o_s2 r_o_s3 r_o_cs r_o_ln r_o_kd r_o_fk r_o_hd r_o_va r_o_le r_o_mo rg_2 b439 b441) ⟨hx, hb, hml, hown, hts⟩ (cwV 1 hts gL_tells_X6_ofMerge rfl rfl rfl hdX6_ofMerge ⟨Nat.le_of_ble_eq_true rfl, Nat.le_of_ble_eq_true rfl⟩) hK hP hD hS hA rfl rfl [0, 1, 2, 3, 4, 5, 6, 7, 8, 9, 10, 11, 12, 13, 14, 15, 16, 17, 18, 19, 20, 21, 22, 23, 24, 25, 26, 27, 28, 29, 30, 31, 32, 33, 34, 35, 36, 37, 38, 39, 40, 41, 42, 43, 44, 45, 46, 47, 48, 49, 50, 51, 52, 53, 54, 55, 56, 57, 58, 59, 60, 61, 62, 63, 64, 65, 66, 67, 68, 69, 70, 71, 72, 73, 74, 75, 76, 77, 78, 79, 80, 81, 82, 83, 84, 85, 86, 87, 88, 89, 90, 91, 92, 93, 94, 95, 96, 97, 98, 99, 100, 101, 102, 103] rfl rfl rfl hl.1 rfl (Nat.le_of_ble_eq_true rfl) dL_tells_507 ⟨Nat.zero_le _, Nat.zero_le _⟩ (fun z444 H locs hw hP hD hS => ?_)
                                                    obtain ⟨r446, h445⟩ := hw
                                                    have h447 := h442 z444 r446 h445
                                                    have hP : va_P G.1 vwCl (flt [W6o G o_a0 o_a4 o_a11 o_a12 o_a5 o_a1 o_a3 o_hs, W0 G o_a1 o_a2 o_cs o_ln, W2 G o_a3 o_kd o_fk o_hd o_va o_le o_mo, W5 G o_a4 o_cu, W1h G o_a5 o_a6 o_a7 o_a8 o_a9 o_a10 o_ol o_tt, W5 G o_a7 o_s0, W5 G o_a8 o_s1, W5 G o_a9 o_s2, W5 G o_a10 o_s3, W5 G o_a11 o_fo, W5 G o_a12 o_sv, [(f_a0, eI G 60 f_x)], [(n_a0, eI G 64 n_x)], [(l_a0, eI G 64 l_x)], [(d_a0, eI G 64 d_x)], [(m_a0, eI G 20 m_x)], [(k_a0, eI G 60 k_x)], [(c_a0, eI G 60 c_x)], [(t_a0, eI G 12 t_x)]]) H := hP
                                                    have hD : va_D A (flt [W6o G o_a0 o_a4 o_a11 o_a12 o_a5 o_a1 o_a3 o_hs, W0 G o_a1 o_a2 o_cs o_ln, W2 G o_a3 o_kd o_fk o_hd o_va o_le o_mo, W5 G o_a4 o_cu, W1h G o_a5 o_a6 o_a7 o_a8 o_a9 o_a10 o_ol o_tt, W5 G o_a7 o_s0, W5 G o_a8 o_s1, W5 G o_a9 o_s2, W5 G o_a10 o_s3, W5 G o_a11 o_fo, W5 G o_a12 o_sv, [(f_a0, eI G 60 f_x)], [(n_a0, eI G 64 n_x)], [(l_a0, eI G 64 l_x)], [(d_a0, eI G 64 d_x)], [(m_a0, eI G 20 m_x)], [(k_a0, eI G 60 k_x)], [(c_a0, eI G 60 c_x)], [(t_a0, eI G 12 t_x)]]) := hD
                                                    refine lv_aload hx hb dL_tells_510 (lv_at hl 4 rfl) ?_
                                                    refine lv_iconst (v := iI 5) hx hb dL_tells_512 rfl ?_
                                                    refine zr_iald (n := 12) (f := t_x) (i := 5) hx hb hK hP 111 rfl rg_5 ⟨by decide, by decide⟩ dL_tells_513 ?_
                                                    refine lv_iconst (v := iI 1) hx hb dL_tells_514 rfl ?_
                                                    obtain ⟨h448, h459⟩ := h447
                                                    refine zr_join (G := G) (A := A) (H0 := sT.heap) (nL := 18) 532 (flt [W6o G o_a0 o_a4 o_a11 o_a12 o_a5 o_a1 o_a3 o_hs, W0 G o_a1 o_a2 o_cs o_ln, W2 G o_a3 o_kd o_fk o_hd o_va o_le o_mo, W5 G o_a4 o_cu, W1h G o_a5 o_a6 o_a7 o_a8 o_a9 o_a10 o_ol o_tt, W5 G o_a7 o_s0, W5 G o_a8 o_s1, W5 G o_a9 o_s2, W5 G o_a10 o_s3, W5 G o_a11 o_fo, W5 G o_a12 o_sv, [(f_a0, eI G 60 f_x)], [(n_a0, eI G 64 n_x)], [(l_a0, eI G 64 l_x)], [(d_a0, eI G 64 d_x)], [(m_a0, eI G 20 m_x)], [(k_a0, eI G 60 k_x)], [(c_a0, eI G 60 c_x)], [(t_a0, eI G 12 t_x)]]) [(17, .int (iI (-6))), (15, .int (iI x15_57)), (0, .ref o_a0), (8, .ref t_a0)] [.int (iI ((if (t_x 5) = 1 then l_x ((t_x 10) - 1) else (-6)) : Int)), .int (iI z444)] (rg ((if (t_x 5) = 1 then l_x ((t_x 10) - 1) else (-6)) : Int)) ?_ ?_
                                                    · intro p461 H locs ls hP hD hS hl
                                                      have r458 := p461
                                                      clear h448
                                                      refine zr_icmp_ne (tgt := 562) (x := z444) (y := ((if (t_x 5) = 1 then l_x ((t_x 10) - 1) else (-6)) : Int)) hx hb r446 r458 dL_tells_532 (by decide) (fun c463 => ?_) (fun c463 => ?_)
                                                      · have h466 := h459.2 c463
                                                        refine lv_iconst (v := iI 0) hx hb dL_tells_562 rfl ?_
                                                        exact zr_zret (z := 0) hx hb hr hlocks hK (Or.inl rfl) () hP hD hS dL_tells_563 ⟨rg_0, h466⟩
                                                      · have h467 := h459.1 c463
                                                        refine lv_aload_n hx hb dL_tells_535 rfl (lv_at hl 2 rfl) ?_
                                                        refine lv_iconst (v := iI 3) hx hb dL_tells_536 rfl ?_
                                                        obtain ⟨g468, g469, h470⟩ := h467
                                                        obtain ⟨b471, h472⟩ := h470
                                                        obtain ⟨b473, h474⟩ := h472
                                                        refine zq_viR (As := [.int (iI 3)]) (rest := []) (c_X6_ofMerge l G o_a0 o_a1 o_a2 o_a3 o_a4 o_a5 o_a6 o_a7 o_a8 o_a9 o_a10 o_a11 o_a12 o_cu o_fo o_sv o_hs o_ol o_tt o_s0 o_s1 o_s2 o_s3 o_cs o_ln o_kd o_fk o_hd o_va o_le o_mo 3 g468 g469 r_o_cu r_o_fo r_o_sv r_o_hs r_o_ol r_o_tt r_o_s0 r_o_s1 r_o_s2 r_o_s3 r_o_cs r_o_ln r_o_kd r_o_fk r_o_hd r_o_va r_o_le r_o_mo rg_3 b471 b473) ⟨hx, hb, hml, hown, hts⟩ (cwV 1 hts gL_tells_X6_ofMerge rfl rfl rfl hdX6_ofMerge ⟨Nat.le_of_ble_eq_true rfl, Nat.le_of_ble_eq_true rfl⟩) hK hP hD hS hA rfl rfl [0, 1, 2, 3, 4, 5, 6, 7, 8, 9, 10, 11, 12, 13, 14, 15, 16, 17, 18, 19, 20, 21, 22, 23, 24, 25, 26, 27, 28, 29, 30, 31, 32, 33, 34, 35, 36, 37, 38, 39, 40, 41, 42, 43, 44, 45, 46, 47, 48, 49, 50, 51, 52, 53, 54, 55, 56, 57, 58, 59, 60, 61, 62, 63, 64, 65, 66, 67, 68, 69, 70, 71, 72, 73, 74, 75, 76, 77, 78, 79, 80, 81, 82, 83, 84, 85, 86, 87, 88, 89, 90, 91, 92, 93, 94, 95, 96, 97, 98, 99, 100, 101, 102, 103] rfl rfl rfl hl.1 rfl (Nat.le_of_ble_eq_true rfl) dL_tells_537 ⟨Nat.zero_le _, Nat.zero_le _⟩ (fun z476 H locs hw hP hD hS => ?_)
                                                        obtain ⟨r478, h477⟩ := hw
                                                        have h479 := h474 z476 r478 h477
                                                        have hP : va_P G.1 vwCl (flt [W6o G o_a0 o_a4 o_a11 o_a12 o_a5 o_a1 o_a3 o_hs, W0 G o_a1 o_a2 o_cs o_ln, W2 G o_a3 o_kd o_fk o_hd o_va o_le o_mo, W5 G o_a4 o_cu, W1h G o_a5 o_a6 o_a7 o_a8 o_a9 o_a10 o_ol o_tt, W5 G o_a7 o_s0, W5 G o_a8 o_s1, W5 G o_a9 o_s2, W5 G o_a10 o_s3, W5 G o_a11 o_fo, W5 G o_a12 o_sv, [(f_a0, eI G 60 f_x)], [(n_a0, eI G 64 n_x)], [(l_a0, eI G 64 l_x)], [(d_a0, eI G 64 d_x)], [(m_a0, eI G 20 m_x)], [(k_a0, eI G 60 k_x)], [(c_a0, eI G 60 c_x)], [(t_a0, eI G 12 t_x)]]) H := hP
                                                        have hD : va_D A (flt [W6o G o_a0 o_a4 o_a11 o_a12 o_a5 o_a1 o_a3 o_hs, W0 G o_a1 o_a2 o_cs o_ln, W2 G o_a3 o_kd o_fk o_hd o_va o_le o_mo, W5 G o_a4 o_cu, W1h G o_a5 o_a6 o_a7 o_a8 o_a9 o_a10 o_ol o_tt, W5 G o_a7 o_s0, W5 G o_a8 o_s1, W5 G o_a9 o_s2, W5 G o_a10 o_s3, W5 G o_a11 o_fo, W5 G o_a12 o_sv, [(f_a0, eI G 60 f_x)], [(n_a0, eI G 64 n_x)], [(l_a0, eI G 64 l_x)], [(d_a0, eI G 64 d_x)], [(m_a0, eI G 20 m_x)], [(k_a0, eI G 60 k_x)], [(c_a0, eI G 60 c_x)], [(t_a0, eI G 12 t_x)]]) := hD
                                                        refine lv_aload hx hb dL_tells_540 (lv_at hl 3 rfl) ?_
                                                        refine lv_iconst (v := iI 5) hx hb dL_tells_542 rfl ?_
                                                        refine zr_iald (n := 12) (f := t_x) (i := 5) hx hb hK hP 111 rfl rg_5 ⟨by decide, by decide⟩ dL_tells_543 ?_
                                                        refine lv_iconst (v := iI 1) hx hb dL_tells_544 rfl ?_
                                                        obtain ⟨h480, h487⟩ := h479
                                                        refine zr_join (G := G) (A := A) (H0 := sT.heap) (nL := 18) 555 (flt [W6o G o_a0 o_a4 o_a11 o_a12 o_a5 o_a1 o_a3 o_hs, W0 G o_a1 o_a2 o_cs o_ln, W2 G o_a3 o_kd o_fk o_hd o_va o_le o_mo, W5 G o_a4 o_cu, W1h G o_a5 o_a6 o_a7 o_a8 o_a9 o_a10 o_ol o_tt, W5 G o_a7 o_s0, W5 G o_a8 o_s1, W5 G o_a9 o_s2, W5 G o_a10 o_s3, W5 G o_a11 o_fo, W5 G o_a12 o_sv, [(f_a0, eI G 60 f_x)], [(n_a0, eI G 64 n_x)], [(l_a0, eI G 64 l_x)], [(d_a0, eI G 64 d_x)], [(m_a0, eI G 20 m_x)], [(k_a0, eI G 60 k_x)], [(c_a0, eI G 60 c_x)], [(t_a0, eI G 12 t_x)]]) [] [.int (iI ((if (t_x 5) = 1 then x15_57 else (-6)) : Int)), .int (iI z476)] (rg ((if (t_x 5) = 1 then x15_57 else (-6)) : Int)) ?_ ?_
                                                        · intro p489 H locs ls hP hD hS hl
                                                          have r486 := p489
                                                          clear h480
                                                          refine zr_icmp_ne (tgt := 562) (x := z476) (y := ((if (t_x 5) = 1 then x15_57 else (-6)) : Int)) hx hb r478 r486 dL_tells_555 (by decide) (fun c491 => ?_) (fun c491 => ?_)
                                                          · have h494 := h487.2 c491
                                                            refine lv_iconst (v := iI 0) hx hb dL_tells_562 rfl ?_
                                                            exact zr_zret (z := 0) hx hb hr hlocks hK (Or.inl rfl) () hP hD hS dL_tells_563 ⟨rg_0, h494⟩
                                                          · have h495 := h487.1 c491
                                                            refine lv_iconst (v := iI 1) hx hb dL_tells_558 rfl ?_
                                                            refine lv_goto (tgt := 563) hx hb dL_tells_559 (by decide) ?_
                                                            exact zr_zret (z := 1) hx hb hr hlocks hK (Or.inr rfl) () hP hD hS dL_tells_563 ⟨rg_1, h495⟩
                                                        · intro J488
                                                          refine zr_icmp_ne (tgt := 553) (x := t_x 5) (y := 1) hx hb (r_t_x 5) rg_1 dL_tells_545 (by decide) (fun c481 => ?_) (fun c481 => ?_)
                                                          · have h484 := h480.2 c481
                                                            refine lv_iload hx hb dL_tells_553 (lv_at hl 0 rfl) ?_
                                                            have e0_J488 : ((if (t_x 5) = 1 then x15_57 else (-6)) : Int) = (-6) := (if_neg c481)
                                                            have J9 := J488 _ _ _ (by (try rw [e0_J488]); exact hP) (by (try rw [e0_J488]); exact hD) hS (by (try rw [e0_J488]); exact lv_sub hl [] rfl) (by rw [show ((if (t_x 5) = 1 then x15_57 else (-6)) : Int) = (-6) from (if_neg c481)]; exact rg_m6)
                                                            (try rw [e0_J488] at J9)
                                                            exact J9
                                                          · have h485 := h480.1 c481
                                                            refine lv_iload hx hb dL_tells_548 (lv_at hl 1 rfl) ?_
                                                            refine lv_goto (tgt := 555) hx hb dL_tells_550 (by decide) ?_
                                                            have e0_J488 : ((if (t_x 5) = 1 then x15_57 else (-6)) : Int) = x15_57 := (if_pos c481)
                                                            have J9 := J488 _ _ _ (by (try rw [e0_J488]); exact hP) (by (try rw [e0_J488]); exact hD) hS (by (try rw [e0_J488]); exact lv_sub hl [] rfl) (by rw [show ((if (t_x 5) = 1 then x15_57 else (-6)) : Int) = x15_57 from (if_pos c481)]; exact rx15_57)
                                                            (try rw [e0_J488] at J9)
                                                            exact J9
                                                    · intro J460
                                                      refine zr_icmp_ne (tgt := 530) (x := t_x 5) (y := 1) hx hb (r_t_x 5) rg_1 dL_tells_515 (by decide) (fun c449 => ?_) (fun c449 => ?_)
                                                      · have h452 := h448.2 c449
                                                        refine lv_iload hx hb dL_tells_530 (lv_at hl 0 rfl) ?_
                                                        have e0_J460 : ((if (t_x 5) = 1 then l_x ((t_x 10) - 1) else (-6)) : Int) = (-6) := (if_neg c449)
                                                        have J9 := J460 _ _ _ (by (try rw [e0_J460]); exact hP) (by (try rw [e0_J460]); exact hD) hS (by (try rw [e0_J460]); exact lv_sub hl [0, 1, 2, 4] rfl) (by rw [show ((if (t_x 5) = 1 then l_x ((t_x 10) - 1) else (-6)) : Int) = (-6) from (if_neg c449)]; exact rg_m6)
                                                        (try rw [e0_J460] at J9)
                                                        exact J9
                                                      · have h453 := h448.1 c449
                                                        refine lv_aload_n hx hb dL_tells_518 rfl (lv_at hl 3 rfl) ?_
                                                        refine lv_aload hx hb dL_tells_519 (lv_at hl 4 rfl) ?_
                                                        refine lv_bipush (v := iI 10) hx hb dL_tells_521 (by decide) ?_
                                                        refine zr_iald (n := 12) (f := t_x) (i := 10) hx hb hK hP 111 rfl rg_10 ⟨by decide, by decide⟩ dL_tells_523 ?_
                                                        refine lv_iconst (v := iI 1) hx hb dL_tells_524 rfl ?_
                                                        refine zr_isub (x := t_x 10) (y := 1) hx hb dL_tells_525 ?_
                                                        obtain ⟨r454, h455⟩ := h453
                                                        obtain ⟨b456, h457⟩ := h455
                                                        refine zr_iald (n := 64) (f := l_x) (i := (t_x 10) - 1) hx hb hK hP 106 rfl r454 b456 dL_tells_526 ?_
                                                        refine lv_goto (tgt := 532) hx hb dL_tells_527 (by decide) ?_
                                                        have e0_J460 : ((if (t_x 5) = 1 then l_x ((t_x 10) - 1) else (-6)) : Int) = l_x ((t_x 10) - 1) := (if_pos c449)
                                                        have J9 := J460 _ _ _ (by (try rw [e0_J460]); exact hP) (by (try rw [e0_J460]); exact hD) hS (by (try rw [e0_J460]); exact lv_sub hl [0, 1, 2, 4] rfl) (by rw [show ((if (t_x 5) = 1 then l_x ((t_x 10) - 1) else (-6)) : Int) = l_x ((t_x 10) - 1) from (if_pos c449)]; exact (r_l_x ((t_x 10) - 1)))
                                                        (try rw [e0_J460] at J9)
                                                        exact J9
                                                · intro J428
                                                  refine zr_icmp_ne (tgt := 500) (x := t_x 5) (y := 1) hx hb (r_t_x 5) rg_1 dL_tells_492 (by decide) (fun c421 => ?_) (fun c421 => ?_)
                                                  · have h424 := h420.2 c421
                                                    refine lv_iload hx hb dL_tells_500 (lv_at hl 0 rfl) ?_
                                                    have e0_J428 : ((if (t_x 5) = 1 then kdZ l_x d_x (1 : Int) (t_x 10).toNat else (-6)) : Int) = (-6) := (if_neg c421)
                                                    have J9 := J428 _ _ _ (by (try rw [e0_J428]); exact hP) (by (try rw [e0_J428]); exact hD) hS (by (try rw [e0_J428]); exact lv_sub hl [0, 1, 3, 4, 5] rfl) (by rw [show ((if (t_x 5) = 1 then kdZ l_x d_x (1 : Int) (t_x 10).toNat else (-6)) : Int) = (-6) from (if_neg c421)]; exact rg_m6)
                                                    (try rw [e0_J428] at J9)
                                                    exact J9
                                                  · have h425 := h420.1 c421
                                                    refine lv_iload hx hb dL_tells_495 (lv_at hl 2 rfl) ?_
                                                    refine lv_goto (tgt := 502) hx hb dL_tells_497 (by decide) ?_
                                                    have e0_J428 : ((if (t_x 5) = 1 then kdZ l_x d_x (1 : Int) (t_x 10).toNat else (-6)) : Int) = kdZ l_x d_x (1 : Int) (t_x 10).toNat := (if_pos c421)
                                                    have J9 := J428 _ _ _ (by (try rw [e0_J428]); exact hP) (by (try rw [e0_J428]); exact hD) hS (by (try rw [e0_J428]); exact lv_sub hl [0, 1, 3, 4, 5] rfl) (by rw [show ((if (t_x 5) = 1 then kdZ l_x d_x (1 : Int) (t_x 10).toNat else (-6)) : Int) = kdZ l_x d_x (1 : Int) (t_x 10).toNat from (if_pos c421)]; exact r56)
                                                    (try rw [e0_J428] at J9)
                                                    exact J9
                                            · intro J400
                                              refine zr_icmp_ne (tgt := 477) (x := t_x 5) (y := 1) hx hb (r_t_x 5) rg_1 dL_tells_466 (by decide) (fun c393 => ?_) (fun c393 => ?_)
                                              · have h396 := h392.2 c393
                                                refine lv_iload hx hb dL_tells_477 (lv_at hl 0 rfl) ?_
                                                have e0_J400 : ((if (t_x 5) = 1 then t_x 6 else (-6)) : Int) = (-6) := (if_neg c393)
                                                have J9 := J400 _ _ _ (by (try rw [e0_J400]); exact hP) (by (try rw [e0_J400]); exact hD) hS (by (try rw [e0_J400]); exact lv_sub hl [0, 2, 3, 8, 9, 10] rfl) (by rw [show ((if (t_x 5) = 1 then t_x 6 else (-6)) : Int) = (-6) from (if_neg c393)]; exact rg_m6)
                                                (try rw [e0_J400] at J9)
                                                exact J9
                                              · have h397 := h392.1 c393
                                                refine lv_aload hx hb dL_tells_469 (lv_at hl 10 rfl) ?_
                                                refine lv_bipush (v := iI 6) hx hb dL_tells_471 (by decide) ?_
                                                refine zr_iald (n := 12) (f := t_x) (i := 6) hx hb hK hP 111 rfl rg_6 ⟨by decide, by decide⟩ dL_tells_473 ?_
                                                refine lv_goto (tgt := 479) hx hb dL_tells_474 (by decide) ?_
                                                have e0_J400 : ((if (t_x 5) = 1 then t_x 6 else (-6)) : Int) = t_x 6 := (if_pos c393)
                                                have J9 := J400 _ _ _ (by (try rw [e0_J400]); exact hP) (by (try rw [e0_J400]); exact hD) hS (by (try rw [e0_J400]); exact lv_sub hl [0, 2, 3, 8, 9, 10] rfl) (by rw [show ((if (t_x 5) = 1 then t_x 6 else (-6)) : Int) = t_x 6 from (if_pos c393)]; exact (r_t_x 6))
                                                (try rw [e0_J400] at J9)
                                                exact J9
                      · intro J214
                        refine zr_icmp_ne (tgt := 299) (x := t_x 2) (y := 1) hx hb (r_t_x 2) rg_1 dL_tells_288 (by decide) (fun c200 => ?_) (fun c200 => ?_)
                        · have h203 := h199.2 c200
                          refine lv_aload hx hb dL_tells_299 (lv_at hl 8 rfl) ?_
                          refine lv_iconst (v := iI 5) hx hb dL_tells_301 rfl ?_
                          refine zr_iald (n := 12) (f := t_x) (i := 5) hx hb hK hP 111 rfl rg_5 ⟨by decide, by decide⟩ dL_tells_302 ?_
                          refine lv_iconst (v := iI 1) hx hb dL_tells_303 rfl ?_
                          refine zr_icmp_ne (tgt := 314) (x := t_x 5) (y := 1) hx hb (r_t_x 5) rg_1 dL_tells_304 (by decide) (fun c204 => ?_) (fun c204 => ?_)
                          · have h207 := h203.2 c204
                            refine lv_iconst (v := iI 0) hx hb dL_tells_314 rfl ?_
                            have e0_J214 : ((if (t_x 2) = 1 then t_x 11 else (if (t_x 5) = 1 then (kdZ l_x d_x (1 : Int) (t_x 10).toNat) + 1 else 0)) : Int) = 0 := ((if_neg c200).trans (if_neg c204))
                            have J9 := J214 _ _ _ (by (try rw [e0_J214]); exact hP) (by (try rw [e0_J214]); exact hD) hS (by (try rw [e0_J214]); exact lv_sub hl [0, 1, 2, 3, 4, 5, 6, 7, 8] rfl) (by rw [show ((if (t_x 2) = 1 then t_x 11 else (if (t_x 5) = 1 then (kdZ l_x d_x (1 : Int) (t_x 10).toNat) + 1 else 0)) : Int) = 0 from ((if_neg c200).trans (if_neg c204))]; exact rg_0)
                            (try rw [e0_J214] at J9)
                            exact J9
                          · have h208 := h203.1 c204
                            refine lv_iload hx hb dL_tells_307 (lv_at hl 1 rfl) ?_
                            refine lv_iconst (v := iI 1) hx hb dL_tells_309 rfl ?_
                            refine zr_iadd (x := kdZ l_x d_x (1 : Int) (t_x 10).toNat) (y := 1) hx hb dL_tells_310 ?_
                            obtain ⟨r209, h210⟩ := h208
                            refine lv_goto (tgt := 315) hx hb dL_tells_311 (by decide) ?_
                            have e0_J214 : ((if (t_x 2) = 1 then t_x 11 else (if (t_x 5) = 1 then (kdZ l_x d_x (1 : Int) (t_x 10).toNat) + 1 else 0)) : Int) = (kdZ l_x d_x (1 : Int) (t_x 10).toNat) + 1 := ((if_neg c200).trans (if_pos c204))
                            have J9 := J214 _ _ _ (by (try rw [e0_J214]); exact hP) (by (try rw [e0_J214]); exact hD) hS (by (try rw [e0_J214]); exact lv_sub hl [0, 1, 2, 3, 4, 5, 6, 7, 8] rfl) (by rw [show ((if (t_x 2) = 1 then t_x 11 else (if (t_x 5) = 1 then (kdZ l_x d_x (1 : Int) (t_x 10).toNat) + 1 else 0)) : Int) = (kdZ l_x d_x (1 : Int) (t_x 10).toNat) + 1 from ((if_neg c200).trans (if_pos c204))]; exact r209)
                            (try rw [e0_J214] at J9)
                            exact J9
                        · have h211 := h199.1 c200
                          refine lv_aload hx hb dL_tells_291 (lv_at hl 8 rfl) ?_
                          refine lv_bipush (v := iI 11) hx hb dL_tells_293 (by decide) ?_
                          refine zr_iald (n := 12) (f := t_x) (i := 11) hx hb hK hP 111 rfl rg_11 ⟨by decide, by decide⟩ dL_tells_295 ?_
                          refine lv_goto (tgt := 315) hx hb dL_tells_296 (by decide) ?_
                          have e0_J214 : ((if (t_x 2) = 1 then t_x 11 else (if (t_x 5) = 1 then (kdZ l_x d_x (1 : Int) (t_x 10).toNat) + 1 else 0)) : Int) = t_x 11 := (if_pos c200)
                          have J9 := J214 _ _ _ (by (try rw [e0_J214]); exact hP) (by (try rw [e0_J214]); exact hD) hS (by (try rw [e0_J214]); exact lv_sub hl [0, 1, 2, 3, 4, 5, 6, 7, 8] rfl) (by rw [show ((if (t_x 2) = 1 then t_x 11 else (if (t_x 5) = 1 then (kdZ l_x d_x (1 : Int) (t_x 10).toNat) + 1 else 0)) : Int) = t_x 11 from (if_pos c200)]; exact (r_t_x 11))
                          (try rw [e0_J214] at J9)
                          exact J9
                · intro J162
                  refine zr_if_ne (tgt := 262) (x := t_x 2) hx hb (r_t_x 2) dL_tells_239 (by decide) (fun c145 => ?_) (fun c145 => ?_)
                  · have h148 := h144.2 c145
                    refine lv_iconst (v := iI 0) hx hb dL_tells_262 rfl ?_
                    have e0_J162 : ((if (t_x 2) = 0 then (if (t_x 5) = 0 then (if (t_x 10) < 2 then 1 else 0) else 0) else 0) : Int) = 0 := (if_neg c145)
                    have J9 := J162 _ _ _ (by (try rw [e0_J162]); exact hP) (by (try rw [e0_J162]); exact hD) hS (by (try rw [e0_J162]); exact lv_sub hl [1, 2, 3, 4, 5, 6, 7, 8, 11] rfl) (by rw [show ((if (t_x 2) = 0 then (if (t_x 5) = 0 then (if (t_x 10) < 2 then 1 else 0) else 0) else 0) : Int) = 0 from (if_neg c145)]; exact rg_0)
                    (try rw [e0_J162] at J9)
                    exact J9
                  · have h149 := h144.1 c145
                    refine lv_aload hx hb dL_tells_242 (lv_at hl 11 rfl) ?_
                    refine lv_iconst (v := iI 5) hx hb dL_tells_244 rfl ?_
                    refine zr_iald (n := 12) (f := t_x) (i := 5) hx hb hK hP 111 rfl rg_5 ⟨by decide, by decide⟩ dL_tells_245 ?_
                    refine zr_if_ne (tgt := 262) (x := t_x 5) hx hb (r_t_x 5) dL_tells_246 (by decide) (fun c150 => ?_) (fun c150 => ?_)
                    · have h153 := h149.2 c150
                      refine lv_iconst (v := iI 0) hx hb dL_tells_262 rfl ?_
                      have e0_J162 : ((if (t_x 2) = 0 then (if (t_x 5) = 0 then (if (t_x 10) < 2 then 1 else 0) else 0) else 0) : Int) = 0 := ((if_pos c145).trans (if_neg c150))
                      have J9 := J162 _ _ _ (by (try rw [e0_J162]); exact hP) (by (try rw [e0_J162]); exact hD) hS (by (try rw [e0_J162]); exact lv_sub hl [1, 2, 3, 4, 5, 6, 7, 8, 11] rfl) (by rw [show ((if (t_x 2) = 0 then (if (t_x 5) = 0 then (if (t_x 10) < 2 then 1 else 0) else 0) else 0) : Int) = 0 from ((if_pos c145).trans (if_neg c150))]; exact rg_0)
                      (try rw [e0_J162] at J9)
                      exact J9
                    · have h154 := h149.1 c150
                      refine lv_aload hx hb dL_tells_249 (lv_at hl 11 rfl) ?_
                      refine lv_bipush (v := iI 10) hx hb dL_tells_251 (by decide) ?_
                      refine zr_iald (n := 12) (f := t_x) (i := 10) hx hb hK hP 111 rfl rg_10 ⟨by decide, by decide⟩ dL_tells_253 ?_
                      refine lv_iconst (v := iI 2) hx hb dL_tells_254 rfl ?_
                      refine zr_icmp_ge (tgt := 262) (x := t_x 10) (y := 2) hx hb (r_t_x 10) rg_2 dL_tells_255 (by decide) (fun c155 => ?_) (fun c155 => ?_)
                      · have h158 := h154.2 c155
                        refine lv_iconst (v := iI 0) hx hb dL_tells_262 rfl ?_
                        have e0_J162 : ((if (t_x 2) = 0 then (if (t_x 5) = 0 then (if (t_x 10) < 2 then 1 else 0) else 0) else 0) : Int) = 0 := ((if_pos c145).trans ((if_pos c150).trans (if_neg c155)))
                        have J9 := J162 _ _ _ (by (try rw [e0_J162]); exact hP) (by (try rw [e0_J162]); exact hD) hS (by (try rw [e0_J162]); exact lv_sub hl [1, 2, 3, 4, 5, 6, 7, 8, 11] rfl) (by rw [show ((if (t_x 2) = 0 then (if (t_x 5) = 0 then (if (t_x 10) < 2 then 1 else 0) else 0) else 0) : Int) = 0 from ((if_pos c145).trans ((if_pos c150).trans (if_neg c155)))]; exact rg_0)
                        (try rw [e0_J162] at J9)
                        exact J9
                      · have h159 := h154.1 c155
                        refine lv_iconst (v := iI 1) hx hb dL_tells_258 rfl ?_
                        refine lv_goto (tgt := 263) hx hb dL_tells_259 (by decide) ?_
                        have e0_J162 : ((if (t_x 2) = 0 then (if (t_x 5) = 0 then (if (t_x 10) < 2 then 1 else 0) else 0) else 0) : Int) = 1 := ((if_pos c145).trans ((if_pos c150).trans (if_pos c155)))
                        have J9 := J162 _ _ _ (by (try rw [e0_J162]); exact hP) (by (try rw [e0_J162]); exact hD) hS (by (try rw [e0_J162]); exact lv_sub hl [1, 2, 3, 4, 5, 6, 7, 8, 11] rfl) (by rw [show ((if (t_x 2) = 0 then (if (t_x 5) = 0 then (if (t_x 10) < 2 then 1 else 0) else 0) else 0) : Int) = 1 from ((if_pos c145).trans ((if_pos c150).trans (if_pos c155)))]; exact rg_1)
                        (try rw [e0_J162] at J9)
                        exact J9
        · have h496 := h76.1 c77
          refine lv_aload_n hx hb dL_tells_171 rfl (lv_at hl 7 rfl) ?_
          refine lv_iload hx hb dL_tells_172 (lv_at hl 0 rfl) ?_
          obtain ⟨g497, g498, h499⟩ := h496
          obtain ⟨b500, h501⟩ := h499
          obtain ⟨b502, h503⟩ := h501
          refine zq_viR (As := [.int (iI x16_69)]) (rest := []) (c_X6_inMemory l G o_a0 o_a1 o_a2 o_a3 o_a4 o_a5 o_a6 o_a7 o_a8 o_a9 o_a10 o_a11 o_a12 o_cu o_fo o_sv o_hs o_ol o_tt o_s0 o_s1 o_s2 o_s3 o_cs o_ln o_kd o_fk o_hd o_va o_le o_mo x16_69 g497 g498 r_o_cu r_o_fo r_o_sv r_o_hs r_o_ol r_o_tt r_o_s0 r_o_s1 r_o_s2 r_o_s3 r_o_cs r_o_ln r_o_kd r_o_fk r_o_hd r_o_va r_o_le r_o_mo rx16_69 b500 b502) ⟨hx, hb, hml, hown, hts⟩ (cwV 1 hts gL_tells_X6_inMemory rfl rfl rfl hdX6_inMemory ⟨Nat.le_of_ble_eq_true rfl, Nat.le_of_ble_eq_true rfl⟩) hK hP hD hS hA rfl rfl [0, 1, 2, 3, 4, 5, 6, 7, 8, 9, 10, 11, 12, 13, 14, 15, 16, 17, 18, 19, 20, 21, 22, 23, 24, 25, 26, 27, 28, 29, 30, 31, 32, 33, 34, 35, 36, 37, 38, 39, 40, 41, 42, 43, 44, 45, 46, 47, 48, 49, 50, 51, 52, 53, 54, 55, 56, 57, 58, 59, 60, 61, 62, 63, 64, 65, 66, 67, 68, 69, 70, 71, 72, 73, 74, 75, 76, 77, 78, 79, 80, 81, 82, 83, 84, 85, 86, 87, 88, 89, 90, 91, 92, 93, 94, 95, 96, 97, 98, 99, 100, 101, 102, 103] rfl rfl rfl hl.1 rfl (Nat.le_of_ble_eq_true rfl) dL_tells_174 ⟨Nat.zero_le _, Nat.zero_le _⟩ (fun z505 H locs hw hP hD hS => ?_)
          obtain ⟨r507, h506⟩ := hw
          have h508 := h503 z505 r507 h506
          have hP : va_P G.1 vwCl (flt [W6o G o_a0 o_a4 o_a11 o_a12 o_a5 o_a1 o_a3 o_hs, W0 G o_a1 o_a2 o_cs o_ln, W2 G o_a3 o_kd o_fk o_hd o_va o_le o_mo, W5 G o_a4 o_cu, W1h G o_a5 o_a6 o_a7 o_a8 o_a9 o_a10 o_ol o_tt, W5 G o_a7 o_s0, W5 G o_a8 o_s1, W5 G o_a9 o_s2, W5 G o_a10 o_s3, W5 G o_a11 o_fo, W5 G o_a12 o_sv, [(f_a0, eI G 60 f_x)], [(n_a0, eI G 64 n_x)], [(l_a0, eI G 64 l_x)], [(d_a0, eI G 64 d_x)], [(m_a0, eI G 20 m_x)], [(k_a0, eI G 60 k_x)], [(c_a0, eI G 60 c_x)], [(t_a0, eI G 12 t_x)]]) H := hP
          have hD : va_D A (flt [W6o G o_a0 o_a4 o_a11 o_a12 o_a5 o_a1 o_a3 o_hs, W0 G o_a1 o_a2 o_cs o_ln, W2 G o_a3 o_kd o_fk o_hd o_va o_le o_mo, W5 G o_a4 o_cu, W1h G o_a5 o_a6 o_a7 o_a8 o_a9 o_a10 o_ol o_tt, W5 G o_a7 o_s0, W5 G o_a8 o_s1, W5 G o_a9 o_s2, W5 G o_a10 o_s3, W5 G o_a11 o_fo, W5 G o_a12 o_sv, [(f_a0, eI G 60 f_x)], [(n_a0, eI G 64 n_x)], [(l_a0, eI G 64 l_x)], [(d_a0, eI G 64 d_x)], [(m_a0, eI G 20 m_x)], [(k_a0, eI G 60 k_x)], [(c_a0, eI G 60 c_x)], [(t_a0, eI G 12 t_x)]]) := hD
          refine lv_aload hx hb dL_tells_177 (lv_at hl 10 rfl) ?_
          refine lv_aload hx hb dL_tells_179 (lv_at hl 9 rfl) ?_
          refine lv_iload hx hb dL_tells_181 (lv_at hl 0 rfl) ?_
          obtain ⟨b509, h510⟩ := h508
          refine zr_iald (n := 20) (f := m_x) (i := x16_69) hx hb hK hP 108 rfl rx16_69 b509 dL_tells_183 ?_
          obtain ⟨b511, h512⟩ := h510
          refine zr_iald (n := 60) (f := k_x) (i := m_x x16_69) hx hb hK hP 109 rfl (r_m_x x16_69) b511 dL_tells_184 ?_
          refine zr_icmp_eq (tgt := 190) (x := z505) (y := k_x (m_x x16_69)) hx hb r507 (r_k_x (m_x x16_69)) dL_tells_185 (by decide) (fun c513 => ?_) (fun c513 => ?_)
          · have h516 := h512.1 c513
            obtain ⟨r517, h518⟩ := h516
            refine zr_iinc (x := x16_69) (lv' := [(16, .int (iI (x16_69 + 1))), (15, .int (iI x15_57)), (14, .int (iI (kdZ l_x d_x (1 : Int) (t_x 10).toNat))), (13, .int (iI z34)), (12, .int (iI x12_38)), (11, .int (iI x11_38)), (10, .int (iI ((sumI l_x ((t_x 10)).toNat) + (t_x 11)))), (0, .ref o_a0), (3, .ref l_a0), (5, .ref m_a0), (6, .ref k_a0), (8, .ref t_a0)]) hx hb dL_tells_190 hl (k := 0) rfl (by decide) rfl (fun ls hl => ?_)
            refine lv_goto (tgt := 161) hx hb dL_tells_193 (by decide) ?_
            obtain ⟨h519, h520⟩ := h518
            exact ih74 (x16_69 + 1) _ _ _ ⟨r517, h519⟩ h520 hP hD hS (lv_sub hl [0, 1, 2, 3, 4, 5, 6, 7, 8, 9, 10, 11] rfl)
          · have h521 := h512.2 c513
            refine lv_iconst (v := iI 0) hx hb dL_tells_188 rfl ?_
            exact zr_zret (z := 0) hx hb hr hlocks hK (Or.inl rfl) () hP hD hS dL_tells_189 ⟨rg_0, h521⟩
      · have h522 := h64.1 c65
        refine lv_iload hx hb dL_tells_130 (lv_at hl 1 rfl) ?_
        refine lv_aload hx hb dL_tells_132 (lv_at hl 9 rfl) ?_
        refine lv_iload hx hb dL_tells_134 (lv_at hl 0 rfl) ?_
        obtain ⟨b523, h524⟩ := h522
        refine zr_iald (n := 64) (f := d_x) (i := x16_57) hx hb hK hP 107 rfl rx16_57 b523 dL_tells_136 ?_
        refine lv_iconst (v := iI 1) hx hb dL_tells_137 rfl ?_
        refine zr_icmp_ne (tgt := 148) (x := d_x x16_57) (y := 1) hx hb (r_d_x x16_57) rg_1 dL_tells_138 (by decide) (fun c525 => ?_) (fun c525 => ?_)
        · have h528 := h524.2 c525
          refine lv_iconst (v := iI 0) hx hb dL_tells_148 rfl ?_
          refine zr_iadd (x := x15_57) (y := 0) hx hb dL_tells_149 ?_
          obtain ⟨r529, h530⟩ := h528
          refine lv_istore (lv' := [(15, .int (iI (x15_57 + 0))), (16, .int (iI x16_57)), (14, .int (iI (kdZ l_x d_x (1 : Int) (t_x 10).toNat))), (13, .int (iI z34)), (12, .int (iI x12_38)), (11, .int (iI x11_38)), (10, .int (iI ((sumI l_x ((t_x 10)).toNat) + (t_x 11)))), (0, .ref o_a0), (3, .ref l_a0), (4, .ref d_a0), (5, .ref m_a0), (6, .ref k_a0), (8, .ref t_a0)]) hx hb dL_tells_150 hl (by decide) rfl (fun ls hl => ?_)
          obtain ⟨r531, h532⟩ := h530
          refine zr_iinc (x := x16_57) (lv' := [(16, .int (iI (x16_57 + 1))), (15, .int (iI (x15_57 + 0))), (14, .int (iI (kdZ l_x d_x (1 : Int) (t_x 10).toNat))), (13, .int (iI z34)), (12, .int (iI x12_38)), (11, .int (iI x11_38)), (10, .int (iI ((sumI l_x ((t_x 10)).toNat) + (t_x 11)))), (0, .ref o_a0), (3, .ref l_a0), (4, .ref d_a0), (5, .ref m_a0), (6, .ref k_a0), (8, .ref t_a0)]) hx hb dL_tells_152 hl (k := 1) rfl (by decide) rfl (fun ls hl => ?_)
          refine lv_goto (tgt := 120) hx hb dL_tells_155 (by decide) ?_
          obtain ⟨h533, h534⟩ := h532
          exact ih62 ((x15_57 + 0, x16_57 + 1)) _ _ _ ⟨⟨r529, r531⟩, h533⟩ h534 hP hD hS (lv_sub hl [0, 1, 2, 3, 4, 5, 6, 7, 8, 9, 10, 11, 12] rfl)
        · have h535 := h524.1 c525
          refine lv_aload_n hx hb dL_tells_141 rfl (lv_at hl 8 rfl) ?_
          refine lv_iload hx hb dL_tells_142 (lv_at hl 0 rfl) ?_
          refine zr_iald (n := 64) (f := l_x) (i := x16_57) hx hb hK hP 106 rfl rx16_57 b523 dL_tells_144 ?_
          refine lv_goto (tgt := 149) hx hb dL_tells_145 (by decide) ?_
          refine zr_iadd (x := x15_57) (y := l_x x16_57) hx hb dL_tells_149 ?_
          obtain ⟨r536, h537⟩ := h535
          refine lv_istore (lv' := [(15, .int (iI (x15_57 + (l_x x16_57)))), (16, .int (iI x16_57)), (14, .int (iI (kdZ l_x d_x (1 : Int) (t_x 10).toNat))), (13, .int (iI z34)), (12, .int (iI x12_38)), (11, .int (iI x11_38)), (10, .int (iI ((sumI l_x ((t_x 10)).toNat) + (t_x 11)))), (0, .ref o_a0), (3, .ref l_a0), (4, .ref d_a0), (5, .ref m_a0), (6, .ref k_a0), (8, .ref t_a0)]) hx hb dL_tells_150 hl (by decide) rfl (fun ls hl => ?_)
          obtain ⟨r538, h539⟩ := h537
          refine zr_iinc (x := x16_57) (lv' := [(16, .int (iI (x16_57 + 1))), (15, .int (iI (x15_57 + (l_x x16_57)))), (14, .int (iI (kdZ l_x d_x (1 : Int) (t_x 10).toNat))), (13, .int (iI z34)), (12, .int (iI x12_38)), (11, .int (iI x11_38)), (10, .int (iI ((sumI l_x ((t_x 10)).toNat) + (t_x 11)))), (0, .ref o_a0), (3, .ref l_a0), (4, .ref d_a0), (5, .ref m_a0), (6, .ref k_a0), (8, .ref t_a0)]) hx hb dL_tells_152 hl (k := 1) rfl (by decide) rfl (fun ls hl => ?_)
          refine lv_goto (tgt := 120) hx hb dL_tells_155 (by decide) ?_
          obtain ⟨h540, h541⟩ := h539
          exact ih62 ((x15_57 + (l_x x16_57), x16_57 + 1)) _ _ _ ⟨⟨r536, r538⟩, h540⟩ h541 hP hD hS (lv_sub hl [0, 1, 2, 3, 4, 5, 6, 7, 8, 9, 10, 11, 12] rfl)
    · have h542 := h45.1 c46
      refine lv_iload hx hb dL_tells_62 (lv_at hl 3 rfl) ?_
      refine lv_aload hx hb dL_tells_64 (lv_at hl 10 rfl) ?_
      refine lv_iload hx hb dL_tells_66 (lv_at hl 0 rfl) ?_
      obtain ⟨b543, h544⟩ := h542
      refine zr_iald (n := 60) (f := c_x) (i := x14_38) hx hb hK hP 110 rfl rx14_38 b543 dL_tells_68 ?_
      refine zr_iadd (x := x11_38) (y := c_x x14_38) hx hb dL_tells_69 ?_
      obtain ⟨r545, h546⟩ := h544
      refine lv_istore (lv' := [(11, .int (iI (x11_38 + (c_x x14_38)))), (14, .int (iI x14_38)), (13, .int (iI z34)), (12, .int (iI x12_38)), (10, .int (iI ((sumI l_x ((t_x 10)).toNat) + (t_x 11)))), (0, .ref o_a0), (3, .ref l_a0), (4, .ref d_a0), (5, .ref m_a0), (6, .ref k_a0), (7, .ref c_a0), (8, .ref t_a0)]) hx hb dL_tells_70 hl (by decide) rfl (fun ls hl => ?_)
      refine lv_iload hx hb dL_tells_72 (lv_at hl 3 rfl) ?_
      refine lv_aload hx hb dL_tells_74 (lv_at hl 9 rfl) ?_
      refine lv_iload hx hb dL_tells_76 (lv_at hl 1 rfl) ?_
      refine zr_iald (n := 60) (f := k_x) (i := x14_38) hx hb hK hP 109 rfl rx14_38 b543 dL_tells_78 ?_
      refine lv_iload hx hb dL_tells_79 (lv_at hl 2 rfl) ?_
      refine zr_icmp_ge (tgt := 92) (x := k_x x14_38) (y := z34) hx hb (r_k_x x14_38) r36 dL_tells_81 (by decide) (fun c547 => ?_) (fun c547 => ?_)
      · have h550 := h546.2 c547
        refine lv_iconst (v := iI 0) hx hb dL_tells_92 rfl ?_
        refine zr_iadd (x := x12_38) (y := 0) hx hb dL_tells_93 ?_
        obtain ⟨r551, h552⟩ := h550
        refine lv_istore (lv' := [(12, .int (iI (x12_38 + 0))), (11, .int (iI (x11_38 + (c_x x14_38)))), (14, .int (iI x14_38)), (13, .int (iI z34)), (10, .int (iI ((sumI l_x ((t_x 10)).toNat) + (t_x 11)))), (0, .ref o_a0), (3, .ref l_a0), (4, .ref d_a0), (5, .ref m_a0), (6, .ref k_a0), (7, .ref c_a0), (8, .ref t_a0)]) hx hb dL_tells_94 hl (by decide) rfl (fun ls hl => ?_)
        obtain ⟨r553, h554⟩ := h552
        refine zr_iinc (x := x14_38) (lv' := [(14, .int (iI (x14_38 + 1))), (12, .int (iI (x12_38 + 0))), (11, .int (iI (x11_38 + (c_x x14_38)))), (13, .int (iI z34)), (10, .int (iI ((sumI l_x ((t_x 10)).toNat) + (t_x 11)))), (0, .ref o_a0), (3, .ref l_a0), (4, .ref d_a0), (5, .ref m_a0), (6, .ref k_a0), (7, .ref c_a0), (8, .ref t_a0)]) hx hb dL_tells_96 hl (k := 2) rfl (by decide) rfl (fun ls hl => ?_)
        refine lv_goto (tgt := 53) hx hb dL_tells_99 (by decide) ?_
        obtain ⟨h555, h556⟩ := h554
        exact ih43 ((x11_38 + (c_x x14_38), x12_38 + 0, x14_38 + 1)) _ _ _ ⟨⟨r545, r551, r553⟩, h555⟩ h556 hP hD hS (lv_sub hl [0, 3, 1, 2, 4, 5, 6, 7, 8, 9, 10, 11] rfl)
      · have h557 := h546.1 c547
        refine lv_aload hx hb dL_tells_84 (lv_at hl 10 rfl) ?_
        refine lv_iload hx hb dL_tells_86 (lv_at hl 1 rfl) ?_
        refine zr_iald (n := 60) (f := c_x) (i := x14_38) hx hb hK hP 110 rfl rx14_38 b543 dL_tells_88 ?_
        refine lv_goto (tgt := 93) hx hb dL_tells_89 (by decide) ?_
        refine zr_iadd (x := x12_38) (y := c_x x14_38) hx hb dL_tells_93 ?_
        obtain ⟨r558, h559⟩ := h557
        refine lv_istore (lv' := [(12, .int (iI (x12_38 + (c_x x14_38)))), (11, .int (iI (x11_38 + (c_x x14_38)))), (14, .int (iI x14_38)), (13, .int (iI z34)), (10, .int (iI ((sumI l_x ((t_x 10)).toNat) + (t_x 11)))), (0, .ref o_a0), (3, .ref l_a0), (4, .ref d_a0), (5, .ref m_a0), (6, .ref k_a0), (7, .ref c_a0), (8, .ref t_a0)]) hx hb dL_tells_94 hl (by decide) rfl (fun ls hl => ?_)
        obtain ⟨r560, h561⟩ := h559
        refine zr_iinc (x := x14_38) (lv' := [(14, .int (iI (x14_38 + 1))), (12, .int (iI (x12_38 + (c_x x14_38)))), (11, .int (iI (x11_38 + (c_x x14_38)))), (13, .int (iI z34)), (10, .int (iI ((sumI l_x ((t_x 10)).toNat) + (t_x 11)))), (0, .ref o_a0), (3, .ref l_a0), (4, .ref d_a0), (5, .ref m_a0), (6, .ref k_a0), (7, .ref c_a0), (8, .ref t_a0)]) hx hb dL_tells_96 hl (k := 2) rfl (by decide) rfl (fun ls hl => ?_)
        refine lv_goto (tgt := 53) hx hb dL_tells_99 (by decide) ?_
        obtain ⟨h562, h563⟩ := h561
        exact ih43 ((x11_38 + (c_x x14_38), x12_38 + (c_x x14_38), x14_38 + 1)) _ _ _ ⟨⟨r545, r558, r560⟩, h562⟩ h563 hP hD hS (lv_sub hl [0, 3, 1, 2, 4, 5, 6, 7, 8, 9, 10, 11] rfl)
  · intro J28
    refine zr_if_ne (tgt := 43) (x := z16) hx hb r18 dL_tells_34 (by decide) (fun c21 => ?_) (fun c21 => ?_)
    · have h24 := h20.2 c21
      refine lv_bipush (v := iI 12) hx hb dL_tells_43 (by decide) ?_
      have e0_J28 : ((if z16 = 0 then 1000 else 12) : Int) = 12 := (if_neg c21)
      have J9 := J28 _ _ _ (by (try rw [e0_J28]); exact hP) (by (try rw [e0_J28]); exact hD) hS (by (try rw [e0_J28]); exact lv_sub hl [0, 1, 2, 3, 6, 7, 8, 9, 10, 11] rfl) (by rw [show ((if z16 = 0 then 1000 else 12) : Int) = 12 from (if_neg c21)]; exact rg_12)
      (try rw [e0_J28] at J9)
      exact J9
    · have h25 := h20.1 c21
      refine lv_sipush (v := iI 1000) hx hb dL_tells_37 (by decide) ?_
      refine lv_goto (tgt := 45) hx hb dL_tells_40 (by decide) ?_
      have e0_J28 : ((if z16 = 0 then 1000 else 12) : Int) = 1000 := (if_pos c21)
      have J9 := J28 _ _ _ (by (try rw [e0_J28]); exact hP) (by (try rw [e0_J28]); exact hD) hS (by (try rw [e0_J28]); exact lv_sub hl [0, 1, 2, 3, 6, 7, 8, 9, 10, 11] rfl) (by rw [show ((if z16 = 0 then 1000 else 12) : Int) = 1000 from (if_pos c21)]; exact rg_1000)
      (try rw [e0_J28] at J9)
      exact J9
theorem c_L_tells (l : Launch) (G : ZG) (o_a0 : Nat) (o_a1 : Nat) (o_a2 : Nat) (o_a3 : Nat) (o_a4 : Nat → Nat) (o_a5 : Nat) (o_a6 : Nat) (o_a7 : Nat → Nat) (o_a8 : Nat → Nat) (o_a9 : Nat → Nat) (o_a10 : Nat → Nat) (o_a11 : Nat → Nat) (o_a12 : Nat → Nat) (f_a0 : Nat) (n_a0 : Nat) (l_a0 : Nat) (d_a0 : Nat) (m_a0 : Nat) (k_a0 : Nat) (c_a0 : Nat) (t_a0 : Nat) (o_cu : SS) (o_fo : SS) (o_sv : SS) (o_hs : Int) (o_ol : Int) (o_tt : Int) (o_s0 : SS) (o_s1 : SS) (o_s2 : SS) (o_s3 : SS) (o_cs : Int → Int) (o_ln : Int) (o_kd : Int) (o_fk : Int) (o_hd : Int) (o_va : Int) (o_le : Int) (o_mo : Int) (f_x : Int → Int) (n_x : Int → Int) (l_x : Int → Int) (d_x : Int → Int) (m_x : Int → Int) (k_x : Int → Int) (c_x : Int → Int) (t_x : Int → Int) (x : Int) (mm : SS) (nn : Int) (r_o_cu : RG o_cu) (r_o_fo : RG o_fo) (r_o_sv : RG o_sv) (r_o_hs : rg o_hs) (r_o_ol : rg o_ol) (r_o_tt : rg o_tt) (r_o_s0 : RG o_s0) (r_o_s1 : RG o_s1) (r_o_s2 : RG o_s2) (r_o_s3 : RG o_s3) (r_o_cs : rgA o_cs) (r_o_ln : rg o_ln) (r_o_kd : rg o_kd) (r_o_fk : rg o_fk) (r_o_hd : rg o_hd) (r_o_va : rg o_va) (r_o_le : rg o_le) (r_o_mo : rg o_mo) (r_f_x : rgA f_x) (r_n_x : rgA n_x) (r_l_x : rgA l_x) (r_d_x : rgA d_x) (r_m_x : rgA m_x) (r_k_x : rgA k_x) (r_c_x : rgA c_x) (r_t_x : rgA t_x) (r_x : rg x) (p0 : Rep6 o_cu o_sv o_hs o_ol o_tt o_s0 o_s1 o_s2 o_s3 o_cs o_ln mm nn) (p1 : 0 ≤ nn ∧ nn ≤ 600) (p2 : LV f_x n_x l_x d_x m_x k_x t_x (mm.2 0)) (p3 : LC c_x (mm.2 0)) : ZI l G yL_tells wsL_tells 3 65 [.ref o_a0, .ref f_a0, .ref n_a0, .ref l_a0, .ref d_a0, .ref m_a0, .ref k_a0, .ref c_a0, .ref t_a0, .int (iI x)] (flt [W6o G o_a0 o_a4 o_a11 o_a12 o_a5 o_a1 o_a3 o_hs, W0 G o_a1 o_a2 o_cs o_ln, W2 G o_a3 o_kd o_fk o_hd o_va o_le o_mo, W5 G o_a4 o_cu, W1h G o_a5 o_a6 o_a7 o_a8 o_a9 o_a10 o_ol o_tt, W5 G o_a7 o_s0, W5 G o_a8 o_s1, W5 G o_a9 o_s2, W5 G o_a10 o_s3, W5 G o_a11 o_fo, W5 G o_a12 o_sv, [(f_a0, eI G 60 f_x)], [(n_a0, eI G 64 n_x)], [(l_a0, eI G 64 l_x)], [(d_a0, eI G 64 d_x)], [(m_a0, eI G 20 m_x)], [(k_a0, eI G 60 k_x)], [(c_a0, eI G 60 c_x)], [(t_a0, eI G 12 t_x)]]) (fun u : Unit => flt [W6o G o_a0 o_a4 o_a11 o_a12 o_a5 o_a1 o_a3 o_hs, W0 G o_a1 o_a2 o_cs o_ln, W2 G o_a3 o_kd o_fk o_hd o_va o_le o_mo, W5 G o_a4 o_cu, W1h G o_a5 o_a6 o_a7 o_a8 o_a9 o_a10 o_ol o_tt, W5 G o_a7 o_s0, W5 G o_a8 o_s1, W5 G o_a9 o_s2, W5 G o_a10 o_s3, W5 G o_a11 o_fo, W5 G o_a12 o_sv, [(f_a0, eI G 60 f_x)], [(n_a0, eI G 64 n_x)], [(l_a0, eI G 64 l_x)], [(d_a0, eI G 64 d_x)], [(m_a0, eI G 20 m_x)], [(k_a0, eI G 60 k_x)], [(c_a0, eI G 60 c_x)], [(t_a0, eI G 12 t_x)]]) (fun (zq : Int) (u : Unit) => rg zq ∧ (zq = 1)) :=
  c0_L_tells l G o_a0 o_a1 o_a2 o_a3 o_a4 o_a5 o_a6 o_a7 o_a8 o_a9 o_a10 o_a11 o_a12 f_a0 n_a0 l_a0 d_a0 m_a0 k_a0 c_a0 t_a0 o_cu o_fo o_sv o_hs o_ol o_tt o_s0 o_s1 o_s2 o_s3 o_cs o_ln o_kd o_fk o_hd o_va o_le o_mo f_x n_x l_x d_x m_x k_x c_x t_x x (fun r => r = 1) r_o_cu r_o_fo r_o_sv r_o_hs r_o_ol r_o_tt r_o_s0 r_o_s1 r_o_s2 r_o_s3 r_o_cs r_o_ln r_o_kd r_o_fk r_o_hd r_o_va r_o_le r_o_mo r_f_x r_n_x r_l_x r_d_x r_m_x r_k_x r_c_x r_t_x r_x (sp_L_tells o_cu o_fo o_sv o_hs o_ol o_tt o_s0 o_s1 o_s2 o_s3 o_cs o_ln o_kd o_fk o_hd o_va o_le o_mo f_x n_x l_x d_x m_x k_x c_x t_x x mm nn r_o_cu r_o_fo r_o_sv r_o_hs r_o_ol r_o_tt r_o_s0 r_o_s1 r_o_s2 r_o_s3 r_o_cs r_o_ln r_o_kd r_o_fk r_o_hd r_o_va r_o_le r_o_mo r_f_x r_n_x r_l_x r_d_x r_m_x r_k_x r_c_x r_t_x r_x p0 p1 p2 p3)
