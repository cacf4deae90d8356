theorem hdL_files : yL_files.cls ≠ "java/lang/invoke/MethodHandle" ∧ yL_files.cls ≠ "java/lang/invoke/VarHandle" ∧ (parseMethodDescriptor yL_files.desc).map (fun d => d.parameters.length) = some 9 := by decide +kernel
set_option maxRecDepth 100000 in
set_option maxHeartbeats 4000000 in
theorem c0_L_files (l : Launch) (G : ZG) (o_a0 : Nat) (o_a1 : Nat) (o_a2 : Nat) (o_a3 : Nat) (o_a4 : Nat → Nat) (o_a5 : Nat) (o_a6 : Nat) (o_a7 : Nat → Nat) (o_a8 : Nat → Nat) (o_a9 : Nat → Nat) (o_a10 : Nat → Nat) (o_a11 : Nat → Nat) (o_a12 : Nat → Nat) (f_a0 : Nat) (n_a0 : Nat) (l_a0 : Nat) (d_a0 : Nat) (k_a0 : Nat) (c_a0 : Nat) (t_a0 : Nat) (o_cu : SS) (o_fo : SS) (o_sv : SS) (o_hs : Int) (o_ol : Int) (o_tt : Int) (o_s0 : SS) (o_s1 : SS) (o_s2 : SS) (o_s3 : SS) (o_cs : Int → Int) (o_ln : Int) (o_kd : Int) (o_fk : Int) (o_hd : Int) (o_va : Int) (o_le : Int) (o_mo : Int) (f_x : Int → Int) (n_x : Int → Int) (l_x : Int → Int) (d_x : Int → Int) (k_x : Int → Int) (c_x : Int → Int) (t_x : Int → Int) (x : Int) (P : Int → Prop) (r_o_cu : RG o_cu) (r_o_fo : RG o_fo) (r_o_sv : RG o_sv) (r_o_hs : rg o_hs) (r_o_ol : rg o_ol) (r_o_tt : rg o_tt) (r_o_s0 : RG o_s0) (r_o_s1 : RG o_s1) (r_o_s2 : RG o_s2) (r_o_s3 : RG o_s3) (r_o_cs : rgA o_cs) (r_o_ln : rg o_ln) (r_o_kd : rg o_kd) (r_o_fk : rg o_fk) (r_o_hd : rg o_hd) (r_o_va : rg o_va) (r_o_le : rg o_le) (r_o_mo : rg o_mo) (r_f_x : rgA f_x) (r_n_x : rgA n_x) (r_l_x : rgA l_x) (r_d_x : rgA d_x) (r_k_x : rgA k_x) (r_c_x : rgA c_x) (r_t_x : rgA t_x) (r_x : rg x) (hwp : wp_L_files o_cu o_fo o_sv o_hs o_ol o_tt o_s0 o_s1 o_s2 o_s3 o_cs o_ln o_kd o_fk o_hd o_va o_le o_mo f_x n_x l_x d_x k_x c_x t_x x P) : ZI l G yL_files wsL_files 4 92 [.ref o_a0, .ref f_a0, .ref n_a0, .ref l_a0, .ref d_a0, .ref k_a0, .ref c_a0, .ref t_a0, .int (iI x)] (flt [W6o G o_a0 o_a4 o_a11 o_a12 o_a5 o_a1 o_a3 o_hs, W0 G o_a1 o_a2 o_cs o_ln, W2 G o_a3 o_kd o_fk o_hd o_va o_le o_mo, W5 G o_a4 o_cu, W1h G o_a5 o_a6 o_a7 o_a8 o_a9 o_a10 o_ol o_tt, W5 G o_a7 o_s0, W5 G o_a8 o_s1, W5 G o_a9 o_s2, W5 G o_a10 o_s3, W5 G o_a11 o_fo, W5 G o_a12 o_sv, [(f_a0, eI G 60 f_x)], [(n_a0, eI G 64 n_x)], [(l_a0, eI G 64 l_x)], [(d_a0, eI G 64 d_x)], [(k_a0, eI G 60 k_x)], [(c_a0, eI G 60 c_x)], [(t_a0, eI G 12 t_x)]]) (fun u : Unit => flt [W6o G o_a0 o_a4 o_a11 o_a12 o_a5 o_a1 o_a3 o_hs, W0 G o_a1 o_a2 o_cs o_ln, W2 G o_a3 o_kd o_fk o_hd o_va o_le o_mo, W5 G o_a4 o_cu, W1h G o_a5 o_a6 o_a7 o_a8 o_a9 o_a10 o_ol o_tt, W5 G o_a7 o_s0, W5 G o_a8 o_s1, W5 G o_a9 o_s2, W5 G o_a10 o_s3, W5 G o_a11 o_fo, W5 G o_a12 o_sv, [(f_a0, eI G 60 f_x)], [(n_a0, eI G 64 n_x)], [(l_a0, eI G 64 l_x)], [(d_a0, eI G 64 d_x)], [(k_a0, eI G 60 k_x)], [(c_a0, eI G 60 c_x)], [(t_a0, eI G 12 t_x)]]) (fun (z : Int) (u : Unit) => rg z ∧ P z) := by
  unfold wp_L_files at hwp
  refine zm_i (cc := cL_files) (maxL := 15) (ret := some .boolean) (own := RL) (lvs := [(0, .ref o_a0), (1, .ref f_a0), (2, .ref n_a0), (3, .ref l_a0), (4, .ref d_a0), (5, .ref k_a0), (6, .ref c_a0), (7, .ref t_a0), (8, .int (iI x))]) (by decide) rfl rfl (Nat.le_of_ble_eq_true rfl) rfl ?_
  intro p e sT m args below meth c ls A hx hb hr hml hown hts hlocks hK hP hD hS hA hl
  refine lv_aload_n hx hb dL_files_0 rfl (lv_at hl 3 rfl) ?_
  refine lv_aload hx hb dL_files_1 (lv_at hl 4 rfl) ?_
  refine lv_aload hx hb dL_files_3 (lv_at hl 7 rfl) ?_
  refine lv_iconst (v := iI 0) hx hb dL_files_5 rfl ?_
  refine lv_iconst (v := iI 1) hx hb dL_files_6 rfl ?_
  obtain ⟨b1, h2⟩ := hwp
  obtain ⟨b3, h4⟩ := h2
  refine zs_viR (As := [.ref l_a0, .ref d_a0, .ref t_a0, .int (iI 0), .int (iI 1)]) (rest := []) (c_L_kinds l G l_a0 d_a0 t_a0 l_x d_x t_x 0 1 r_l_x r_d_x r_t_x rg_0 rg_1 b1 b3) ⟨hx, hb, hml, hown, hts⟩ (va_cwS 5 hts gL_files_L_kinds rfl rfl rfl hdL_kinds ⟨Nat.le_of_ble_eq_true rfl, Nat.le_of_ble_eq_true rfl⟩) hK hP hD hS hA [106, 107, 110] rfl rfl rfl hl.1 rfl (Nat.le_of_ble_eq_true rfl) dL_files_7 ⟨Nat.zero_le _, Nat.zero_le _⟩ (fun z6 H locs hw hP hD hS => ?_)
  obtain ⟨rfl, r7⟩ := hw
  have hP : va_P G.1 vwCl (flt [W6o G o_a0 o_a4 o_a11 o_a12 o_a5 o_a1 o_a3 o_hs, W0 G o_a1 o_a2 o_cs o_ln, W2 G o_a3 o_kd o_fk o_hd o_va o_le o_mo, W5 G o_a4 o_cu, W1h G o_a5 o_a6 o_a7 o_a8 o_a9 o_a10 o_ol o_tt, W5 G o_a7 o_s0, W5 G o_a8 o_s1, W5 G o_a9 o_s2, W5 G o_a10 o_s3, W5 G o_a11 o_fo, W5 G o_a12 o_sv, [(f_a0, eI G 60 f_x)], [(n_a0, eI G 64 n_x)], [(l_a0, eI G 64 l_x)], [(d_a0, eI G 64 d_x)], [(k_a0, eI G 60 k_x)], [(c_a0, eI G 60 c_x)], [(t_a0, eI G 12 t_x)]]) H := hP
  have hD : va_D A (flt [W6o G o_a0 o_a4 o_a11 o_a12 o_a5 o_a1 o_a3 o_hs, W0 G o_a1 o_a2 o_cs o_ln, W2 G o_a3 o_kd o_fk o_hd o_va o_le o_mo, W5 G o_a4 o_cu, W1h G o_a5 o_a6 o_a7 o_a8 o_a9 o_a10 o_ol o_tt, W5 G o_a7 o_s0, W5 G o_a8 o_s1, W5 G o_a9 o_s2, W5 G o_a10 o_s3, W5 G o_a11 o_fo, W5 G o_a12 o_sv, [(f_a0, eI G 60 f_x)], [(n_a0, eI G 64 n_x)], [(l_a0, eI G 64 l_x)], [(d_a0, eI G 64 d_x)], [(k_a0, eI G 60 k_x)], [(c_a0, eI G 60 c_x)], [(t_a0, eI G 12 t_x)]]) := hD
  refine lv_istore (lv' := [(9, .int (iI (kdZ l_x d_x (0 : Int) (t_x 10).toNat))), (0, .ref o_a0), (1, .ref f_a0), (2, .ref n_a0), (3, .ref l_a0), (4, .ref d_a0), (5, .ref k_a0), (6, .ref c_a0), (7, .ref t_a0), (8, .int (iI x))]) hx hb dL_files_10 hl (by decide) rfl (fun ls hl => ?_)
  refine lv_iconst (v := iI (-1)) hx hb dL_files_12 rfl ?_
  refine lv_istore (lv' := [(10, .int (iI (-1))), (9, .int (iI (kdZ l_x d_x (0 : Int) (t_x 10).toNat))), (0, .ref o_a0), (1, .ref f_a0), (2, .ref n_a0), (3, .ref l_a0), (4, .ref d_a0), (5, .ref k_a0), (6, .ref c_a0), (7, .ref t_a0), (8, .int (iI x))]) hx hb dL_files_13 hl (by decide) rfl (fun ls hl => ?_)
  refine lv_iconst (v := iI 0) hx hb dL_files_15 rfl ?_
  refine lv_istore (lv' := [(11, .int (iI 0)), (10, .int (iI (-1))), (9, .int (iI (kdZ l_x d_x (0 : Int) (t_x 10).toNat))), (0, .ref o_a0), (1, .ref f_a0), (2, .ref n_a0), (3, .ref l_a0), (4, .ref d_a0), (5, .ref k_a0), (6, .ref c_a0), (7, .ref t_a0), (8, .int (iI x))]) hx hb dL_files_16 hl (by decide) rfl (fun ls hl => ?_)
  obtain ⟨I9, μ10, h11, h12⟩ := h4
  refine zr_loop (G := G) (σ := Int × Int) (fun x_8 => (rg x_8.1 ∧ rg x_8.2) ∧ I9 x_8.1 x_8.2) (fun x_8 => μ10 x_8.1 x_8.2) (fun x_8 => flt [W6o G o_a0 o_a4 o_a11 o_a12 o_a5 o_a1 o_a3 o_hs, W0 G o_a1 o_a2 o_cs o_ln, W2 G o_a3 o_kd o_fk o_hd o_va o_le o_mo, W5 G o_a4 o_cu, W1h G o_a5 o_a6 o_a7 o_a8 o_a9 o_a10 o_ol o_tt, W5 G o_a7 o_s0, W5 G o_a8 o_s1, W5 G o_a9 o_s2, W5 G o_a10 o_s3, W5 G o_a11 o_fo, W5 G o_a12 o_sv, [(f_a0, eI G 60 f_x)], [(n_a0, eI G 64 n_x)], [(l_a0, eI G 64 l_x)], [(d_a0, eI G 64 d_x)], [(k_a0, eI G 60 k_x)], [(c_a0, eI G 60 c_x)], [(t_a0, eI G 12 t_x)]]) (fun x_8 => [(11, .int (iI x_8.2)), (10, .int (iI x_8.1)), (9, .int (iI (kdZ l_x d_x (0 : Int) (t_x 10).toNat))), (0, .ref o_a0), (1, .ref f_a0), (2, .ref n_a0), (3, .ref l_a0), (4, .ref d_a0), (5, .ref k_a0), (6, .ref c_a0), (7, .ref t_a0), (8, .int (iI x))]) (((-1), 0)) ⟨⟨rg_m1, rg_0⟩, h11⟩ hP hD hS (lv_sub hl [0, 1, 2, 3, 4, 5, 6, 7, 8, 9, 10, 11] rfl) ?_
  clear hP hD hS hl
  intro x_8 H locs ls ih13 h14 hP hD hS hl
  obtain ⟨x10_8, x11_8⟩ := x_8
  obtain ⟨⟨rx10_8, rx11_8⟩, h14⟩ := h14
  have h15 := h12 x10_8 x11_8 rx10_8 rx11_8 h14
  have hP : va_P G.1 vwCl (flt [W6o G o_a0 o_a4 o_a11 o_a12 o_a5 o_a1 o_a3 o_hs, W0 G o_a1 o_a2 o_cs o_ln, W2 G o_a3 o_kd o_fk o_hd o_va o_le o_mo, W5 G o_a4 o_cu, W1h G o_a5 o_a6 o_a7 o_a8 o_a9 o_a10 o_ol o_tt, W5 G o_a7 o_s0, W5 G o_a8 o_s1, W5 G o_a9 o_s2, W5 G o_a10 o_s3, W5 G o_a11 o_fo, W5 G o_a12 o_sv, [(f_a0, eI G 60 f_x)], [(n_a0, eI G 64 n_x)], [(l_a0, eI G 64 l_x)], [(d_a0, eI G 64 d_x)], [(k_a0, eI G 60 k_x)], [(c_a0, eI G 60 c_x)], [(t_a0, eI G 12 t_x)]]) H := hP
  have hD : va_D A (flt [W6o G o_a0 o_a4 o_a11 o_a12 o_a5 o_a1 o_a3 o_hs, W0 G o_a1 o_a2 o_cs o_ln, W2 G o_a3 o_kd o_fk o_hd o_va o_le o_mo, W5 G o_a4 o_cu, W1h G o_a5 o_a6 o_a7 o_a8 o_a9 o_a10 o_ol o_tt, W5 G o_a7 o_s0, W5 G o_a8 o_s1, W5 G o_a9 o_s2, W5 G o_a10 o_s3, W5 G o_a11 o_fo, W5 G o_a12 o_sv, [(f_a0, eI G 60 f_x)], [(n_a0, eI G 64 n_x)], [(l_a0, eI G 64 l_x)], [(d_a0, eI G 64 d_x)], [(k_a0, eI G 60 k_x)], [(c_a0, eI G 60 c_x)], [(t_a0, eI G 12 t_x)]]) := hD
  have hl : lv_has ls 15 [(11, .int (iI x11_8)), (10, .int (iI x10_8)), (9, .int (iI (kdZ l_x d_x (0 : Int) (t_x 10).toNat))), (0, .ref o_a0), (1, .ref f_a0), (2, .ref n_a0), (3, .ref l_a0), (4, .ref d_a0), (5, .ref k_a0), (6, .ref c_a0), (7, .ref t_a0), (8, .int (iI x))] := hl
  refine lv_iload hx hb dL_files_18 (lv_at hl 0 rfl) ?_
  refine lv_iload hx hb dL_files_20 (lv_at hl 2 rfl) ?_
  refine zr_icmp_ge (tgt := 216) (x := x11_8) (y := kdZ l_x d_x (0 : Int) (t_x 10).toNat) hx hb rx11_8 r7 dL_files_22 (by decide) (fun c16 => ?_) (fun c16 => ?_)
  · have h19 := h15.2 c16
    refine lv_aload_n hx hb dL_files_216 rfl (lv_at hl 3 rfl) ?_
    obtain ⟨g20, g21, h22⟩ := h19
    obtain ⟨b23, h24⟩ := h22
    obtain ⟨b25, h26⟩ := h24
    refine zq_viR (As := []) (rest := []) (c_X6_runs l G o_a0 o_a1 o_a2 o_a3 o_a4 o_a5 o_a6 o_a7 o_a8 o_a9 o_a10 o_a11 o_a12 o_cu o_fo o_sv o_hs o_ol o_tt o_s0 o_s1 o_s2 o_s3 o_cs o_ln o_kd o_fk o_hd o_va o_le o_mo g20 g21 r_o_cu r_o_fo r_o_sv r_o_hs r_o_ol r_o_tt r_o_s0 r_o_s1 r_o_s2 r_o_s3 r_o_cs r_o_ln r_o_kd r_o_fk r_o_hd r_o_va r_o_le r_o_mo b23 b25) ⟨hx, hb, hml, hown, hts⟩ (cwV 0 hts gL_files_X6_runs rfl rfl rfl hdX6_runs ⟨Nat.le_of_ble_eq_true rfl, Nat.le_of_ble_eq_true rfl⟩) hK hP hD hS hA rfl rfl [0, 1, 2, 3, 4, 5, 6, 7, 8, 9, 10, 11, 12, 13, 14, 15, 16, 17, 18, 19, 20, 21, 22, 23, 24, 25, 26, 27, 28, 29, 30, 31, 32, 33, 34, 35, 36, 37, 38, 39, 40, 41, 42, 43, 44, 45, 46, 47, 48, 49, 50, 51, 52, 53, 54, 55, 56, 57, 58, 59, 60, 61, 62, 63, 64, 65, 66, 67, 68, 69, 70, 71, 72, 73, 74, 75, 76, 77, 78, 79, 80, 81, 82, 83, 84, 85, 86, 87, 88, 89, 90, 91, 92, 93, 94, 95, 96, 97, 98, 99, 100, 101, 102, 103] rfl rfl rfl hl.1 rfl (Nat.le_of_ble_eq_true rfl) dL_files_217 ⟨Nat.zero_le _, Nat.zero_le _⟩ (fun z28 H locs hw hP hD hS => ?_)
    obtain ⟨r30, h29⟩ := hw
    have h31 := h26 z28 r30 h29
    have hP : va_P G.1 vwCl (flt [W6o G o_a0 o_a4 o_a11 o_a12 o_a5 o_a1 o_a3 o_hs, W0 G o_a1 o_a2 o_cs o_ln, W2 G o_a3 o_kd o_fk o_hd o_va o_le o_mo, W5 G o_a4 o_cu, W1h G o_a5 o_a6 o_a7 o_a8 o_a9 o_a10 o_ol o_tt, W5 G o_a7 o_s0, W5 G o_a8 o_s1, W5 G o_a9 o_s2, W5 G o_a10 o_s3, W5 G o_a11 o_fo, W5 G o_a12 o_sv, [(f_a0, eI G 60 f_x)], [(n_a0, eI G 64 n_x)], [(l_a0, eI G 64 l_x)], [(d_a0, eI G 64 d_x)], [(k_a0, eI G 60 k_x)], [(c_a0, eI G 60 c_x)], [(t_a0, eI G 12 t_x)]]) H := hP
    have hD : va_D A (flt [W6o G o_a0 o_a4 o_a11 o_a12 o_a5 o_a1 o_a3 o_hs, W0 G o_a1 o_a2 o_cs o_ln, W2 G o_a3 o_kd o_fk o_hd o_va o_le o_mo, W5 G o_a4 o_cu, W1h G o_a5 o_a6 o_a7 o_a8 o_a9 o_a10 o_ol o_tt, W5 G o_a7 o_s0, W5 G o_a8 o_s1, W5 G o_a9 o_s2, W5 G o_a10 o_s3, W5 G o_a11 o_fo, W5 G o_a12 o_sv, [(f_a0, eI G 60 f_x)], [(n_a0, eI G 64 n_x)], [(l_a0, eI G 64 l_x)], [(d_a0, eI G 64 d_x)], [(k_a0, eI G 60 k_x)], [(c_a0, eI G 60 c_x)], [(t_a0, eI G 12 t_x)]]) := hD
    refine lv_iload hx hb dL_files_220 (lv_at hl 2 rfl) ?_
    refine zr_icmp_ne (tgt := 248) (x := z28) (y := kdZ l_x d_x (0 : Int) (t_x 10).toNat) hx hb r30 r7 dL_files_222 (by decide) (fun c32 => ?_) (fun c32 => ?_)
    · have h35 := h31.2 c32
      refine lv_iconst (v := iI 0) hx hb dL_files_248 rfl ?_
      exact zr_zret (z := 0) hx hb hr hlocks hK (Or.inl rfl) () hP hD hS dL_files_249 ⟨rg_0, h35⟩
    · have h36 := h31.1 c32
      refine lv_aload_n hx hb dL_files_225 rfl (lv_at hl 3 rfl) ?_
      refine lv_iload hx hb dL_files_226 (lv_at hl 2 rfl) ?_
      obtain ⟨g37, g38, h39⟩ := h36
      obtain ⟨b40, h41⟩ := h39
      obtain ⟨b42, h43⟩ := h41
      refine zq_viR (As := [.int (iI (kdZ l_x d_x (0 : Int) (t_x 10).toNat))]) (rest := []) (c_X6_runAt l G o_a0 o_a1 o_a2 o_a3 o_a4 o_a5 o_a6 o_a7 o_a8 o_a9 o_a10 o_a11 o_a12 o_cu o_fo o_sv o_hs o_ol o_tt o_s0 o_s1 o_s2 o_s3 o_cs o_ln o_kd o_fk o_hd o_va o_le o_mo (kdZ l_x d_x (0 : Int) (t_x 10).toNat) g37 g38 r_o_cu r_o_fo r_o_sv r_o_hs r_o_ol r_o_tt r_o_s0 r_o_s1 r_o_s2 r_o_s3 r_o_cs r_o_ln r_o_kd r_o_fk r_o_hd r_o_va r_o_le r_o_mo r7 b40 b42) ⟨hx, hb, hml, hown, hts⟩ (cwV 1 hts gL_files_X6_runAt rfl rfl rfl hdX6_runAt ⟨Nat.le_of_ble_eq_true rfl, Nat.le_of_ble_eq_true rfl⟩) hK hP hD hS hA rfl rfl [0, 1, 2, 3, 4, 5, 6, 7, 8, 9, 10, 11, 12, 13, 14, 15, 16, 17, 18, 19, 20, 21, 22, 23, 24, 25, 26, 27, 28, 29, 30, 31, 32, 33, 34, 35, 36, 37, 38, 39, 40, 41, 42, 43, 44, 45, 46, 47, 48, 49, 50, 51, 52, 53, 54, 55, 56, 57, 58, 59, 60, 61, 62, 63, 64, 65, 66, 67, 68, 69, 70, 71, 72, 73, 74, 75, 76, 77, 78, 79, 80, 81, 82, 83, 84, 85, 86, 87, 88, 89, 90, 91, 92, 93, 94, 95, 96, 97, 98, 99, 100, 101, 102, 103] rfl rfl rfl hl.1 rfl (Nat.le_of_ble_eq_true rfl) dL_files_228 ⟨Nat.zero_le _, Nat.zero_le _⟩ (fun z45 H locs hw hP hD hS => ?_)
      obtain ⟨r47, h46⟩ := hw
      have h48 := h43 z45 r47 h46
      have hP : va_P G.1 vwCl (flt [W6o G o_a0 o_a4 o_a11 o_a12 o_a5 o_a1 o_a3 o_hs, W0 G o_a1 o_a2 o_cs o_ln, W2 G o_a3 o_kd o_fk o_hd o_va o_le o_mo, W5 G o_a4 o_cu, W1h G o_a5 o_a6 o_a7 o_a8 o_a9 o_a10 o_ol o_tt, W5 G o_a7 o_s0, W5 G o_a8 o_s1, W5 G o_a9 o_s2, W5 G o_a10 o_s3, W5 G o_a11 o_fo, W5 G o_a12 o_sv, [(f_a0, eI G 60 f_x)], [(n_a0, eI G 64 n_x)], [(l_a0, eI G 64 l_x)], [(d_a0, eI G 64 d_x)], [(k_a0, eI G 60 k_x)], [(c_a0, eI G 60 c_x)], [(t_a0, eI G 12 t_x)]]) H := hP
      have hD : va_D A (flt [W6o G o_a0 o_a4 o_a11 o_a12 o_a5 o_a1 o_a3 o_hs, W0 G o_a1 o_a2 o_cs o_ln, W2 G o_a3 o_kd o_fk o_hd o_va o_le o_mo, W5 G o_a4 o_cu, W1h G o_a5 o_a6 o_a7 o_a8 o_a9 o_a10 o_ol o_tt, W5 G o_a7 o_s0, W5 G o_a8 o_s1, W5 G o_a9 o_s2, W5 G o_a10 o_s3, W5 G o_a11 o_fo, W5 G o_a12 o_sv, [(f_a0, eI G 60 f_x)], [(n_a0, eI G 64 n_x)], [(l_a0, eI G 64 l_x)], [(d_a0, eI G 64 d_x)], [(k_a0, eI G 60 k_x)], [(c_a0, eI G 60 c_x)], [(t_a0, eI G 12 t_x)]]) := hD
      refine lv_iconst (v := iI (-1)) hx hb dL_files_231 rfl ?_
      refine zr_icmp_ne (tgt := 248) (x := z45) (y := (-1)) hx hb r47 rg_m1 dL_files_232 (by decide) (fun c49 => ?_) (fun c49 => ?_)
      · have h52 := h48.2 c49
        refine lv_iconst (v := iI 0) hx hb dL_files_248 rfl ?_
        exact zr_zret (z := 0) hx hb hr hlocks hK (Or.inl rfl) () hP hD hS dL_files_249 ⟨rg_0, h52⟩
      · have h53 := h48.1 c49
        refine lv_aload_n hx hb dL_files_235 rfl (lv_at hl 3 rfl) ?_
        refine lv_iconst (v := iI (-1)) hx hb dL_files_236 rfl ?_
        obtain ⟨g54, g55, h56⟩ := h53
        obtain ⟨b57, h58⟩ := h56
        obtain ⟨b59, h60⟩ := h58
        refine zq_viR (As := [.int (iI (-1))]) (rest := []) (c_X6_runAt l G o_a0 o_a1 o_a2 o_a3 o_a4 o_a5 o_a6 o_a7 o_a8 o_a9 o_a10 o_a11 o_a12 o_cu o_fo o_sv o_hs o_ol o_tt o_s0 o_s1 o_s2 o_s3 o_cs o_ln o_kd o_fk o_hd o_va o_le o_mo (-1) g54 g55 r_o_cu r_o_fo r_o_sv r_o_hs r_o_ol r_o_tt r_o_s0 r_o_s1 r_o_s2 r_o_s3 r_o_cs r_o_ln r_o_kd r_o_fk r_o_hd r_o_va r_o_le r_o_mo rg_m1 b57 b59) ⟨hx, hb, hml, hown, hts⟩ (cwV 1 hts gL_files_X6_runAt rfl rfl rfl hdX6_runAt ⟨Nat.le_of_ble_eq_true rfl, Nat.le_of_ble_eq_true rfl⟩) hK hP hD hS hA rfl rfl [0, 1, 2, 3, 4, 5, 6, 7, 8, 9, 10, 11, 12, 13, 14, 15, 16, 17, 18, 19, 20, 21, 22, 23, 24, 25, 26, 27, 28, 29, 30, 31, 32, 33, 34, 35, 36, 37, 38, 39, 40, 41, 42, 43, 44, 45, 46, 47, 48, 49, 50, 51, 52, 53, 54, 55, 56, 57, 58, 59, 60, 61, 62, 63, 64, 65, 66, 67, 68, 69, 70, 71, 72, 73, 74, 75, 76, 77, 78, 79, 80, 81, 82, 83, 84, 85, 86, 87, 88, 89, 90, 91, 92, 93, 94, 95, 96, 97, 98, 99, 100, 101, 102, 103] rfl rfl rfl hl.1 rfl (Nat.le_of_ble_eq_true rfl) dL_files_237 ⟨Nat.zero_le _, Nat.zero_le _⟩ (fun z62 H locs hw hP hD hS => ?_)
        obtain ⟨r64, h63⟩ := hw
        have h65 := h60 z62 r64 h63
        have hP : va_P G.1 vwCl (flt [W6o G o_a0 o_a4 o_a11 o_a12 o_a5 o_a1 o_a3 o_hs, W0 G o_a1 o_a2 o_cs o_ln, W2 G o_a3 o_kd o_fk o_hd o_va o_le o_mo, W5 G o_a4 o_cu, W1h G o_a5 o_a6 o_a7 o_a8 o_a9 o_a10 o_ol o_tt, W5 G o_a7 o_s0, W5 G o_a8 o_s1, W5 G o_a9 o_s2, W5 G o_a10 o_s3, W5 G o_a11 o_fo, W5 G o_a12 o_sv, [(f_a0, eI G 60 f_x)], [(n_a0, eI G 64 n_x)], [(l_a0, eI G 64 l_x)], [(d_a0, eI G 64 d_x)], [(k_a0, eI G 60 k_x)], [(c_a0, eI G 60 c_x)], [(t_a0, eI G 12 t_x)]]) H := hP
        have hD : va_D A (flt [W6o G o_a0 o_a4 o_a11 o_a12 o_a5 o_a1 o_a3 o_hs, W0 G o_a1 o_a2 o_cs o_ln, W2 G o_a3 o_kd o_fk o_hd o_va o_le o_mo, W5 G o_a4 o_cu, W1h G o_a5 o_a6 o_a7 o_a8 o_a9 o_a10 o_ol o_tt, W5 G o_a7 o_s0, W5 G o_a8 o_s1, W5 G o_a9 o_s2, W5 G o_a10 o_s3, W5 G o_a11 o_fo, W5 G o_a12 o_sv, [(f_a0, eI G 60 f_x)], [(n_a0, eI G 64 n_x)], [(l_a0, eI G 64 l_x)], [(d_a0, eI G 64 d_x)], [(k_a0, eI G 60 k_x)], [(c_a0, eI G 60 c_x)], [(t_a0, eI G 12 t_x)]]) := hD
        refine lv_iconst (v := iI (-1)) hx hb dL_files_240 rfl ?_
        refine zr_icmp_ne (tgt := 248) (x := z62) (y := (-1)) hx hb r64 rg_m1 dL_files_241 (by decide) (fun c66 => ?_) (fun c66 => ?_)
        · have h69 := h65.2 c66
          refine lv_iconst (v := iI 0) hx hb dL_files_248 rfl ?_
          exact zr_zret (z := 0) hx hb hr hlocks hK (Or.inl rfl) () hP hD hS dL_files_249 ⟨rg_0, h69⟩
        · have h70 := h65.1 c66
          refine lv_iconst (v := iI 1) hx hb dL_files_244 rfl ?_
          refine lv_goto (tgt := 249) hx hb dL_files_245 (by decide) ?_
          exact zr_zret (z := 1) hx hb hr hlocks hK (Or.inr rfl) () hP hD hS dL_files_249 ⟨rg_1, h70⟩
  · have h71 := h15.1 c16
    refine lv_iconst (v := iI (-1)) hx hb dL_files_25 rfl ?_
    refine lv_istore (lv' := [(12, .int (iI (-1))), (11, .int (iI x11_8)), (10, .int (iI x10_8)), (9, .int (iI (kdZ l_x d_x (0 : Int) (t_x 10).toNat))), (0, .ref o_a0), (1, .ref f_a0), (2, .ref n_a0), (3, .ref l_a0), (4, .ref d_a0), (5, .ref k_a0), (6, .ref c_a0), (7, .ref t_a0), (8, .int (iI x))]) hx hb dL_files_26 hl (by decide) rfl (fun ls hl => ?_)
    refine lv_iconst (v := iI 0) hx hb dL_files_28 rfl ?_
    refine lv_istore (lv' := [(13, .int (iI 0)), (12, .int (iI (-1))), (11, .int (iI x11_8)), (10, .int (iI x10_8)), (9, .int (iI (kdZ l_x d_x (0 : Int) (t_x 10).toNat))), (0, .ref o_a0), (1, .ref f_a0), (2, .ref n_a0), (3, .ref l_a0), (4, .ref d_a0), (5, .ref k_a0), (6, .ref c_a0), (7, .ref t_a0), (8, .int (iI x))]) hx hb dL_files_29 hl (by decide) rfl (fun ls hl => ?_)
    obtain ⟨I73, μ74, h75, h76⟩ := h71
    refine zr_loop (G := G) (σ := Int × Int) (fun x_72 => (rg x_72.1 ∧ rg x_72.2) ∧ I73 x_72.1 x_72.2) (fun x_72 => μ74 x_72.1 x_72.2) (fun x_72 => flt [W6o G o_a0 o_a4 o_a11 o_a12 o_a5 o_a1 o_a3 o_hs, W0 G o_a1 o_a2 o_cs o_ln, W2 G o_a3 o_kd o_fk o_hd o_va o_le o_mo, W5 G o_a4 o_cu, W1h G o_a5 o_a6 o_a7 o_a8 o_a9 o_a10 o_ol o_tt, W5 G o_a7 o_s0, W5 G o_a8 o_s1, W5 G o_a9 o_s2, W5 G o_a10 o_s3, W5 G o_a11 o_fo, W5 G o_a12 o_sv, [(f_a0, eI G 60 f_x)], [(n_a0, eI G 64 n_x)], [(l_a0, eI G 64 l_x)], [(d_a0, eI G 64 d_x)], [(k_a0, eI G 60 k_x)], [(c_a0, eI G 60 c_x)], [(t_a0, eI G 12 t_x)]]) (fun x_72 => [(13, .int (iI x_72.2)), (12, .int (iI x_72.1)), (11, .int (iI x11_8)), (10, .int (iI x10_8)), (9, .int (iI (kdZ l_x d_x (0 : Int) (t_x 10).toNat))), (0, .ref o_a0), (1, .ref f_a0), (2, .ref n_a0), (3, .ref l_a0), (4, .ref d_a0), (5, .ref k_a0), (6, .ref c_a0), (7, .ref t_a0), (8, .int (iI x))]) (((-1), 0)) ⟨⟨rg_m1, rg_0⟩, h75⟩ hP hD hS (lv_sub hl [0, 1, 2, 3, 4, 5, 6, 7, 8, 9, 10, 11, 12, 13] rfl) ?_
    clear hP hD hS hl
    intro x_72 H locs ls ih77 h78 hP hD hS hl
    obtain ⟨x12_72, x13_72⟩ := x_72
    obtain ⟨⟨rx12_72, rx13_72⟩, h78⟩ := h78
    have h79 := h76 x12_72 x13_72 rx12_72 rx13_72 h78
    have hP : va_P G.1 vwCl (flt [W6o G o_a0 o_a4 o_a11 o_a12 o_a5 o_a1 o_a3 o_hs, W0 G o_a1 o_a2 o_cs o_ln, W2 G o_a3 o_kd o_fk o_hd o_va o_le o_mo, W5 G o_a4 o_cu, W1h G o_a5 o_a6 o_a7 o_a8 o_a9 o_a10 o_ol o_tt, W5 G o_a7 o_s0, W5 G o_a8 o_s1, W5 G o_a9 o_s2, W5 G o_a10 o_s3, W5 G o_a11 o_fo, W5 G o_a12 o_sv, [(f_a0, eI G 60 f_x)], [(n_a0, eI G 64 n_x)], [(l_a0, eI G 64 l_x)], [(d_a0, eI G 64 d_x)], [(k_a0, eI G 60 k_x)], [(c_a0, eI G 60 c_x)], [(t_a0, eI G 12 t_x)]]) H := hP
    have hD : va_D A (flt [W6o G o_a0 o_a4 o_a11 o_a12 o_a5 o_a1 o_a3 o_hs, W0 G o_a1 o_a2 o_cs o_ln, W2 G o_a3 o_kd o_fk o_hd o_va o_le o_mo, W5 G o_a4 o_cu, W1h G o_a5 o_a6 o_a7 o_a8 o_a9 o_a10 o_ol o_tt, W5 G o_a7 o_s0, W5 G o_a8 o_s1, W5 G o_a9 o_s2, W5 G o_a10 o_s3, W5 G o_a11 o_fo, W5 G o_a12 o_sv, [(f_a0, eI G 60 f_x)], [(n_a0, eI G 64 n_x)], [(l_a0, eI G 64 l_x)], [(d_a0, eI G 64 d_x)], [(k_a0, eI G 60 k_x)], [(c_a0, eI G 60 c_x)], [(t_a0, eI G 12 t_x)]]) := hD
    have hl : lv_has ls 15 [(13, .int (iI x13_72)), (12, .int (iI x12_72)), (11, .int (iI x11_8)), (10, .int (iI x10_8)), (9, .int (iI (kdZ l_x d_x (0 : Int) (t_x 10).toNat))), (0, .ref o_a0), (1, .ref f_a0), (2, .ref n_a0), (3, .ref l_a0), (4, .ref d_a0), (5, .ref k_a0), (6, .ref c_a0), (7, .ref t_a0), (8, .int (iI x))] := hl
    refine lv_iload hx hb dL_files_31 (lv_at hl 0 rfl) ?_
    refine lv_aload hx hb dL_files_33 (lv_at hl 12 rfl) ?_
    refine lv_bipush (v := iI 10) hx hb dL_files_35 (by decide) ?_
    refine zr_iald (n := 12) (f := t_x) (i := 10) hx hb hK hP 110 rfl rg_10 ⟨by decide, by decide⟩ dL_files_37 ?_
    refine zr_icmp_ge (tgt := 89) (x := x13_72) (y := t_x 10) hx hb rx13_72 (r_t_x 10) dL_files_38 (by decide) (fun c80 => ?_) (fun c80 => ?_)
    · have h83 := h79.2 c80
      refine lv_aload_n hx hb dL_files_89 rfl (lv_at hl 7 rfl) ?_
      refine lv_iload hx hb dL_files_90 (lv_at hl 1 rfl) ?_
      obtain ⟨b84, h85⟩ := h83
      refine zr_iald (n := 64) (f := n_x) (i := x12_72) hx hb hK hP 105 rfl rx12_72 b84 dL_files_92 ?_
      refine lv_istore (lv' := [(10, .int (iI (n_x x12_72))), (13, .int (iI x13_72)), (12, .int (iI x12_72)), (11, .int (iI x11_8)), (9, .int (iI (kdZ l_x d_x (0 : Int) (t_x 10).toNat))), (0, .ref o_a0), (1, .ref f_a0), (2, .ref n_a0), (3, .ref l_a0), (4, .ref d_a0), (5, .ref k_a0), (6, .ref c_a0), (7, .ref t_a0), (8, .int (iI x))]) hx hb dL_files_93 hl (by decide) rfl (fun ls hl => ?_)
      refine lv_aload_n hx hb dL_files_95 rfl (lv_at hl 5 rfl) ?_
      refine lv_iload hx hb dL_files_96 (lv_at hl 3 rfl) ?_
      obtain ⟨g86, g87, h88⟩ := h85
      obtain ⟨b89, h90⟩ := h88
      obtain ⟨b91, h92⟩ := h90
      refine zq_viR (As := [.int (iI x11_8)]) (rest := []) (c_X6_runAt l G o_a0 o_a1 o_a2 o_a3 o_a4 o_a5 o_a6 o_a7 o_a8 o_a9 o_a10 o_a11 o_a12 o_cu o_fo o_sv o_hs o_ol o_tt o_s0 o_s1 o_s2 o_s3 o_cs o_ln o_kd o_fk o_hd o_va o_le o_mo x11_8 g86 g87 r_o_cu r_o_fo r_o_sv r_o_hs r_o_ol r_o_tt r_o_s0 r_o_s1 r_o_s2 r_o_s3 r_o_cs r_o_ln r_o_kd r_o_fk r_o_hd r_o_va r_o_le r_o_mo rx11_8 b89 b91) ⟨hx, hb, hml, hown, hts⟩ (cwV 1 hts gL_files_X6_runAt rfl rfl rfl hdX6_runAt ⟨Nat.le_of_ble_eq_true rfl, Nat.le_of_ble_eq_true rfl⟩) hK hP hD hS hA rfl rfl [0, 1, 2, 3, 4, 5, 6, 7, 8, 9, 10, 11, 12, 13, 14, 15, 16, 17, 18, 19, 20, 21, 22, 23, 24, 25, 26, 27, 28, 29, 30, 31, 32, 33, 34, 35, 36, 37, 38, 39, 40, 41, 42, 43, 44, 45, 46, 47, 48, 49, 50, 51, 52, 53, 54, 55, 56, 57, 58, 59, 60, 61, 62, 63, 64, 65, 66, 67, 68, 69, 70, 71, 72, 73, 74, 75, 76, 77, 78, 79, 80, 81, 82, 83, 84, 85, 86, 87, 88, 89, 90, 91, 92, 93, 94, 95, 96, 97, 98, 99, 100, 101, 102, 103] rfl rfl rfl hl.1 rfl (Nat.le_of_ble_eq_true rfl) dL_files_98 ⟨Nat.zero_le _, Nat.zero_le _⟩ (fun z94 H locs hw hP hD hS => ?_)
      obtain ⟨r96, h95⟩ := hw
      have h97 := h92 z94 r96 h95
      have hP : va_P G.1 vwCl (flt [W6o G o_a0 o_a4 o_a11 o_a12 o_a5 o_a1 o_a3 o_hs, W0 G o_a1 o_a2 o_cs o_ln, W2 G o_a3 o_kd o_fk o_hd o_va o_le o_mo, W5 G o_a4 o_cu, W1h G o_a5 o_a6 o_a7 o_a8 o_a9 o_a10 o_ol o_tt, W5 G o_a7 o_s0, W5 G o_a8 o_s1, W5 G o_a9 o_s2, W5 G o_a10 o_s3, W5 G o_a11 o_fo, W5 G o_a12 o_sv, [(f_a0, eI G 60 f_x)], [(n_a0, eI G 64 n_x)], [(l_a0, eI G 64 l_x)], [(d_a0, eI G 64 d_x)], [(k_a0, eI G 60 k_x)], [(c_a0, eI G 60 c_x)], [(t_a0, eI G 12 t_x)]]) H := hP
      have hD : va_D A (flt [W6o G o_a0 o_a4 o_a11 o_a12 o_a5 o_a1 o_a3 o_hs, W0 G o_a1 o_a2 o_cs o_ln, W2 G o_a3 o_kd o_fk o_hd o_va o_le o_mo, W5 G o_a4 o_cu, W1h G o_a5 o_a6 o_a7 o_a8 o_a9 o_a10 o_ol o_tt, W5 G o_a7 o_s0, W5 G o_a8 o_s1, W5 G o_a9 o_s2, W5 G o_a10 o_s3, W5 G o_a11 o_fo, W5 G o_a12 o_sv, [(f_a0, eI G 60 f_x)], [(n_a0, eI G 64 n_x)], [(l_a0, eI G 64 l_x)], [(d_a0, eI G 64 d_x)], [(k_a0, eI G 60 k_x)], [(c_a0, eI G 60 c_x)], [(t_a0, eI G 12 t_x)]]) := hD
      refine lv_iload hx hb dL_files_101 (lv_at hl 0 rfl) ?_
      refine zr_icmp_ne (tgt := 119) (x := z94) (y := n_x x12_72) hx hb r96 (r_n_x x12_72) dL_files_103 (by decide) (fun c98 => ?_) (fun c98 => ?_)
      · have h101 := h97.2 c98
        refine lv_iconst (v := iI 0) hx hb dL_files_119 rfl ?_
        exact zr_zret (z := 0) hx hb hr hlocks hK (Or.inl rfl) () hP hD hS dL_files_120 ⟨rg_0, h101⟩
      · have h102 := h97.1 c98
        refine lv_aload_n hx hb dL_files_106 rfl (lv_at hl 5 rfl) ?_
        refine lv_iload hx hb dL_files_107 (lv_at hl 0 rfl) ?_
        obtain ⟨g103, g104, h105⟩ := h102
        obtain ⟨b106, h107⟩ := h105
        obtain ⟨b108, h109⟩ := h107
        refine zq_viR (As := [.int (iI (n_x x12_72))]) (rest := []) (c_X6_size l G o_a0 o_a1 o_a2 o_a3 o_a4 o_a5 o_a6 o_a7 o_a8 o_a9 o_a10 o_a11 o_a12 o_cu o_fo o_sv o_hs o_ol o_tt o_s0 o_s1 o_s2 o_s3 o_cs o_ln o_kd o_fk o_hd o_va o_le o_mo (n_x x12_72) g103 g104 r_o_cu r_o_fo r_o_sv r_o_hs r_o_ol r_o_tt r_o_s0 r_o_s1 r_o_s2 r_o_s3 r_o_cs r_o_ln r_o_kd r_o_fk r_o_hd r_o_va r_o_le r_o_mo (r_n_x x12_72) b106 b108) ⟨hx, hb, hml, hown, hts⟩ (cwV 1 hts gL_files_X6_size rfl rfl rfl hdX6_size ⟨Nat.le_of_ble_eq_true rfl, Nat.le_of_ble_eq_true rfl⟩) hK hP hD hS hA rfl rfl [0, 1, 2, 3, 4, 5, 6, 7, 8, 9, 10, 11, 12, 13, 14, 15, 16, 17, 18, 19, 20, 21, 22, 23, 24, 25, 26, 27, 28, 29, 30, 31, 32, 33, 34, 35, 36, 37, 38, 39, 40, 41, 42, 43, 44, 45, 46, 47, 48, 49, 50, 51, 52, 53, 54, 55, 56, 57, 58, 59, 60, 61, 62, 63, 64, 65, 66, 67, 68, 69, 70, 71, 72, 73, 74, 75, 76, 77, 78, 79, 80, 81, 82, 83, 84, 85, 86, 87, 88, 89, 90, 91, 92, 93, 94, 95, 96, 97, 98, 99, 100, 101, 102, 103] rfl rfl rfl hl.1 rfl (Nat.le_of_ble_eq_true rfl) dL_files_109 ⟨Nat.zero_le _, Nat.zero_le _⟩ (fun z111 H locs hw hP hD hS => ?_)
        obtain ⟨r113, h112⟩ := hw
        have h114 := h109 z111 r113 h112
        have hP : va_P G.1 vwCl (flt [W6o G o_a0 o_a4 o_a11 o_a12 o_a5 o_a1 o_a3 o_hs, W0 G o_a1 o_a2 o_cs o_ln, W2 G o_a3 o_kd o_fk o_hd o_va o_le o_mo, W5 G o_a4 o_cu, W1h G o_a5 o_a6 o_a7 o_a8 o_a9 o_a10 o_ol o_tt, W5 G o_a7 o_s0, W5 G o_a8 o_s1, W5 G o_a9 o_s2, W5 G o_a10 o_s3, W5 G o_a11 o_fo, W5 G o_a12 o_sv, [(f_a0, eI G 60 f_x)], [(n_a0, eI G 64 n_x)], [(l_a0, eI G 64 l_x)], [(d_a0, eI G 64 d_x)], [(k_a0, eI G 60 k_x)], [(c_a0, eI G 60 c_x)], [(t_a0, eI G 12 t_x)]]) H := hP
        have hD : va_D A (flt [W6o G o_a0 o_a4 o_a11 o_a12 o_a5 o_a1 o_a3 o_hs, W0 G o_a1 o_a2 o_cs o_ln, W2 G o_a3 o_kd o_fk o_hd o_va o_le o_mo, W5 G o_a4 o_cu, W1h G o_a5 o_a6 o_a7 o_a8 o_a9 o_a10 o_ol o_tt, W5 G o_a7 o_s0, W5 G o_a8 o_s1, W5 G o_a9 o_s2, W5 G o_a10 o_s3, W5 G o_a11 o_fo, W5 G o_a12 o_sv, [(f_a0, eI G 60 f_x)], [(n_a0, eI G 64 n_x)], [(l_a0, eI G 64 l_x)], [(d_a0, eI G 64 d_x)], [(k_a0, eI G 60 k_x)], [(c_a0, eI G 60 c_x)], [(t_a0, eI G 12 t_x)]]) := hD
        refine lv_aload_n hx hb dL_files_112 rfl (lv_at hl 8 rfl) ?_
        refine lv_iload hx hb dL_files_113 (lv_at hl 2 rfl) ?_
        refine zr_iald (n := 64) (f := l_x) (i := x12_72) hx hb hK hP 106 rfl rx12_72 b84 dL_files_115 ?_
        refine zr_icmp_eq (tgt := 121) (x := z111) (y := l_x x12_72) hx hb r113 (r_l_x x12_72) dL_files_116 (by decide) (fun c115 => ?_) (fun c115 => ?_)
        · have h118 := h114.1 c115
          refine lv_iload hx hb dL_files_121 (lv_at hl 13 rfl) ?_
          refine lv_aload_n hx hb dL_files_123 rfl (lv_at hl 8 rfl) ?_
          refine lv_iload hx hb dL_files_124 (lv_at hl 2 rfl) ?_
          refine zr_iald (n := 64) (f := l_x) (i := x12_72) hx hb hK hP 106 rfl rx12_72 b84 dL_files_126 ?_
          obtain ⟨b119, h120⟩ := h118
          refine zc_si (As := [.int (iI x), .int (iI (l_x x12_72))]) (rest := []) (c_L_low l G x (l_x x12_72) r_x (r_l_x x12_72) b119) ⟨hx, hb, hml, hown, hts⟩ (va_cwS 2 hts gL_files_L_low rfl rfl rfl hdL_low ⟨Nat.le_of_ble_eq_true rfl, Nat.le_of_ble_eq_true rfl⟩) hK hP hD hS hA rfl hl.1 rfl (Nat.le_of_ble_eq_true rfl) dL_files_127 ⟨Nat.zero_le _, Nat.zero_le _⟩ (fun z122 H locs hw hP hD hS => ?_)
          obtain ⟨r124, h123⟩ := hw
          have h125 := h120 z122 r124 h123
          have hP : va_P G.1 vwCl (flt [W6o G o_a0 o_a4 o_a11 o_a12 o_a5 o_a1 o_a3 o_hs, W0 G o_a1 o_a2 o_cs o_ln, W2 G o_a3 o_kd o_fk o_hd o_va o_le o_mo, W5 G o_a4 o_cu, W1h G o_a5 o_a6 o_a7 o_a8 o_a9 o_a10 o_ol o_tt, W5 G o_a7 o_s0, W5 G o_a8 o_s1, W5 G o_a9 o_s2, W5 G o_a10 o_s3, W5 G o_a11 o_fo, W5 G o_a12 o_sv, [(f_a0, eI G 60 f_x)], [(n_a0, eI G 64 n_x)], [(l_a0, eI G 64 l_x)], [(d_a0, eI G 64 d_x)], [(k_a0, eI G 60 k_x)], [(c_a0, eI G 60 c_x)], [(t_a0, eI G 12 t_x)]]) H := hP
          have hD : va_D A (flt [W6o G o_a0 o_a4 o_a11 o_a12 o_a5 o_a1 o_a3 o_hs, W0 G o_a1 o_a2 o_cs o_ln, W2 G o_a3 o_kd o_fk o_hd o_va o_le o_mo, W5 G o_a4 o_cu, W1h G o_a5 o_a6 o_a7 o_a8 o_a9 o_a10 o_ol o_tt, W5 G o_a7 o_s0, W5 G o_a8 o_s1, W5 G o_a9 o_s2, W5 G o_a10 o_s3, W5 G o_a11 o_fo, W5 G o_a12 o_sv, [(f_a0, eI G 60 f_x)], [(n_a0, eI G 64 n_x)], [(l_a0, eI G 64 l_x)], [(d_a0, eI G 64 d_x)], [(k_a0, eI G 60 k_x)], [(c_a0, eI G 60 c_x)], [(t_a0, eI G 12 t_x)]]) := hD
          refine lv_istore (lv' := [(13, .int (iI z122)), (10, .int (iI (n_x x12_72))), (12, .int (iI x12_72)), (11, .int (iI x11_8)), (9, .int (iI (kdZ l_x d_x (0 : Int) (t_x 10).toNat))), (0, .ref o_a0), (1, .ref f_a0), (2, .ref n_a0), (3, .ref l_a0), (4, .ref d_a0), (5, .ref k_a0), (6, .ref c_a0), (7, .ref t_a0), (8, .int (iI x))]) hx hb dL_files_130 hl (by decide) rfl (fun ls hl => ?_)
          refine lv_aload_n hx hb dL_files_132 rfl (lv_at hl 6 rfl) ?_
          refine lv_aload_n hx hb dL_files_133 rfl (lv_at hl 8 rfl) ?_
          refine lv_iload hx hb dL_files_134 (lv_at hl 2 rfl) ?_
          obtain ⟨b126, h127⟩ := h125
          obtain ⟨b128, h129⟩ := h127
          refine zs_viR (As := [.ref l_a0, .int (iI x12_72)]) (rest := [.ref f_a0]) (c_L_start l G l_a0 l_x x12_72 r_l_x rx12_72 b126 b128) ⟨hx, hb, hml, hown, hts⟩ (va_cwS 2 hts gL_files_L_start rfl rfl rfl hdL_start ⟨Nat.le_of_ble_eq_true rfl, Nat.le_of_ble_eq_true rfl⟩) hK hP hD hS hA [106] rfl rfl rfl hl.1 rfl (Nat.le_of_ble_eq_true rfl) dL_files_136 ⟨Nat.zero_le _, Nat.zero_le _⟩ (fun z131 H locs hw hP hD hS => ?_)
          obtain ⟨rfl, r132⟩ := hw
          have hP : va_P G.1 vwCl (flt [W6o G o_a0 o_a4 o_a11 o_a12 o_a5 o_a1 o_a3 o_hs, W0 G o_a1 o_a2 o_cs o_ln, W2 G o_a3 o_kd o_fk o_hd o_va o_le o_mo, W5 G o_a4 o_cu, W1h G o_a5 o_a6 o_a7 o_a8 o_a9 o_a10 o_ol o_tt, W5 G o_a7 o_s0, W5 G o_a8 o_s1, W5 G o_a9 o_s2, W5 G o_a10 o_s3, W5 G o_a11 o_fo, W5 G o_a12 o_sv, [(f_a0, eI G 60 f_x)], [(n_a0, eI G 64 n_x)], [(l_a0, eI G 64 l_x)], [(d_a0, eI G 64 d_x)], [(k_a0, eI G 60 k_x)], [(c_a0, eI G 60 c_x)], [(t_a0, eI G 12 t_x)]]) H := hP
          have hD : va_D A (flt [W6o G o_a0 o_a4 o_a11 o_a12 o_a5 o_a1 o_a3 o_hs, W0 G o_a1 o_a2 o_cs o_ln, W2 G o_a3 o_kd o_fk o_hd o_va o_le o_mo, W5 G o_a4 o_cu, W1h G o_a5 o_a6 o_a7 o_a8 o_a9 o_a10 o_ol o_tt, W5 G o_a7 o_s0, W5 G o_a8 o_s1, W5 G o_a9 o_s2, W5 G o_a10 o_s3, W5 G o_a11 o_fo, W5 G o_a12 o_sv, [(f_a0, eI G 60 f_x)], [(n_a0, eI G 64 n_x)], [(l_a0, eI G 64 l_x)], [(d_a0, eI G 64 d_x)], [(k_a0, eI G 60 k_x)], [(c_a0, eI G 60 c_x)], [(t_a0, eI G 12 t_x)]]) := hD
          refine lv_iload hx hb dL_files_139 (lv_at hl 0 rfl) ?_
          refine zr_iadd (x := sumI l_x (x12_72).toNat) (y := z122) hx hb dL_files_141 ?_
          obtain ⟨r133, h134⟩ := h129
          obtain ⟨b135, h136⟩ := h134
          refine zr_iald (n := 60) (f := f_x) (i := (sumI l_x (x12_72).toNat) + z122) hx hb hK hP 104 rfl r133 b135 dL_files_142 ?_
          refine lv_istore (lv' := [(14, .int (iI (f_x ((sumI l_x (x12_72).toNat) + z122)))), (13, .int (iI z122)), (10, .int (iI (n_x x12_72))), (12, .int (iI x12_72)), (11, .int (iI x11_8)), (9, .int (iI (kdZ l_x d_x (0 : Int) (t_x 10).toNat))), (0, .ref o_a0), (1, .ref f_a0), (2, .ref n_a0), (3, .ref l_a0), (4, .ref d_a0), (5, .ref k_a0), (6, .ref c_a0), (7, .ref t_a0), (8, .int (iI x))]) hx hb dL_files_143 hl (by decide) rfl (fun ls hl => ?_)
          refine lv_aload_n hx hb dL_files_145 rfl (lv_at hl 6 rfl) ?_
          refine lv_iload hx hb dL_files_146 (lv_at hl 2 rfl) ?_
          refine lv_iload hx hb dL_files_148 (lv_at hl 1 rfl) ?_
          refine lv_iconst (v := iI 0) hx hb dL_files_150 rfl ?_
          obtain ⟨g137, g138, h139⟩ := h136
          obtain ⟨b140, h141⟩ := h139
          obtain ⟨b142, h143⟩ := h141
          refine zq_viR (As := [.int (iI (n_x x12_72)), .int (iI z122), .int (iI 0)]) (rest := []) (c_X6_row l G o_a0 o_a1 o_a2 o_a3 o_a4 o_a5 o_a6 o_a7 o_a8 o_a9 o_a10 o_a11 o_a12 o_cu o_fo o_sv o_hs o_ol o_tt o_s0 o_s1 o_s2 o_s3 o_cs o_ln o_kd o_fk o_hd o_va o_le o_mo (n_x x12_72) z122 0 g137 g138 r_o_cu r_o_fo r_o_sv r_o_hs r_o_ol r_o_tt r_o_s0 r_o_s1 r_o_s2 r_o_s3 r_o_cs r_o_ln r_o_kd r_o_fk r_o_hd r_o_va r_o_le r_o_mo (r_n_x x12_72) r124 rg_0 b140 b142) ⟨hx, hb, hml, hown, hts⟩ (cwV 3 hts gL_files_X6_row rfl rfl rfl hdX6_row ⟨Nat.le_of_ble_eq_true rfl, Nat.le_of_ble_eq_true rfl⟩) hK hP hD hS hA rfl rfl [0, 1, 2, 3, 4, 5, 6, 7, 8, 9, 10, 11, 12, 13, 14, 15, 16, 17, 18, 19, 20, 21, 22, 23, 24, 25, 26, 27, 28, 29, 30, 31, 32, 33, 34, 35, 36, 37, 38, 39, 40, 41, 42, 43, 44, 45, 46, 47, 48, 49, 50, 51, 52, 53, 54, 55, 56, 57, 58, 59, 60, 61, 62, 63, 64, 65, 66, 67, 68, 69, 70, 71, 72, 73, 74, 75, 76, 77, 78, 79, 80, 81, 82, 83, 84, 85, 86, 87, 88, 89, 90, 91, 92, 93, 94, 95, 96, 97, 98, 99, 100, 101, 102, 103] rfl rfl rfl hl.1 rfl (Nat.le_of_ble_eq_true rfl) dL_files_151 ⟨Nat.zero_le _, Nat.zero_le _⟩ (fun z145 H locs hw hP hD hS => ?_)
          obtain ⟨r147, h146⟩ := hw
          have h148 := h143 z145 r147 h146
          have hP : va_P G.1 vwCl (flt [W6o G o_a0 o_a4 o_a11 o_a12 o_a5 o_a1 o_a3 o_hs, W0 G o_a1 o_a2 o_cs o_ln, W2 G o_a3 o_kd o_fk o_hd o_va o_le o_mo, W5 G o_a4 o_cu, W1h G o_a5 o_a6 o_a7 o_a8 o_a9 o_a10 o_ol o_tt, W5 G o_a7 o_s0, W5 G o_a8 o_s1, W5 G o_a9 o_s2, W5 G o_a10 o_s3, W5 G o_a11 o_fo, W5 G o_a12 o_sv, [(f_a0, eI G 60 f_x)], [(n_a0, eI G 64 n_x)], [(l_a0, eI G 64 l_x)], [(d_a0, eI G 64 d_x)], [(k_a0, eI G 60 k_x)], [(c_a0, eI G 60 c_x)], [(t_a0, eI G 12 t_x)]]) H := hP
          have hD : va_D A (flt [W6o G o_a0 o_a4 o_a11 o_a12 o_a5 o_a1 o_a3 o_hs, W0 G o_a1 o_a2 o_cs o_ln, W2 G o_a3 o_kd o_fk o_hd o_va o_le o_mo, W5 G o_a4 o_cu, W1h G o_a5 o_a6 o_a7 o_a8 o_a9 o_a10 o_ol o_tt, W5 G o_a7 o_s0, W5 G o_a8 o_s1, W5 G o_a9 o_s2, W5 G o_a10 o_s3, W5 G o_a11 o_fo, W5 G o_a12 o_sv, [(f_a0, eI G 60 f_x)], [(n_a0, eI G 64 n_x)], [(l_a0, eI G 64 l_x)], [(d_a0, eI G 64 d_x)], [(k_a0, eI G 60 k_x)], [(c_a0, eI G 60 c_x)], [(t_a0, eI G 12 t_x)]]) := hD
          refine lv_aload hx hb dL_files_154 (lv_at hl 11 rfl) ?_
          refine lv_iload hx hb dL_files_156 (lv_at hl 0 rfl) ?_
          obtain ⟨b149, h150⟩ := h148
          refine zr_iald (n := 60) (f := k_x) (i := f_x ((sumI l_x (x12_72).toNat) + z122)) hx hb hK hP 108 rfl (r_f_x ((sumI l_x (x12_72).toNat) + z122)) b149 dL_files_158 ?_
          refine zr_icmp_ne (tgt := 208) (x := z145) (y := k_x (f_x ((sumI l_x (x12_72).toNat) + z122))) hx hb r147 (r_k_x (f_x ((sumI l_x (x12_72).toNat) + z122))) dL_files_159 (by decide) (fun c151 => ?_) (fun c151 => ?_)
          · have h154 := h150.2 c151
            refine lv_iconst (v := iI 0) hx hb dL_files_208 rfl ?_
            exact zr_zret (z := 0) hx hb hr hlocks hK (Or.inl rfl) () hP hD hS dL_files_209 ⟨rg_0, h154⟩
          · have h155 := h150.1 c151
            refine lv_aload_n hx hb dL_files_162 rfl (lv_at hl 6 rfl) ?_
            refine lv_iload hx hb dL_files_163 (lv_at hl 2 rfl) ?_
            refine lv_iload hx hb dL_files_165 (lv_at hl 1 rfl) ?_
            refine lv_iconst (v := iI 1) hx hb dL_files_167 rfl ?_
            obtain ⟨g156, g157, h158⟩ := h155
            obtain ⟨b159, h160⟩ := h158
            obtain ⟨b161, h162⟩ := h160
            refine zq_viR (As := [.int (iI (n_x x12_72)), .int (iI z122), .int (iI 1)]) (rest := []) (c_X6_row l G o_a0 o_a1 o_a2 o_a3 o_a4 o_a5 o_a6 o_a7 o_a8 o_a9 o_a10 o_a11 o_a12 o_cu o_fo o_sv o_hs o_ol o_tt o_s0 o_s1 o_s2 o_s3 o_cs o_ln o_kd o_fk o_hd o_va o_le o_mo (n_x x12_72) z122 1 g156 g157 r_o_cu r_o_fo r_o_sv r_o_hs r_o_ol r_o_tt r_o_s0 r_o_s1 r_o_s2 r_o_s3 r_o_cs r_o_ln r_o_kd r_o_fk r_o_hd r_o_va r_o_le r_o_mo (r_n_x x12_72) r124 rg_1 b159 b161) ⟨hx, hb, hml, hown, hts⟩ (cwV 3 hts gL_files_X6_row rfl rfl rfl hdX6_row ⟨Nat.le_of_ble_eq_true rfl, Nat.le_of_ble_eq_true rfl⟩) hK hP hD hS hA rfl rfl [0, 1, 2, 3, 4, 5, 6, 7, 8, 9, 10, 11, 12, 13, 14, 15, 16, 17, 18, 19, 20, 21, 22, 23, 24, 25, 26, 27, 28, 29, 30, 31, 32, 33, 34, 35, 36, 37, 38, 39, 40, 41, 42, 43, 44, 45, 46, 47, 48, 49, 50, 51, 52, 53, 54, 55, 56, 57, 58, 59, 60, 61, 62, 63, 64, 65, 66, 67, 68, 69, 70, 71, 72, 73, 74, 75, 76, 77, 78, 79, 80, 81, 82, 83, 84, 85, 86, 87, 88, 89, 90, 91, 92, 93, 94, 95, 96, 97, 98, 99, 100, 101, 102, 103] rfl rfl rfl hl.1 rfl (Nat.le_of_ble_eq_true rfl) dL_files_168 ⟨Nat.zero_le _, Nat.zero_le _⟩ (fun z164 H locs hw hP hD hS => ?_)
            obtain ⟨r166, h165⟩ := hw
            have h167 := h162 z164 r166 h165
            have hP : va_P G.1 vwCl (flt [W6o G o_a0 o_a4 o_a11 o_a12 o_a5 o_a1 o_a3 o_hs, W0 G o_a1 o_a2 o_cs o_ln, W2 G o_a3 o_kd o_fk o_hd o_va o_le o_mo, W5 G o_a4 o_cu, W1h G o_a5 o_a6 o_a7 o_a8 o_a9 o_a10 o_ol o_tt, W5 G o_a7 o_s0, W5 G o_a8 o_s1, W5 G o_a9 o_s2, W5 G o_a10 o_s3, W5 G o_a11 o_fo, W5 G o_a12 o_sv, [(f_a0, eI G 60 f_x)], [(n_a0, eI G 64 n_x)], [(l_a0, eI G 64 l_x)], [(d_a0, eI G 64 d_x)], [(k_a0, eI G 60 k_x)], [(c_a0, eI G 60 c_x)], [(t_a0, eI G 12 t_x)]]) H := hP
            have hD : va_D A (flt [W6o G o_a0 o_a4 o_a11 o_a12 o_a5 o_a1 o_a3 o_hs, W0 G o_a1 o_a2 o_cs o_ln, W2 G o_a3 o_kd o_fk o_hd o_va o_le o_mo, W5 G o_a4 o_cu, W1h G o_a5 o_a6 o_a7 o_a8 o_a9 o_a10 o_ol o_tt, W5 G o_a7 o_s0, W5 G o_a8 o_s1, W5 G o_a9 o_s2, W5 G o_a10 o_s3, W5 G o_a11 o_fo, W5 G o_a12 o_sv, [(f_a0, eI G 60 f_x)], [(n_a0, eI G 64 n_x)], [(l_a0, eI G 64 l_x)], [(d_a0, eI G 64 d_x)], [(k_a0, eI G 60 k_x)], [(c_a0, eI G 60 c_x)], [(t_a0, eI G 12 t_x)]]) := hD
            refine lv_iload hx hb dL_files_171 (lv_at hl 0 rfl) ?_
            refine zr_icmp_ne (tgt := 208) (x := z164) (y := f_x ((sumI l_x (x12_72).toNat) + z122)) hx hb r166 (r_f_x ((sumI l_x (x12_72).toNat) + z122)) dL_files_173 (by decide) (fun c168 => ?_) (fun c168 => ?_)
            · have h171 := h167.2 c168
              refine lv_iconst (v := iI 0) hx hb dL_files_208 rfl ?_
              exact zr_zret (z := 0) hx hb hr hlocks hK (Or.inl rfl) () hP hD hS dL_files_209 ⟨rg_0, h171⟩
            · have h172 := h167.1 c168
              refine lv_aload_n hx hb dL_files_176 rfl (lv_at hl 6 rfl) ?_
              refine lv_iload hx hb dL_files_177 (lv_at hl 2 rfl) ?_
              refine lv_iload hx hb dL_files_179 (lv_at hl 1 rfl) ?_
              refine lv_iconst (v := iI 2) hx hb dL_files_181 rfl ?_
              obtain ⟨g173, g174, h175⟩ := h172
              obtain ⟨b176, h177⟩ := h175
              obtain ⟨b178, h179⟩ := h177
              refine zq_viR (As := [.int (iI (n_x x12_72)), .int (iI z122), .int (iI 2)]) (rest := []) (c_X6_row l G o_a0 o_a1 o_a2 o_a3 o_a4 o_a5 o_a6 o_a7 o_a8 o_a9 o_a10 o_a11 o_a12 o_cu o_fo o_sv o_hs o_ol o_tt o_s0 o_s1 o_s2 o_s3 o_cs o_ln o_kd o_fk o_hd o_va o_le o_mo (n_x x12_72) z122 2 g173 g174 r_o_cu r_o_fo r_o_sv r_o_hs r_o_ol r_o_tt r_o_s0 r_o_s1 r_o_s2 r_o_s3 r_o_cs r_o_ln r_o_kd r_o_fk r_o_hd r_o_va r_o_le r_o_mo (r_n_x x12_72) r124 rg_2 b176 b178) ⟨hx, hb, hml, hown, hts⟩ (cwV 3 hts gL_files_X6_row rfl rfl rfl hdX6_row ⟨Nat.le_of_ble_eq_true rfl, Nat.le_of_ble_eq_true rfl⟩) hK hP hD hS hA rfl rfl [0, 1, 2, 3, 4, 5, 6, 7, 8, 9, 10, 11, 12, 13, 14, 15, 16, 17, 18, 19, 20, 21, 22, 23, 24, 25, 26, 27, 28, 29, 30, 31, 32, 33, 34, 35, 36, 37, 38, 39, 40, 41, 42, 43, 44, 45, 46, 47, 48, 49, 50, 51, 52, 53, 54, 55, 56, 57, 58, 59, 60, 61, 62, 63, 64, 65, 66, 67, 68, 69, 70, 71, 72, 73, 74, 75, 76, 77, 78, 79, 80, 81, 82, 83, 84, 85, 86, 87, 88, 89, 90, 91, 92, 93, 94, 95, 96, 97, 98, 99, 100, 101, 102, 103] rfl rfl rfl hl.1 rfl (Nat.le_of_ble_eq_true rfl) dL_files_182 ⟨Nat.zero_le _, Nat.zero_le _⟩ (fun z181 H locs hw hP hD hS => ?_)
              obtain ⟨r183, h182⟩ := hw
              have h184 := h179 z181 r183 h182
              have hP : va_P G.1 vwCl (flt [W6o G o_a0 o_a4 o_a11 o_a12 o_a5 o_a1 o_a3 o_hs, W0 G o_a1 o_a2 o_cs o_ln, W2 G o_a3 o_kd o_fk o_hd o_va o_le o_mo, W5 G o_a4 o_cu, W1h G o_a5 o_a6 o_a7 o_a8 o_a9 o_a10 o_ol o_tt, W5 G o_a7 o_s0, W5 G o_a8 o_s1, W5 G o_a9 o_s2, W5 G o_a10 o_s3, W5 G o_a11 o_fo, W5 G o_a12 o_sv, [(f_a0, eI G 60 f_x)], [(n_a0, eI G 64 n_x)], [(l_a0, eI G 64 l_x)], [(d_a0, eI G 64 d_x)], [(k_a0, eI G 60 k_x)], [(c_a0, eI G 60 c_x)], [(t_a0, eI G 12 t_x)]]) H := hP
              have hD : va_D A (flt [W6o G o_a0 o_a4 o_a11 o_a12 o_a5 o_a1 o_a3 o_hs, W0 G o_a1 o_a2 o_cs o_ln, W2 G o_a3 o_kd o_fk o_hd o_va o_le o_mo, W5 G o_a4 o_cu, W1h G o_a5 o_a6 o_a7 o_a8 o_a9 o_a10 o_ol o_tt, W5 G o_a7 o_s0, W5 G o_a8 o_s1, W5 G o_a9 o_s2, W5 G o_a10 o_s3, W5 G o_a11 o_fo, W5 G o_a12 o_sv, [(f_a0, eI G 60 f_x)], [(n_a0, eI G 64 n_x)], [(l_a0, eI G 64 l_x)], [(d_a0, eI G 64 d_x)], [(k_a0, eI G 60 k_x)], [(c_a0, eI G 60 c_x)], [(t_a0, eI G 12 t_x)]]) := hD
              refine lv_aload hx hb dL_files_185 (lv_at hl 12 rfl) ?_
              refine lv_iload hx hb dL_files_187 (lv_at hl 0 rfl) ?_
              refine zr_iald (n := 60) (f := c_x) (i := f_x ((sumI l_x (x12_72).toNat) + z122)) hx hb hK hP 109 rfl (r_f_x ((sumI l_x (x12_72).toNat) + z122)) b149 dL_files_189 ?_
              refine zr_icmp_ne (tgt := 208) (x := z181) (y := c_x (f_x ((sumI l_x (x12_72).toNat) + z122))) hx hb r183 (r_c_x (f_x ((sumI l_x (x12_72).toNat) + z122))) dL_files_190 (by decide) (fun c185 => ?_) (fun c185 => ?_)
              · have h188 := h184.2 c185
                refine lv_iconst (v := iI 0) hx hb dL_files_208 rfl ?_
                exact zr_zret (z := 0) hx hb hr hlocks hK (Or.inl rfl) () hP hD hS dL_files_209 ⟨rg_0, h188⟩
              · have h189 := h184.1 c185
                refine lv_aload_n hx hb dL_files_193 rfl (lv_at hl 6 rfl) ?_
                refine lv_iload hx hb dL_files_194 (lv_at hl 2 rfl) ?_
                refine lv_aload_n hx hb dL_files_196 rfl (lv_at hl 9 rfl) ?_
                refine lv_iload hx hb dL_files_197 (lv_at hl 3 rfl) ?_
                refine zr_iald (n := 64) (f := l_x) (i := x12_72) hx hb hK hP 106 rfl rx12_72 b84 dL_files_199 ?_
                refine lv_iconst (v := iI 0) hx hb dL_files_200 rfl ?_
                obtain ⟨g190, g191, h192⟩ := h189
                obtain ⟨b193, h194⟩ := h192
                obtain ⟨b195, h196⟩ := h194
                refine zq_viR (As := [.int (iI (n_x x12_72)), .int (iI (l_x x12_72)), .int (iI 0)]) (rest := []) (c_X6_row l G o_a0 o_a1 o_a2 o_a3 o_a4 o_a5 o_a6 o_a7 o_a8 o_a9 o_a10 o_a11 o_a12 o_cu o_fo o_sv o_hs o_ol o_tt o_s0 o_s1 o_s2 o_s3 o_cs o_ln o_kd o_fk o_hd o_va o_le o_mo (n_x x12_72) (l_x x12_72) 0 g190 g191 r_o_cu r_o_fo r_o_sv r_o_hs r_o_ol r_o_tt r_o_s0 r_o_s1 r_o_s2 r_o_s3 r_o_cs r_o_ln r_o_kd r_o_fk r_o_hd r_o_va r_o_le r_o_mo (r_n_x x12_72) (r_l_x x12_72) rg_0 b193 b195) ⟨hx, hb, hml, hown, hts⟩ (cwV 3 hts gL_files_X6_row rfl rfl rfl hdX6_row ⟨Nat.le_of_ble_eq_true rfl, Nat.le_of_ble_eq_true rfl⟩) hK hP hD hS hA rfl rfl [0, 1, 2, 3, 4, 5, 6, 7, 8, 9, 10, 11, 12, 13, 14, 15, 16, 17, 18, 19, 20, 21, 22, 23, 24, 25, 26, 27, 28, 29, 30, 31, 32, 33, 34, 35, 36, 37, 38, 39, 40, 41, 42, 43, 44, 45, 46, 47, 48, 49, 50, 51, 52, 53, 54, 55, 56, 57, 58, 59, 60, 61, 62, 63, 64, 65, 66, 67, 68, 69, 70, 71, 72, 73, 74, 75, 76, 77, 78, 79, 80, 81, 82, 83, 84, 85, 86, 87, 88, 89, 90, 91, 92, 93, 94, 95, 96, 97, 98, 99, 100, 101, 102, 103] rfl rfl rfl hl.1 rfl (Nat.le_of_ble_eq_true rfl) dL_files_201 ⟨Nat.zero_le _, Nat.zero_le _⟩ (fun z198 H locs hw hP hD hS => ?_)
                obtain ⟨r200, h199⟩ := hw
                have h201 := h196 z198 r200 h199
                have hP : va_P G.1 vwCl (flt [W6o G o_a0 o_a4 o_a11 o_a12 o_a5 o_a1 o_a3 o_hs, W0 G o_a1 o_a2 o_cs o_ln, W2 G o_a3 o_kd o_fk o_hd o_va o_le o_mo, W5 G o_a4 o_cu, W1h G o_a5 o_a6 o_a7 o_a8 o_a9 o_a10 o_ol o_tt, W5 G o_a7 o_s0, W5 G o_a8 o_s1, W5 G o_a9 o_s2, W5 G o_a10 o_s3, W5 G o_a11 o_fo, W5 G o_a12 o_sv, [(f_a0, eI G 60 f_x)], [(n_a0, eI G 64 n_x)], [(l_a0, eI G 64 l_x)], [(d_a0, eI G 64 d_x)], [(k_a0, eI G 60 k_x)], [(c_a0, eI G 60 c_x)], [(t_a0, eI G 12 t_x)]]) H := hP
                have hD : va_D A (flt [W6o G o_a0 o_a4 o_a11 o_a12 o_a5 o_a1 o_a3 o_hs, W0 G o_a1 o_a2 o_cs o_ln, W2 G o_a3 o_kd o_fk o_hd o_va o_le o_mo, W5 G o_a4 o_cu, W1h G o_a5 o_a6 o_a7 o_a8 o_a9 o_a10 o_ol o_tt, W5 G o_a7 o_s0, W5 G o_a8 o_s1, W5 G o_a9 o_s2, W5 G o_a10 o_s3, W5 G o_a11 o_fo, W5 G o_a12 o_sv, [(f_a0, eI G 60 f_x)], [(n_a0, eI G 64 n_x)], [(l_a0, eI G 64 l_x)], [(d_a0, eI G 64 d_x)], [(k_a0, eI G 60 k_x)], [(c_a0, eI G 60 c_x)], [(t_a0, eI G 12 t_x)]]) := hD
                refine lv_iconst (v := iI (-1)) hx hb dL_files_204 rfl ?_
                refine zr_icmp_eq (tgt := 210) (x := z198) (y := (-1)) hx hb r200 rg_m1 dL_files_205 (by decide) (fun c202 => ?_) (fun c202 => ?_)
                · have h205 := h201.1 c202
                  obtain ⟨r206, h207⟩ := h205
                  refine zr_iinc (x := x11_8) (lv' := [(11, .int (iI (x11_8 + 1))), (14, .int (iI (f_x ((sumI l_x (x12_72).toNat) + z122)))), (13, .int (iI z122)), (10, .int (iI (n_x x12_72))), (12, .int (iI x12_72)), (9, .int (iI (kdZ l_x d_x (0 : Int) (t_x 10).toNat))), (0, .ref o_a0), (1, .ref f_a0), (2, .ref n_a0), (3, .ref l_a0), (4, .ref d_a0), (5, .ref k_a0), (6, .ref c_a0), (7, .ref t_a0), (8, .int (iI x))]) hx hb dL_files_210 hl (k := 4) rfl (by decide) rfl (fun ls hl => ?_)
                  refine lv_goto (tgt := 18) hx hb dL_files_213 (by decide) ?_
                  obtain ⟨h208, h209⟩ := h207
                  exact ih13 ((n_x x12_72, x11_8 + 1)) _ _ _ ⟨⟨(r_n_x x12_72), r206⟩, h208⟩ h209 hP hD hS (lv_sub hl [0, 3, 5, 6, 7, 8, 9, 10, 11, 12, 13, 14] rfl)
                · have h210 := h201.2 c202
                  refine lv_iconst (v := iI 0) hx hb dL_files_208 rfl ?_
                  exact zr_zret (z := 0) hx hb hr hlocks hK (Or.inl rfl) () hP hD hS dL_files_209 ⟨rg_0, h210⟩
        · have h211 := h114.2 c115
          refine lv_iconst (v := iI 0) hx hb dL_files_119 rfl ?_
          exact zr_zret (z := 0) hx hb hr hlocks hK (Or.inl rfl) () hP hD hS dL_files_120 ⟨rg_0, h211⟩
    · have h212 := h79.1 c80
      refine lv_aload hx hb dL_files_41 (lv_at hl 9 rfl) ?_
      refine lv_iload hx hb dL_files_43 (lv_at hl 0 rfl) ?_
      obtain ⟨b213, h214⟩ := h212
      refine zr_iald (n := 64) (f := d_x) (i := x13_72) hx hb hK hP 107 rfl rx13_72 b213 dL_files_45 ?_
      refine zr_if_ne (tgt := 79) (x := d_x x13_72) hx hb (r_d_x x13_72) dL_files_46 (by decide) (fun c215 => ?_) (fun c215 => ?_)
      · have h218 := h214.2 c215
        refine lv_iload hx hb dL_files_79 (lv_at hl 1 rfl) ?_
        refine lv_istore (lv' := [(12, .int (iI x12_72)), (13, .int (iI x13_72)), (11, .int (iI x11_8)), (10, .int (iI x10_8)), (9, .int (iI (kdZ l_x d_x (0 : Int) (t_x 10).toNat))), (0, .ref o_a0), (1, .ref f_a0), (2, .ref n_a0), (3, .ref l_a0), (4, .ref d_a0), (5, .ref k_a0), (6, .ref c_a0), (7, .ref t_a0), (8, .int (iI x))]) hx hb dL_files_81 hl (by decide) rfl (fun ls hl => ?_)
        obtain ⟨r219, h220⟩ := h218
        refine zr_iinc (x := x13_72) (lv' := [(13, .int (iI (x13_72 + 1))), (12, .int (iI x12_72)), (11, .int (iI x11_8)), (10, .int (iI x10_8)), (9, .int (iI (kdZ l_x d_x (0 : Int) (t_x 10).toNat))), (0, .ref o_a0), (1, .ref f_a0), (2, .ref n_a0), (3, .ref l_a0), (4, .ref d_a0), (5, .ref k_a0), (6, .ref c_a0), (7, .ref t_a0), (8, .int (iI x))]) hx hb dL_files_83 hl (k := 1) rfl (by decide) rfl (fun ls hl => ?_)
        refine lv_goto (tgt := 31) hx hb dL_files_86 (by decide) ?_
        obtain ⟨h221, h222⟩ := h220
        exact ih77 ((x12_72, x13_72 + 1)) _ _ _ ⟨⟨rx12_72, r219⟩, h221⟩ h222 hP hD hS (lv_sub hl [0, 1, 2, 3, 4, 5, 6, 7, 8, 9, 10, 11, 12, 13] rfl)
      · have h223 := h214.1 c215
        refine lv_aload_n hx hb dL_files_49 rfl (lv_at hl 7 rfl) ?_
        refine lv_iload hx hb dL_files_50 (lv_at hl 0 rfl) ?_
        refine zr_iald (n := 64) (f := n_x) (i := x13_72) hx hb hK hP 105 rfl rx13_72 b213 dL_files_52 ?_
        refine lv_iload hx hb dL_files_53 (lv_at hl 3 rfl) ?_
        refine zr_icmp_le (tgt := 79) (x := n_x x13_72) (y := x10_8) hx hb (r_n_x x13_72) rx10_8 dL_files_55 (by decide) (fun c224 => ?_) (fun c224 => ?_)
        · have h227 := h223.2 c224
          refine lv_iload hx hb dL_files_79 (lv_at hl 1 rfl) ?_
          refine lv_istore (lv' := [(12, .int (iI x12_72)), (13, .int (iI x13_72)), (11, .int (iI x11_8)), (10, .int (iI x10_8)), (9, .int (iI (kdZ l_x d_x (0 : Int) (t_x 10).toNat))), (0, .ref o_a0), (1, .ref f_a0), (2, .ref n_a0), (3, .ref l_a0), (4, .ref d_a0), (5, .ref k_a0), (6, .ref c_a0), (7, .ref t_a0), (8, .int (iI x))]) hx hb dL_files_81 hl (by decide) rfl (fun ls hl => ?_)
          obtain ⟨r228, h229⟩ := h227
          refine zr_iinc (x := x13_72) (lv' := [(13, .int (iI (x13_72 + 1))), (12, .int (iI x12_72)), (11, .int (iI x11_8)), (10, .int (iI x10_8)), (9, .int (iI (kdZ l_x d_x (0 : Int) (t_x 10).toNat))), (0, .ref o_a0), (1, .ref f_a0), (2, .ref n_a0), (3, .ref l_a0), (4, .ref d_a0), (5, .ref k_a0), (6, .ref c_a0), (7, .ref t_a0), (8, .int (iI x))]) hx hb dL_files_83 hl (k := 1) rfl (by decide) rfl (fun ls hl => ?_)
          refine lv_goto (tgt := 31) hx hb dL_files_86 (by decide) ?_
          obtain ⟨h230, h231⟩ := h229
          exact ih77 ((x12_72, x13_72 + 1)) _ _ _ ⟨⟨rx12_72, r228⟩, h230⟩ h231 hP hD hS (lv_sub hl [0, 1, 2, 3, 4, 5, 6, 7, 8, 9, 10, 11, 12, 13] rfl)
        · have h232 := h223.1 c224
          refine lv_iload hx hb dL_files_58 (lv_at hl 1 rfl) ?_
          refine zr_if_lt (tgt := 74) (x := x12_72) hx hb rx12_72 dL_files_60 (by decide) (fun c233 => ?_) (fun c233 => ?_)
          · have h236 := h232.1 c233
            refine lv_iload hx hb dL_files_74 (lv_at hl 0 rfl) ?_
            refine lv_goto (tgt := 81) hx hb dL_files_76 (by decide) ?_
            refine lv_istore (lv' := [(12, .int (iI x13_72)), (13, .int (iI x13_72)), (11, .int (iI x11_8)), (10, .int (iI x10_8)), (9, .int (iI (kdZ l_x d_x (0 : Int) (t_x 10).toNat))), (0, .ref o_a0), (1, .ref f_a0), (2, .ref n_a0), (3, .ref l_a0), (4, .ref d_a0), (5, .ref k_a0), (6, .ref c_a0), (7, .ref t_a0), (8, .int (iI x))]) hx hb dL_files_81 hl (by decide) rfl (fun ls hl => ?_)
            obtain ⟨r237, h238⟩ := h236
            refine zr_iinc (x := x13_72) (lv' := [(13, .int (iI (x13_72 + 1))), (12, .int (iI x13_72)), (11, .int (iI x11_8)), (10, .int (iI x10_8)), (9, .int (iI (kdZ l_x d_x (0 : Int) (t_x 10).toNat))), (0, .ref o_a0), (1, .ref f_a0), (2, .ref n_a0), (3, .ref l_a0), (4, .ref d_a0), (5, .ref k_a0), (6, .ref c_a0), (7, .ref t_a0), (8, .int (iI x))]) hx hb dL_files_83 hl (k := 1) rfl (by decide) rfl (fun ls hl => ?_)
            refine lv_goto (tgt := 31) hx hb dL_files_86 (by decide) ?_
            obtain ⟨h239, h240⟩ := h238
            exact ih77 ((x13_72, x13_72 + 1)) _ _ _ ⟨⟨rx13_72, r237⟩, h239⟩ h240 hP hD hS (lv_sub hl [0, 1, 2, 3, 4, 5, 6, 7, 8, 9, 10, 11, 12, 13] rfl)
          · have h241 := h232.2 c233
            refine lv_aload_n hx hb dL_files_63 rfl (lv_at hl 7 rfl) ?_
            refine lv_iload hx hb dL_files_64 (lv_at hl 0 rfl) ?_
            refine zr_iald (n := 64) (f := n_x) (i := x13_72) hx hb hK hP 105 rfl rx13_72 b213 dL_files_66 ?_
            refine lv_aload_n hx hb dL_files_67 rfl (lv_at hl 7 rfl) ?_
            refine lv_iload hx hb dL_files_68 (lv_at hl 1 rfl) ?_
            obtain ⟨b242, h243⟩ := h241
            refine zr_iald (n := 64) (f := n_x) (i := x12_72) hx hb hK hP 105 rfl rx12_72 b242 dL_files_70 ?_
            refine zr_icmp_ge (tgt := 79) (x := n_x x13_72) (y := n_x x12_72) hx hb (r_n_x x13_72) (r_n_x x12_72) dL_files_71 (by decide) (fun c244 => ?_) (fun c244 => ?_)
            · have h247 := h243.2 c244
              refine lv_iload hx hb dL_files_79 (lv_at hl 1 rfl) ?_
              refine lv_istore (lv' := [(12, .int (iI x12_72)), (13, .int (iI x13_72)), (11, .int (iI x11_8)), (10, .int (iI x10_8)), (9, .int (iI (kdZ l_x d_x (0 : Int) (t_x 10).toNat))), (0, .ref o_a0), (1, .ref f_a0), (2, .ref n_a0), (3, .ref l_a0), (4, .ref d_a0), (5, .ref k_a0), (6, .ref c_a0), (7, .ref t_a0), (8, .int (iI x))]) hx hb dL_files_81 hl (by decide) rfl (fun ls hl => ?_)
              obtain ⟨r248, h249⟩ := h247
              refine zr_iinc (x := x13_72) (lv' := [(13, .int (iI (x13_72 + 1))), (12, .int (iI x12_72)), (11, .int (iI x11_8)), (10, .int (iI x10_8)), (9, .int (iI (kdZ l_x d_x (0 : Int) (t_x 10).toNat))), (0, .ref o_a0), (1, .ref f_a0), (2, .ref n_a0), (3, .ref l_a0), (4, .ref d_a0), (5, .ref k_a0), (6, .ref c_a0), (7, .ref t_a0), (8, .int (iI x))]) hx hb dL_files_83 hl (k := 1) rfl (by decide) rfl (fun ls hl => ?_)
              refine lv_goto (tgt := 31) hx hb dL_files_86 (by decide) ?_
              obtain ⟨h250, h251⟩ := h249
              exact ih77 ((x12_72, x13_72 + 1)) _ _ _ ⟨⟨rx12_72, r248⟩, h250⟩ h251 hP hD hS (lv_sub hl [0, 1, 2, 3, 4, 5, 6, 7, 8, 9, 10, 11, 12, 13] rfl)
            · have h252 := h243.1 c244
              refine lv_iload hx hb dL_files_74 (lv_at hl 0 rfl) ?_
              refine lv_goto (tgt := 81) hx hb dL_files_76 (by decide) ?_
              refine lv_istore (lv' := [(12, .int (iI x13_72)), (13, .int (iI x13_72)), (11, .int (iI x11_8)), (10, .int (iI x10_8)), (9, .int (iI (kdZ l_x d_x (0 : Int) (t_x 10).toNat))), (0, .ref o_a0), (1, .ref f_a0), (2, .ref n_a0), (3, .ref l_a0), (4, .ref d_a0), (5, .ref k_a0), (6, .ref c_a0), (7, .ref t_a0), (8, .int (iI x))]) hx hb dL_files_81 hl (by decide) rfl (fun ls hl => ?_)
              obtain ⟨r253, h254⟩ := h252
              refine zr_iinc (x := x13_72) (lv' := [(13, .int (iI (x13_72 + 1))), (12, .int (iI x13_72)), (11, .int (iI x11_8)), (10, .int (iI x10_8)), (9, .int (iI (kdZ l_x d_x (0 : Int) (t_x 10).toNat))), (0, .ref o_a0), (1, .ref f_a0), (2, .ref n_a0), (3, .ref l_a0), (4, .ref d_a0), (5, .ref k_a0), (6, .ref c_a0), (7, .ref t_a0), (8, .int (iI x))]) hx hb dL_files_83 hl (k := 1) rfl (by decide) rfl (fun ls hl => ?_)
              refine lv_goto (tgt := 31) hx hb dL_files_86 (by decide) ?_
              obtain ⟨h255, h256⟩ := h254
              exact ih77 ((x13_72, x13_72 + 1)) _ _ _ ⟨⟨rx13_72, r253⟩, h255⟩ h256 hP hD hS (lv_sub hl [0, 1, 2, 3, 4, 5, 6, 7, 8, 9, 10, 11, 12, 13] rfl)
theorem c_L_files (l : Launch) (G : ZG) (o_a0 : Nat) (o_a1 : Nat) (o_a2 : Nat) (o_a3 : Nat) (o_a4 : Nat → Nat) (o_a5 : Nat) (o_a6 : Nat) (o_a7 : Nat → Nat) (o_a8 : Nat → Nat) (o_a9 : Nat → Nat) (o_a10 : Nat → Nat) (o_a11 : Nat → Nat) (o_a12 : Nat → Nat) (f_a0 : Nat) (n_a0 : Nat) (l_a0 : Nat) (d_a0 : Nat) (k_a0 : Nat) (c_a0 : Nat) (t_a0 : Nat) (o_cu : SS) (o_fo : SS) (o_sv : SS) (o_hs : Int) (o_ol : Int) (o_tt : Int) (o_s0 : SS) (o_s1 : SS) (o_s2 : SS) (o_s3 : SS) (o_cs : Int → Int) (o_ln : Int) (o_kd : Int) (o_fk : Int) (o_hd : Int) (o_va : Int) (o_le : Int) (o_mo : Int) (f_x : Int → Int) (n_x : Int → Int) (l_x : Int → Int) (d_x : Int → Int) (k_x : Int → Int) (c_x : Int → Int) (t_x : Int → Int) (x : Int) (mm : SS) (nn : Int) (mg : Int → Int) (r_o_cu : RG o_cu) (r_o_fo : RG o_fo) (r_o_sv : RG o_sv) (r_o_hs : rg o_hs) (r_o_ol : rg o_ol) (r_o_tt : rg o_tt) (r_o_s0 : RG o_s0) (r_o_s1 : RG o_s1) (r_o_s2 : RG o_s2) (r_o_s3 : RG o_s3) (r_o_cs : rgA o_cs) (r_o_ln : rg o_ln) (r_o_kd : rg o_kd) (r_o_fk : rg o_fk) (r_o_hd : rg o_hd) (r_o_va : rg o_va) (r_o_le : rg o_le) (r_o_mo : rg o_mo) (r_f_x : rgA f_x) (r_n_x : rgA n_x) (r_l_x : rgA l_x) (r_d_x : rgA d_x) (r_k_x : rgA k_x) (r_c_x : rgA c_x) (r_t_x : rgA t_x) (r_x : rg x) (p0 : Rep6 o_cu o_sv o_hs o_ol o_tt o_s0 o_s1 o_s2 o_s3 o_cs o_ln mm nn) (p1 : 0 ≤ nn ∧ nn ≤ 600) (p2 : LV f_x n_x l_x d_x mg k_x t_x (mm.2 0)) (p3 : LC c_x (mm.2 0)) : ZI l G yL_files wsL_files 4 92 [.ref o_a0, .ref f_a0, .ref n_a0, .ref l_a0, .ref d_a0, .ref k_a0, .ref c_a0, .ref t_a0, .int (iI x)] (flt [W6o G o_a0 o_a4 o_a11 o_a12 o_a5 o_a1 o_a3 o_hs, W0 G o_a1 o_a2 o_cs o_ln, W2 G o_a3 o_kd o_fk o_hd o_va o_le o_mo, W5 G o_a4 o_cu, W1h G o_a5 o_a6 o_a7 o_a8 o_a9 o_a10 o_ol o_tt, W5 G o_a7 o_s0, W5 G o_a8 o_s1, W5 G o_a9 o_s2, W5 G o_a10 o_s3, W5 G o_a11 o_fo, W5 G o_a12 o_sv, [(f_a0, eI G 60 f_x)], [(n_a0, eI G 64 n_x)], [(l_a0, eI G 64 l_x)], [(d_a0, eI G 64 d_x)], [(k_a0, eI G 60 k_x)], [(c_a0, eI G 60 c_x)], [(t_a0, eI G 12 t_x)]]) (fun u : Unit => flt [W6o G o_a0 o_a4 o_a11 o_a12 o_a5 o_a1 o_a3 o_hs, W0 G o_a1 o_a2 o_cs o_ln, W2 G o_a3 o_kd o_fk o_hd o_va o_le o_mo, W5 G o_a4 o_cu, W1h G o_a5 o_a6 o_a7 o_a8 o_a9 o_a10 o_ol o_tt, W5 G o_a7 o_s0, W5 G o_a8 o_s1, W5 G o_a9 o_s2, W5 G o_a10 o_s3, W5 G o_a11 o_fo, W5 G o_a12 o_sv, [(f_a0, eI G 60 f_x)], [(n_a0, eI G 64 n_x)], [(l_a0, eI G 64 l_x)], [(d_a0, eI G 64 d_x)], [(k_a0, eI G 60 k_x)], [(c_a0, eI G 60 c_x)], [(t_a0, eI G 12 t_x)]]) (fun (zq : Int) (u : Unit) => rg zq ∧ (zq = 1)) :=
  c0_L_files l G o_a0 o_a1 o_a2 o_a3 o_a4 o_a5 o_a6 o_a7 o_a8 o_a9 o_a10 o_a11 o_a12 f_a0 n_a0 l_a0 d_a0 k_a0 c_a0 t_a0 o_cu o_fo o_sv o_hs o_ol o_tt o_s0 o_s1 o_s2 o_s3 o_cs o_ln o_kd o_fk o_hd o_va o_le o_mo f_x n_x l_x d_x k_x c_x t_x x (fun r => r = 1) r_o_cu r_o_fo r_o_sv r_o_hs r_o_ol r_o_tt r_o_s0 r_o_s1 r_o_s2 r_o_s3 r_o_cs r_o_ln r_o_kd r_o_fk r_o_hd r_o_va r_o_le r_o_mo r_f_x r_n_x r_l_x r_d_x r_k_x r_c_x r_t_x r_x (sp_L_files o_cu o_fo o_sv o_hs o_ol o_tt o_s0 o_s1 o_s2 o_s3 o_cs o_ln o_kd o_fk o_hd o_va o_le o_mo f_x n_x l_x d_x k_x c_x t_x x mm nn mg r_o_cu r_o_fo r_o_sv r_o_hs r_o_ol r_o_tt r_o_s0 r_o_s1 r_o_s2 r_o_s3 r_o_cs r_o_ln r_o_kd r_o_fk r_o_hd r_o_va r_o_le r_o_mo r_f_x r_n_x r_l_x r_d_x r_k_x r_c_x r_t_x r_x p0 p1 p2 p3)
