theorem imX6_foretell_X6 : ∀ w ∈ wsX60, w ∈ wsX6_foretell := fun _ h => (List.mem_cons_of_mem _ (List.mem_append_left _ (List.mem_append_left _ (List.mem_append_left _ (List.mem_append_right _ h)))))
theorem hdX6_foretell : yX6_foretell.cls = RX6 ∧ yX6_foretell.cls ≠ "java/lang/invoke/MethodHandle" ∧ yX6_foretell.cls ≠ "java/lang/invoke/VarHandle" ∧ (parseMethodDescriptor yX6_foretell.desc).map (fun d => d.parameters.length) = some 1 := by decide +kernel
set_option maxRecDepth 100000 in
set_option maxHeartbeats 4000000 in
theorem c0_X6_foretell (l : Launch) (G : ZG) (a0 : Nat) (a1 : Nat) (a2 : Nat) (a3 : Nat) (a4 : Nat → Nat) (a5 : Nat) (a6 : Nat) (a7 : Nat → Nat) (a8 : Nat → Nat) (a9 : Nat → Nat) (a10 : Nat → Nat) (a11 : Nat → Nat) (a12 : Nat → Nat) (cu : SS) (fo : SS) (sv : SS) (hs : Int) (ol : Int) (tt : Int) (s0 : SS) (s1 : SS) (s2 : SS) (s3 : SS) (cs : Int → Int) (ln : Int) (kd : Int) (fk : Int) (hd : Int) (va : Int) (le : Int) (mo : Int) (size : Int) (P : Int → SS → Prop) (r_cu : RG cu) (r_fo : RG fo) (r_sv : RG sv) (r_hs : rg hs) (r_ol : rg ol) (r_tt : rg tt) (r_s0 : RG s0) (r_s1 : RG s1) (r_s2 : RG s2) (r_s3 : RG s3) (r_cs : rgA cs) (r_ln : rg ln) (r_kd : rg kd) (r_fk : rg fk) (r_hd : rg hd) (r_va : rg va) (r_le : rg le) (r_mo : rg mo) (r_size : rg size) (hwp : wp_X6_foretell cu fo sv hs ol tt s0 s1 s2 s3 cs ln kd fk hd va le mo size P) : ZI l G yX6_foretell wsX6_foretell 5 127 [.ref a0, .int (iI size)] (flt [W6o G a0 a4 a11 a12 a5 a1 a3 hs, W0 G a1 a2 cs ln, W2 G a3 kd fk hd va le mo, W5 G a4 cu, W1h G a5 a6 a7 a8 a9 a10 ol tt, W5 G a7 s0, W5 G a8 s1, W5 G a9 s2, W5 G a10 s3, W5 G a11 fo, W5 G a12 sv]) (fun u : SS => flt [W6o G a0 a4 a11 a12 a5 a1 a3 hs, W0 G a1 a2 cs ln, W2 G a3 kd fk hd va le mo, W5 G a4 cu, W1h G a5 a6 a7 a8 a9 a10 ol tt, W5 G a7 s0, W5 G a8 s1, W5 G a9 s2, W5 G a10 s3, W5 G a11 u, W5 G a12 sv]) (fun (z : Int) (u : SS) => rg z ∧ RG u ∧ P z u) := by
  unfold wp_X6_foretell at hwp
  refine zm_i (cc := cX6_foretell) (maxL := 2) (ret := some .boolean) (own := RX6) (lvs := [(0, .ref a0), (1, .int (iI size))]) (by decide) rfl rfl (Nat.le_of_ble_eq_true rfl) rfl ?_
  intro p e sT m args below meth c ls A hx hb hr hml hown hts hlocks hK hP hD hS hA hl
  have k1 := hts (.fieldLink RX6 16 "GrantedSort" "foretold" "LGrantedSort$SortState;") (List.mem_of_getElem? (i := 1) rfl)
  have k2 := hts (.fieldLink RX6 10 "GrantedSort" "current" "LGrantedSort$SortState;") (List.mem_of_getElem? (i := 2) rfl)
  refine lv_aload_n hx hb dX6_foretell_0 rfl (lv_at hl 0 rfl) ?_
  refine va_get (v := .ref (a11 0)) (ci := 6) (C := RX6) (T := TX6) (N := 7) hx hb hts imX6_foretell_X6 hown hK hP 0 rfl rfl 1 (by decide) k1 (fun _ h9 => h9) rfl dX6_foretell_1 ?_
  refine lv_aload_n hx hb dX6_foretell_4 rfl (lv_at hl 0 rfl) ?_
  refine va_get (v := .ref (a4 0)) (ci := 6) (C := RX6) (T := TX6) (N := 7) hx hb hts imX6_foretell_X6 hown hK hP 0 rfl rfl 0 (by decide) k2 (fun _ h9 => h9) rfl dX6_foretell_5 ?_
  obtain ⟨b1, h2⟩ := hwp
  refine zq_vv (As := [.ref (a4 0)]) (rest := []) (L := [W6o G a0 a4 a11 a12 a5 a1 a3 hs, W0 G a1 a2 cs ln, W2 G a3 kd fk hd va le mo, W5 G a4 cu, W1h G a5 a6 a7 a8 a9 a10 ol tt, W5 G a7 s0, W5 G a8 s1, W5 G a9 s2, W5 G a10 s3, W5 G a11 fo, W5 G a12 sv]) (LC := [W5 G a11 fo, W5 G a4 cu]) (LR := [W6o G a0 a4 a11 a12 a5 a1 a3 hs, W0 G a1 a2 cs ln, W2 G a3 kd fk hd va le mo, W1h G a5 a6 a7 a8 a9 a10 ol tt, W5 G a7 s0, W5 G a8 s1, W5 G a9 s2, W5 G a10 s3, W5 G a12 sv]) (LC1 := fun (u_4 : Unit) => [W5 G a11 cu, W5 G a4 cu]) (L2 := fun (u_4 : Unit) => [W6o G a0 a4 a11 a12 a5 a1 a3 hs, W0 G a1 a2 cs ln, W2 G a3 kd fk hd va le mo, W5 G a4 cu, W1h G a5 a6 a7 a8 a9 a10 ol tt, W5 G a7 s0, W5 G a8 s1, W5 G a9 s2, W5 G a10 s3, W5 G a11 cu, W5 G a12 sv]) (c_X5_copyFrom l G a11 a4 fo cu r_fo r_cu b1) ⟨hx, hb, hml, hown, hts⟩ (cwV 1 hts gX6_foretell_X5_copyFrom rfl rfl rfl hdX5_copyFrom ⟨Nat.le_of_ble_eq_true rfl, Nat.le_of_ble_eq_true rfl⟩) hK hP hD hS hA rfl rfl [9, 3] [0, 1, 2, 4, 5, 6, 7, 8, 10] [2, 3, 4, 1, 5, 6, 7, 8, 9, 0, 10] rfl rfl 11 rfl (by decide) (fun _ => rfl) (fun _ => rfl) (by decide) rfl hl.1 rfl (Nat.le_of_ble_eq_true rfl) dX6_foretell_8 ⟨Nat.zero_le _, Nat.zero_le _⟩ (fun u_4 H locs hw hP hD hS => ?_)
  have r3 := hw
  have hP : va_P G.1 vwCl (flt [W6o G a0 a4 a11 a12 a5 a1 a3 hs, W0 G a1 a2 cs ln, W2 G a3 kd fk hd va le mo, W5 G a4 cu, W1h G a5 a6 a7 a8 a9 a10 ol tt, W5 G a7 s0, W5 G a8 s1, W5 G a9 s2, W5 G a10 s3, W5 G a11 cu, W5 G a12 sv]) H := hP
  have hD : va_D A (flt [W6o G a0 a4 a11 a12 a5 a1 a3 hs, W0 G a1 a2 cs ln, W2 G a3 kd fk hd va le mo, W5 G a4 cu, W1h G a5 a6 a7 a8 a9 a10 ol tt, W5 G a7 s0, W5 G a8 s1, W5 G a9 s2, W5 G a10 s3, W5 G a11 cu, W5 G a12 sv]) := hD
  refine lv_aload_n hx hb dX6_foretell_11 rfl (lv_at hl 0 rfl) ?_
  refine va_get (v := .ref (a11 0)) (ci := 6) (C := RX6) (T := TX6) (N := 7) hx hb hts imX6_foretell_X6 hown hK hP 0 rfl rfl 1 (by decide) k1 (fun _ h9 => h9) rfl dX6_foretell_12 ?_
  refine lv_iload_n hx hb dX6_foretell_15 rfl (lv_at hl 1 rfl) ?_
  obtain ⟨g6, h7⟩ := h2
  obtain ⟨b8, h9⟩ := h7
  obtain ⟨b10, h11⟩ := h9
  obtain ⟨b12, h13⟩ := h11
  obtain ⟨b14, h15⟩ := h13
  obtain ⟨b16, h17⟩ := h15
  obtain ⟨b18, h19⟩ := h17
  refine zq_vi (As := [.int (iI size)]) (rest := []) (L := [W6o G a0 a4 a11 a12 a5 a1 a3 hs, W0 G a1 a2 cs ln, W2 G a3 kd fk hd va le mo, W5 G a4 cu, W1h G a5 a6 a7 a8 a9 a10 ol tt, W5 G a7 s0, W5 G a8 s1, W5 G a9 s2, W5 G a10 s3, W5 G a11 cu, W5 G a12 sv]) (LC := [W5 G a11 cu]) (LR := [W6o G a0 a4 a11 a12 a5 a1 a3 hs, W0 G a1 a2 cs ln, W2 G a3 kd fk hd va le mo, W5 G a4 cu, W1h G a5 a6 a7 a8 a9 a10 ol tt, W5 G a7 s0, W5 G a8 s1, W5 G a9 s2, W5 G a10 s3, W5 G a12 sv]) (LC1 := fun (u_21 : SS) => [W5 G a11 u_21]) (L2 := fun (u_21 : SS) => [W6o G a0 a4 a11 a12 a5 a1 a3 hs, W0 G a1 a2 cs ln, W2 G a3 kd fk hd va le mo, W5 G a4 cu, W1h G a5 a6 a7 a8 a9 a10 ol tt, W5 G a7 s0, W5 G a8 s1, W5 G a9 s2, W5 G a10 s3, W5 G a11 u_21, W5 G a12 sv]) (c_X5_resize l G a11 cu size g6 r3 r_size b8 b10 b12 b14 b16 b18) ⟨hx, hb, hml, hown, hts⟩ (cwV 1 hts gX6_foretell_X5_resize rfl rfl rfl hdX5_resize ⟨Nat.le_of_ble_eq_true rfl, Nat.le_of_ble_eq_true rfl⟩) hK hP hD hS hA rfl rfl [9] [0, 1, 2, 3, 4, 5, 6, 7, 8, 10] [1, 2, 3, 4, 5, 6, 7, 8, 9, 0, 10] rfl rfl 11 rfl (by decide) (fun _ => rfl) (fun _ => rfl) (by decide) rfl hl.1 rfl (Nat.le_of_ble_eq_true rfl) dX6_foretell_16 ⟨Nat.zero_le _, Nat.zero_le _⟩ (fun z22 u_21 H locs hw hP hD hS => ?_)
  obtain ⟨u_s20, rfl⟩ : ∃ q, q = u_21 := ⟨_, rfl⟩
  obtain ⟨r24, ru_s20, h23⟩ := hw
  have h25 := h19 z22 u_s20 r24 ru_s20 h23
  have hP : va_P G.1 vwCl (flt [W6o G a0 a4 a11 a12 a5 a1 a3 hs, W0 G a1 a2 cs ln, W2 G a3 kd fk hd va le mo, W5 G a4 cu, W1h G a5 a6 a7 a8 a9 a10 ol tt, W5 G a7 s0, W5 G a8 s1, W5 G a9 s2, W5 G a10 s3, W5 G a11 u_s20, W5 G a12 sv]) H := hP
  have hD : va_D A (flt [W6o G a0 a4 a11 a12 a5 a1 a3 hs, W0 G a1 a2 cs ln, W2 G a3 kd fk hd va le mo, W5 G a4 cu, W1h G a5 a6 a7 a8 a9 a10 ol tt, W5 G a7 s0, W5 G a8 s1, W5 G a9 s2, W5 G a10 s3, W5 G a11 u_s20, W5 G a12 sv]) := hD
  refine lv_pop hx hb dX6_foretell_19 rfl ?_
  refine lv_aload_n hx hb dX6_foretell_20 rfl (lv_at hl 0 rfl) ?_
  refine va_get (v := .ref (a11 0)) (ci := 6) (C := RX6) (T := TX6) (N := 7) hx hb hts imX6_foretell_X6 hown hK hP 0 rfl rfl 1 (by decide) k1 (fun _ h9 => h9) rfl dX6_foretell_21 ?_
  obtain ⟨b26, h27⟩ := h25
  obtain ⟨b28, h29⟩ := h27
  refine zq_viR (As := []) (rest := []) (c_X5_canRunToEnd l G a11 u_s20 ru_s20 b26 b28) ⟨hx, hb, hml, hown, hts⟩ (cwV 0 hts gX6_foretell_X5_canRunToEnd rfl rfl rfl hdX5_canRunToEnd ⟨Nat.le_of_ble_eq_true rfl, Nat.le_of_ble_eq_true rfl⟩) hK hP hD hS hA rfl rfl [76, 77, 78, 79, 80, 81, 82, 83, 84, 85, 86, 87, 88, 89] rfl rfl rfl hl.1 rfl (Nat.le_of_ble_eq_true rfl) dX6_foretell_24 ⟨Nat.zero_le _, Nat.zero_le _⟩ (fun z31 H locs hw hP hD hS => ?_)
  obtain ⟨rfl, r32⟩ := hw
  have hP : va_P G.1 vwCl (flt [W6o G a0 a4 a11 a12 a5 a1 a3 hs, W0 G a1 a2 cs ln, W2 G a3 kd fk hd va le mo, W5 G a4 cu, W1h G a5 a6 a7 a8 a9 a10 ol tt, W5 G a7 s0, W5 G a8 s1, W5 G a9 s2, W5 G a10 s3, W5 G a11 u_s20, W5 G a12 sv]) H := hP
  have hD : va_D A (flt [W6o G a0 a4 a11 a12 a5 a1 a3 hs, W0 G a1 a2 cs ln, W2 G a3 kd fk hd va le mo, W5 G a4 cu, W1h G a5 a6 a7 a8 a9 a10 ol tt, W5 G a7 s0, W5 G a8 s1, W5 G a9 s2, W5 G a10 s3, W5 G a11 u_s20, W5 G a12 sv]) := hD
  refine zr_ifB_ne (tgt := 32)  hx hb dX6_foretell_27 (by decide) (fun c33 => ?_) (fun c33 => ?_)
  · have h36 := h29.1 c33
    refine lv_aload_n hx hb dX6_foretell_32 rfl (lv_at hl 0 rfl) ?_
    refine va_get (v := .ref (a11 0)) (ci := 6) (C := RX6) (T := TX6) (N := 7) hx hb hts imX6_foretell_X6 hown hK hP 0 rfl rfl 1 (by decide) k1 (fun _ h9 => h9) rfl dX6_foretell_33 ?_
    obtain ⟨g37, h38⟩ := h36
    obtain ⟨b39, h40⟩ := h38
    obtain ⟨b41, h42⟩ := h40
    obtain ⟨b43, h44⟩ := h42
    obtain ⟨b45, h46⟩ := h44
    refine zq_vi (As := []) (rest := []) (L := [W6o G a0 a4 a11 a12 a5 a1 a3 hs, W0 G a1 a2 cs ln, W2 G a3 kd fk hd va le mo, W5 G a4 cu, W1h G a5 a6 a7 a8 a9 a10 ol tt, W5 G a7 s0, W5 G a8 s1, W5 G a9 s2, W5 G a10 s3, W5 G a11 u_s20, W5 G a12 sv]) (LC := [W5 G a11 u_s20]) (LR := [W6o G a0 a4 a11 a12 a5 a1 a3 hs, W0 G a1 a2 cs ln, W2 G a3 kd fk hd va le mo, W5 G a4 cu, W1h G a5 a6 a7 a8 a9 a10 ol tt, W5 G a7 s0, W5 G a8 s1, W5 G a9 s2, W5 G a10 s3, W5 G a12 sv]) (LC1 := fun (u_48 : SS) => [W5 G a11 u_48]) (L2 := fun (u_48 : SS) => [W6o G a0 a4 a11 a12 a5 a1 a3 hs, W0 G a1 a2 cs ln, W2 G a3 kd fk hd va le mo, W5 G a4 cu, W1h G a5 a6 a7 a8 a9 a10 ol tt, W5 G a7 s0, W5 G a8 s1, W5 G a9 s2, W5 G a10 s3, W5 G a11 u_48, W5 G a12 sv]) (c_X5_runToEnd l G a11 u_s20 g37 ru_s20 b39 b41 b43 b45) ⟨hx, hb, hml, hown, hts⟩ (cwV 0 hts gX6_foretell_X5_runToEnd rfl rfl rfl hdX5_runToEnd ⟨Nat.le_of_ble_eq_true rfl, Nat.le_of_ble_eq_true rfl⟩) hK hP hD hS hA rfl rfl [9] [0, 1, 2, 3, 4, 5, 6, 7, 8, 10] [1, 2, 3, 4, 5, 6, 7, 8, 9, 0, 10] rfl rfl 11 rfl (by decide) (fun _ => rfl) (fun _ => rfl) (by decide) rfl hl.1 rfl (Nat.le_of_ble_eq_true rfl) dX6_foretell_36 ⟨Nat.zero_le _, Nat.zero_le _⟩ (fun z49 u_48 H locs hw hP hD hS => ?_)
    obtain ⟨u_s47, rfl⟩ : ∃ q, q = u_48 := ⟨_, rfl⟩
    obtain ⟨r51, ru_s47, h50⟩ := hw
    have h52 := h46 z49 u_s47 r51 ru_s47 h50
    have hP : va_P G.1 vwCl (flt [W6o G a0 a4 a11 a12 a5 a1 a3 hs, W0 G a1 a2 cs ln, W2 G a3 kd fk hd va le mo, W5 G a4 cu, W1h G a5 a6 a7 a8 a9 a10 ol tt, W5 G a7 s0, W5 G a8 s1, W5 G a9 s2, W5 G a10 s3, W5 G a11 u_s47, W5 G a12 sv]) H := hP
    have hD : va_D A (flt [W6o G a0 a4 a11 a12 a5 a1 a3 hs, W0 G a1 a2 cs ln, W2 G a3 kd fk hd va le mo, W5 G a4 cu, W1h G a5 a6 a7 a8 a9 a10 ol tt, W5 G a7 s0, W5 G a8 s1, W5 G a9 s2, W5 G a10 s3, W5 G a11 u_s47, W5 G a12 sv]) := hD
    refine lv_pop hx hb dX6_foretell_39 rfl ?_
    refine lv_iconst (v := iI 1) hx hb dX6_foretell_40 rfl ?_
    exact zr_zret (z := 1) hx hb hr hlocks hK (Or.inr rfl) (u_s47) hP hD hS dX6_foretell_41 ⟨rg_1, ru_s47, h52⟩
  · have h53 := h29.2 c33
    refine lv_iconst (v := iI 0) hx hb dX6_foretell_30 rfl ?_
    exact zr_zret (z := 0) hx hb hr hlocks hK (Or.inl rfl) (u_s20) hP hD hS dX6_foretell_31 ⟨rg_0, ru_s20, h53⟩
theorem c_X6_foretell (l : Launch) (G : ZG) (a0 : Nat) (a1 : Nat) (a2 : Nat) (a3 : Nat) (a4 : Nat → Nat) (a5 : Nat) (a6 : Nat) (a7 : Nat → Nat) (a8 : Nat → Nat) (a9 : Nat → Nat) (a10 : Nat → Nat) (a11 : Nat → Nat) (a12 : Nat → Nat) (cu : SS) (fo : SS) (sv : SS) (hs : Int) (ol : Int) (tt : Int) (s0 : SS) (s1 : SS) (s2 : SS) (s3 : SS) (cs : Int → Int) (ln : Int) (kd : Int) (fk : Int) (hd : Int) (va : Int) (le : Int) (mo : Int) (size : Int) (m : SS) (n : Int) (r_cu : RG cu) (r_fo : RG fo) (r_sv : RG sv) (r_hs : rg hs) (r_ol : rg ol) (r_tt : rg tt) (r_s0 : RG s0) (r_s1 : RG s1) (r_s2 : RG s2) (r_s3 : RG s3) (r_cs : rgA cs) (r_ln : rg ln) (r_kd : rg kd) (r_fk : rg fk) (r_hd : rg hd) (r_va : rg va) (r_le : rg le) (r_mo : rg mo) (r_size : rg size) (p0 : Rep6 cu sv hs ol tt s0 s1 s2 s3 cs ln m n) (p1 : 0 ≤ n ∧ n ≤ 600) (p2 : 2 ≤ size ∧ size ≤ 20) : ZI l G yX6_foretell wsX6_foretell 5 127 [.ref a0, .int (iI size)] (flt [W6o G a0 a4 a11 a12 a5 a1 a3 hs, W0 G a1 a2 cs ln, W2 G a3 kd fk hd va le mo, W5 G a4 cu, W1h G a5 a6 a7 a8 a9 a10 ol tt, W5 G a7 s0, W5 G a8 s1, W5 G a9 s2, W5 G a10 s3, W5 G a11 fo, W5 G a12 sv]) (fun u : SS => flt [W6o G a0 a4 a11 a12 a5 a1 a3 hs, W0 G a1 a2 cs ln, W2 G a3 kd fk hd va le mo, W5 G a4 cu, W1h G a5 a6 a7 a8 a9 a10 ol tt, W5 G a7 s0, W5 G a8 s1, W5 G a9 s2, W5 G a10 s3, W5 G a11 u, W5 G a12 sv]) (fun (zq : Int) (u : SS) => rg zq ∧ RG u ∧ ((zq = 1 ∧ crZ (graZ (m.2 0) size) ∧ ∃ y, AllZ (finZ (graZ (m.2 0) size)) y ∧ Rep u y) ∨ (zq = 0 ∧ ¬ crZ (graZ (m.2 0) size)))) :=
  c0_X6_foretell l G a0 a1 a2 a3 a4 a5 a6 a7 a8 a9 a10 a11 a12 cu fo sv hs ol tt s0 s1 s2 s3 cs ln kd fk hd va le mo size (fun r fo' => (r = 1 ∧ crZ (graZ (m.2 0) size) ∧ ∃ y, AllZ (finZ (graZ (m.2 0) size)) y ∧ Rep fo' y) ∨ (r = 0 ∧ ¬ crZ (graZ (m.2 0) size))) r_cu r_fo r_sv r_hs r_ol r_tt r_s0 r_s1 r_s2 r_s3 r_cs r_ln r_kd r_fk r_hd r_va r_le r_mo r_size (sp_X6_foretell cu fo sv hs ol tt s0 s1 s2 s3 cs ln kd fk hd va le mo size m n r_cu r_fo r_sv r_hs r_ol r_tt r_s0 r_s1 r_s2 r_s3 r_cs r_ln r_kd r_fk r_hd r_va r_le r_mo r_size p0 p1 p2)
theorem imX6_costsWith_X5 : ∀ w ∈ wsX50, w ∈ wsX6_costsWith := fun _ h => (List.mem_cons_of_mem _ (List.mem_append_left _ (List.mem_append_left _ (List.mem_append_right _ h))))
theorem imX6_costsWith_X6 : ∀ w ∈ wsX60, w ∈ wsX6_costsWith := fun _ h => (List.mem_cons_of_mem _ (List.mem_append_left _ (List.mem_append_left _ (List.mem_append_left _ (List.mem_append_right _ h)))))
theorem hdX6_costsWith : yX6_costsWith.cls = RX6 ∧ yX6_costsWith.cls ≠ "java/lang/invoke/MethodHandle" ∧ yX6_costsWith.cls ≠ "java/lang/invoke/VarHandle" ∧ (parseMethodDescriptor yX6_costsWith.desc).map (fun d => d.parameters.length) = some 1 := by decide +kernel
set_option maxRecDepth 100000 in
set_option maxHeartbeats 4000000 in
theorem c0_X6_costsWith (l : Launch) (G : ZG) (a0 : Nat) (a1 : Nat) (a2 : Nat) (a3 : Nat) (a4 : Nat → Nat) (a5 : Nat) (a6 : Nat) (a7 : Nat → Nat) (a8 : Nat → Nat) (a9 : Nat → Nat) (a10 : Nat → Nat) (a11 : Nat → Nat) (a12 : Nat → Nat) (cu : SS) (fo : SS) (sv : SS) (hs : Int) (ol : Int) (tt : Int) (s0 : SS) (s1 : SS) (s2 : SS) (s3 : SS) (cs : Int → Int) (ln : Int) (kd : Int) (fk : Int) (hd : Int) (va : Int) (le : Int) (mo : Int) (size : Int) (P : Int → SS → Prop) (r_cu : RG cu) (r_fo : RG fo) (r_sv : RG sv) (r_hs : rg hs) (r_ol : rg ol) (r_tt : rg tt) (r_s0 : RG s0) (r_s1 : RG s1) (r_s2 : RG s2) (r_s3 : RG s3) (r_cs : rgA cs) (r_ln : rg ln) (r_kd : rg kd) (r_fk : rg fk) (r_hd : rg hd) (r_va : rg va) (r_le : rg le) (r_mo : rg mo) (r_size : rg size) (hwp : wp_X6_costsWith cu fo sv hs ol tt s0 s1 s2 s3 cs ln kd fk hd va le mo size P) : ZI l G yX6_costsWith wsX6_costsWith 6 148 [.ref a0, .int (iI size)] (flt [W6o G a0 a4 a11 a12 a5 a1 a3 hs, W0 G a1 a2 cs ln, W2 G a3 kd fk hd va le mo, W5 G a4 cu, W1h G a5 a6 a7 a8 a9 a10 ol tt, W5 G a7 s0, W5 G a8 s1, W5 G a9 s2, W5 G a10 s3, W5 G a11 fo, W5 G a12 sv]) (fun u : SS => flt [W6o G a0 a4 a11 a12 a5 a1 a3 hs, W0 G a1 a2 cs ln, W2 G a3 kd fk hd va le mo, W5 G a4 cu, W1h G a5 a6 a7 a8 a9 a10 ol tt, W5 G a7 s0, W5 G a8 s1, W5 G a9 s2, W5 G a10 s3, W5 G a11 u, W5 G a12 sv]) (fun (z : Int) (u : SS) => rg z ∧ RG u ∧ P z u) := by
  unfold wp_X6_costsWith at hwp
  refine zm_i (cc := cX6_costsWith) (maxL := 2) (ret := some .int) (own := RX6) (lvs := [(0, .ref a0), (1, .int (iI size))]) (by decide) rfl rfl (Nat.le_of_ble_eq_true rfl) rfl ?_
  intro p e sT m args below meth c ls A hx hb hr hml hown hts hlocks hK hP hD hS hA hl
  have k1 := hts (.fieldLink RX6 16 "GrantedSort" "foretold" "LGrantedSort$SortState;") (List.mem_of_getElem? (i := 1) rfl)
  have k2 := hts (.fieldLink RX6 177 "GrantedSort$SortState" "costs" "I") (List.mem_of_getElem? (i := 2) rfl)
  have k3 := hts (.fieldLink RX6 10 "GrantedSort" "current" "LGrantedSort$SortState;") (List.mem_of_getElem? (i := 3) rfl)
  refine lv_iload_n hx hb dX6_costsWith_0 rfl (lv_at hl 1 rfl) ?_
  refine zc_si (As := [.int (iI size)]) (rest := []) (c_X6_isMemorySize l G size r_size) ⟨hx, hb, hml, hown, hts⟩ (va_cwS 1 hts gX6_costsWith_X6_isMemorySize rfl rfl rfl hdX6_isMemorySize ⟨Nat.le_of_ble_eq_true rfl, Nat.le_of_ble_eq_true rfl⟩) hK hP hD hS hA rfl hl.1 rfl (Nat.le_of_ble_eq_true rfl) dX6_costsWith_1 ⟨Nat.zero_le _, Nat.zero_le _⟩ (fun z2 H locs hw hP hD hS => ?_)
  obtain ⟨rfl, r3⟩ := hw
  have hP : va_P G.1 vwCl (flt [W6o G a0 a4 a11 a12 a5 a1 a3 hs, W0 G a1 a2 cs ln, W2 G a3 kd fk hd va le mo, W5 G a4 cu, W1h G a5 a6 a7 a8 a9 a10 ol tt, W5 G a7 s0, W5 G a8 s1, W5 G a9 s2, W5 G a10 s3, W5 G a11 fo, W5 G a12 sv]) H := hP
  have hD : va_D A (flt [W6o G a0 a4 a11 a12 a5 a1 a3 hs, W0 G a1 a2 cs ln, W2 G a3 kd fk hd va le mo, W5 G a4 cu, W1h G a5 a6 a7 a8 a9 a10 ol tt, W5 G a7 s0, W5 G a8 s1, W5 G a9 s2, W5 G a10 s3, W5 G a11 fo, W5 G a12 sv]) := hD
  refine zr_ifB_ne (tgt := 10)  hx hb dX6_costsWith_4 (by decide) (fun c4 => ?_) (fun c4 => ?_)
  · have h7 := hwp.1 c4
    refine lv_aload_n hx hb dX6_costsWith_10 rfl (lv_at hl 0 rfl) ?_
    refine lv_iload_n hx hb dX6_costsWith_11 rfl (lv_at hl 1 rfl) ?_
    obtain ⟨g8, g9, h10⟩ := h7
    obtain ⟨b11, h12⟩ := h10
    obtain ⟨b13, h14⟩ := h12
    obtain ⟨b15, h16⟩ := h14
    refine zq_vi (As := [.int (iI size)]) (rest := []) (L := [W6o G a0 a4 a11 a12 a5 a1 a3 hs, W0 G a1 a2 cs ln, W2 G a3 kd fk hd va le mo, W5 G a4 cu, W1h G a5 a6 a7 a8 a9 a10 ol tt, W5 G a7 s0, W5 G a8 s1, W5 G a9 s2, W5 G a10 s3, W5 G a11 fo, W5 G a12 sv]) (LC := [W6o G a0 a4 a11 a12 a5 a1 a3 hs, W0 G a1 a2 cs ln, W2 G a3 kd fk hd va le mo, W5 G a4 cu, W1h G a5 a6 a7 a8 a9 a10 ol tt, W5 G a7 s0, W5 G a8 s1, W5 G a9 s2, W5 G a10 s3, W5 G a11 fo, W5 G a12 sv]) (LR := []) (LC1 := fun (u_18 : SS) => [W6o G a0 a4 a11 a12 a5 a1 a3 hs, W0 G a1 a2 cs ln, W2 G a3 kd fk hd va le mo, W5 G a4 cu, W1h G a5 a6 a7 a8 a9 a10 ol tt, W5 G a7 s0, W5 G a8 s1, W5 G a9 s2, W5 G a10 s3, W5 G a11 u_18, W5 G a12 sv]) (L2 := fun (u_18 : SS) => [W6o G a0 a4 a11 a12 a5 a1 a3 hs, W0 G a1 a2 cs ln, W2 G a3 kd fk hd va le mo, W5 G a4 cu, W1h G a5 a6 a7 a8 a9 a10 ol tt, W5 G a7 s0, W5 G a8 s1, W5 G a9 s2, W5 G a10 s3, W5 G a11 u_18, W5 G a12 sv]) (c_X6_foretell l G a0 a1 a2 a3 a4 a5 a6 a7 a8 a9 a10 a11 a12 cu fo sv hs ol tt s0 s1 s2 s3 cs ln kd fk hd va le mo size g8 g9 r_cu r_fo r_sv r_hs r_ol r_tt r_s0 r_s1 r_s2 r_s3 r_cs r_ln r_kd r_fk r_hd r_va r_le r_mo r_size b11 b13 b15) ⟨hx, hb, hml, hown, hts⟩ (cwV 1 hts gX6_costsWith_X6_foretell rfl rfl rfl hdX6_foretell ⟨Nat.le_of_ble_eq_true rfl, Nat.le_of_ble_eq_true rfl⟩) hK hP hD hS hA rfl rfl [0, 1, 2, 3, 4, 5, 6, 7, 8, 9, 10] [] [0, 1, 2, 3, 4, 5, 6, 7, 8, 9, 10] rfl rfl 11 rfl (by decide) (fun _ => rfl) (fun _ => rfl) (by decide) rfl hl.1 rfl (Nat.le_of_ble_eq_true rfl) dX6_costsWith_12 ⟨Nat.zero_le _, Nat.zero_le _⟩ (fun z19 u_18 H locs hw hP hD hS => ?_)
    obtain ⟨u_fo17, rfl⟩ : ∃ q, q = u_18 := ⟨_, rfl⟩
    obtain ⟨r21, ru_fo17, h20⟩ := hw
    have h22 := h16 z19 u_fo17 r21 ru_fo17 h20
    have hP : va_P G.1 vwCl (flt [W6o G a0 a4 a11 a12 a5 a1 a3 hs, W0 G a1 a2 cs ln, W2 G a3 kd fk hd va le mo, W5 G a4 cu, W1h G a5 a6 a7 a8 a9 a10 ol tt, W5 G a7 s0, W5 G a8 s1, W5 G a9 s2, W5 G a10 s3, W5 G a11 u_fo17, W5 G a12 sv]) H := hP
    have hD : va_D A (flt [W6o G a0 a4 a11 a12 a5 a1 a3 hs, W0 G a1 a2 cs ln, W2 G a3 kd fk hd va le mo, W5 G a4 cu, W1h G a5 a6 a7 a8 a9 a10 ol tt, W5 G a7 s0, W5 G a8 s1, W5 G a9 s2, W5 G a10 s3, W5 G a11 u_fo17, W5 G a12 sv]) := hD
    refine zr_if_ne (tgt := 21) (x := z19) hx hb r21 dX6_costsWith_15 (by decide) (fun c23 => ?_) (fun c23 => ?_)
    · have h26 := h22.2 c23
      refine lv_aload_n hx hb dX6_costsWith_21 rfl (lv_at hl 0 rfl) ?_
      refine va_get (v := .ref (a11 0)) (ci := 6) (C := RX6) (T := TX6) (N := 7) hx hb hts imX6_costsWith_X6 hown hK hP 0 rfl rfl 1 (by decide) k1 (fun _ h9 => h9) rfl dX6_costsWith_22 ?_
      refine va_get (v := .int (iI (u_fo17.1 12))) (ci := 5) (C := RX5) (T := TX5) (N := 16) hx hb hts imX6_costsWith_X5 hown hK hP 76 rfl rfl 12 (by decide) k2 (fun _ h9 => h9) rfl dX6_costsWith_25 ?_
      refine lv_aload_n hx hb dX6_costsWith_28 rfl (lv_at hl 0 rfl) ?_
      refine va_get (v := .ref (a4 0)) (ci := 6) (C := RX6) (T := TX6) (N := 7) hx hb hts imX6_costsWith_X6 hown hK hP 0 rfl rfl 0 (by decide) k3 (fun _ h9 => h9) rfl dX6_costsWith_29 ?_
      refine va_get (v := .int (iI (cu.1 12))) (ci := 5) (C := RX5) (T := TX5) (N := 16) hx hb hts imX6_costsWith_X5 hown hK hP 4 rfl rfl 12 (by decide) k2 (fun _ h9 => h9) rfl dX6_costsWith_32 ?_
      refine zr_isub (x := (u_fo17.1 12)) (y := (cu.1 12)) hx hb dX6_costsWith_35 ?_
      obtain ⟨r27, h28⟩ := h26
      exact zr_iret (z := (u_fo17.1 12) - (cu.1 12)) hx hb hr hlocks hK (u_fo17) hP hD hS dX6_costsWith_36 ⟨r27, ru_fo17, h28⟩
    · have h29 := h22.1 c23
      refine lv_bipush (v := iI (-3)) hx hb dX6_costsWith_18 (by decide) ?_
      exact zr_iret (z := (-3)) hx hb hr hlocks hK (u_fo17) hP hD hS dX6_costsWith_20 ⟨rg_m3, ru_fo17, h29⟩
  · have h30 := hwp.2 c4
    refine lv_bipush (v := iI (-2)) hx hb dX6_costsWith_7 (by decide) ?_
    exact zr_iret (z := (-2)) hx hb hr hlocks hK (fo) hP hD hS dX6_costsWith_9 ⟨rg_m2, r_fo, h30⟩
theorem c_X6_costsWith (l : Launch) (G : ZG) (a0 : Nat) (a1 : Nat) (a2 : Nat) (a3 : Nat) (a4 : Nat → Nat) (a5 : Nat) (a6 : Nat) (a7 : Nat → Nat) (a8 : Nat → Nat) (a9 : Nat → Nat) (a10 : Nat → Nat) (a11 : Nat → Nat) (a12 : Nat → Nat) (cu : SS) (fo : SS) (sv : SS) (hs : Int) (ol : Int) (tt : Int) (s0 : SS) (s1 : SS) (s2 : SS) (s3 : SS) (cs : Int → Int) (ln : Int) (kd : Int) (fk : Int) (hd : Int) (va : Int) (le : Int) (mo : Int) (size : Int) (m : SS) (n : Int) (r_cu : RG cu) (r_fo : RG fo) (r_sv : RG sv) (r_hs : rg hs) (r_ol : rg ol) (r_tt : rg tt) (r_s0 : RG s0) (r_s1 : RG s1) (r_s2 : RG s2) (r_s3 : RG s3) (r_cs : rgA cs) (r_ln : rg ln) (r_kd : rg kd) (r_fk : rg fk) (r_hd : rg hd) (r_va : rg va) (r_le : rg le) (r_mo : rg mo) (r_size : rg size) (p0 : Rep6 cu sv hs ol tt s0 s1 s2 s3 cs ln m n) (p1 : 0 ≤ n ∧ n ≤ 600) : ZI l G yX6_costsWith wsX6_costsWith 6 148 [.ref a0, .int (iI size)] (flt [W6o G a0 a4 a11 a12 a5 a1 a3 hs, W0 G a1 a2 cs ln, W2 G a3 kd fk hd va le mo, W5 G a4 cu, W1h G a5 a6 a7 a8 a9 a10 ol tt, W5 G a7 s0, W5 G a8 s1, W5 G a9 s2, W5 G a10 s3, W5 G a11 fo, W5 G a12 sv]) (fun u : SS => flt [W6o G a0 a4 a11 a12 a5 a1 a3 hs, W0 G a1 a2 cs ln, W2 G a3 kd fk hd va le mo, W5 G a4 cu, W1h G a5 a6 a7 a8 a9 a10 ol tt, W5 G a7 s0, W5 G a8 s1, W5 G a9 s2, W5 G a10 s3, W5 G a11 u, W5 G a12 sv]) (fun (zq : Int) (u : SS) => rg zq ∧ RG u ∧ ((if 2 ≤ size ∧ size ≤ 20 then growZ (m.2 0) size 7 zq else zq = -2))) :=
  c0_X6_costsWith l G a0 a1 a2 a3 a4 a5 a6 a7 a8 a9 a10 a11 a12 cu fo sv hs ol tt s0 s1 s2 s3 cs ln kd fk hd va le mo size (fun r fo' => (if 2 ≤ size ∧ size ≤ 20 then growZ (m.2 0) size 7 r else r = -2)) r_cu r_fo r_sv r_hs r_ol r_tt r_s0 r_s1 r_s2 r_s3 r_cs r_ln r_kd r_fk r_hd r_va r_le r_mo r_size (sp_X6_costsWith cu fo sv hs ol tt s0 s1 s2 s3 cs ln kd fk hd va le mo size m n r_cu r_fo r_sv r_hs r_ol r_tt r_s0 r_s1 r_s2 r_s3 r_cs r_ln r_kd r_fk r_hd r_va r_le r_mo r_size p0 p1)
theorem imX6_mergesWith_X5 : ∀ w ∈ wsX50, w ∈ wsX6_mergesWith := fun _ h => (List.mem_cons_of_mem _ (List.mem_append_left _ (List.mem_append_left _ (List.mem_append_right _ h))))
theorem imX6_mergesWith_X6 : ∀ w ∈ wsX60, w ∈ wsX6_mergesWith := fun _ h => (List.mem_cons_of_mem _ (List.mem_append_left _ (List.mem_append_left _ (List.mem_append_left _ (List.mem_append_right _ h)))))
theorem hdX6_mergesWith : yX6_mergesWith.cls = RX6 ∧ yX6_mergesWith.cls ≠ "java/lang/invoke/MethodHandle" ∧ yX6_mergesWith.cls ≠ "java/lang/invoke/VarHandle" ∧ (parseMethodDescriptor yX6_mergesWith.desc).map (fun d => d.parameters.length) = some 1 := by decide +kernel
set_option maxRecDepth 100000 in
set_option maxHeartbeats 4000000 in
theorem c0_X6_mergesWith (l : Launch) (G : ZG) (a0 : Nat) (a1 : Nat) (a2 : Nat) (a3 : Nat) (a4 : Nat → Nat) (a5 : Nat) (a6 : Nat) (a7 : Nat → Nat) (a8 : Nat → Nat) (a9 : Nat → Nat) (a10 : Nat → Nat) (a11 : Nat → Nat) (a12 : Nat → Nat) (cu : SS) (fo : SS) (sv : SS) (hs : Int) (ol : Int) (tt : Int) (s0 : SS) (s1 : SS) (s2 : SS) (s3 : SS) (cs : Int → Int) (ln : Int) (kd : Int) (fk : Int) (hd : Int) (va : Int) (le : Int) (mo : Int) (size : Int) (P : Int → SS → Prop) (r_cu : RG cu) (r_fo : RG fo) (r_sv : RG sv) (r_hs : rg hs) (r_ol : rg ol) (r_tt : rg tt) (r_s0 : RG s0) (r_s1 : RG s1) (r_s2 : RG s2) (r_s3 : RG s3) (r_cs : rgA cs) (r_ln : rg ln) (r_kd : rg kd) (r_fk : rg fk) (r_hd : rg hd) (r_va : rg va) (r_le : rg le) (r_mo : rg mo) (r_size : rg size) (hwp : wp_X6_mergesWith cu fo sv hs ol tt s0 s1 s2 s3 cs ln kd fk hd va le mo size P) : ZI l G yX6_mergesWith wsX6_mergesWith 6 148 [.ref a0, .int (iI size)] (flt [W6o G a0 a4 a11 a12 a5 a1 a3 hs, W0 G a1 a2 cs ln, W2 G a3 kd fk hd va le mo, W5 G a4 cu, W1h G a5 a6 a7 a8 a9 a10 ol tt, W5 G a7 s0, W5 G a8 s1, W5 G a9 s2, W5 G a10 s3, W5 G a11 fo, W5 G a12 sv]) (fun u : SS => flt [W6o G a0 a4 a11 a12 a5 a1 a3 hs, W0 G a1 a2 cs ln, W2 G a3 kd fk hd va le mo, W5 G a4 cu, W1h G a5 a6 a7 a8 a9 a10 ol tt, W5 G a7 s0, W5 G a8 s1, W5 G a9 s2, W5 G a10 s3, W5 G a11 u, W5 G a12 sv]) (fun (z : Int) (u : SS) => rg z ∧ RG u ∧ P z u) := by
  unfold wp_X6_mergesWith at hwp
  refine zm_i (cc := cX6_mergesWith) (maxL := 2) (ret := some .int) (own := RX6) (lvs := [(0, .ref a0), (1, .int (iI size))]) (by decide) rfl rfl (Nat.le_of_ble_eq_true rfl) rfl ?_
  intro p e sT m args below meth c ls A hx hb hr hml hown hts hlocks hK hP hD hS hA hl
  have k1 := hts (.fieldLink RX6 16 "GrantedSort" "foretold" "LGrantedSort$SortState;") (List.mem_of_getElem? (i := 1) rfl)
  have k2 := hts (.fieldLink RX6 180 "GrantedSort$SortState" "mergesBegun" "I") (List.mem_of_getElem? (i := 2) rfl)
  have k3 := hts (.fieldLink RX6 10 "GrantedSort" "current" "LGrantedSort$SortState;") (List.mem_of_getElem? (i := 3) rfl)
  refine lv_iload_n hx hb dX6_mergesWith_0 rfl (lv_at hl 1 rfl) ?_
  refine zc_si (As := [.int (iI size)]) (rest := []) (c_X6_isMemorySize l G size r_size) ⟨hx, hb, hml, hown, hts⟩ (va_cwS 1 hts gX6_mergesWith_X6_isMemorySize rfl rfl rfl hdX6_isMemorySize ⟨Nat.le_of_ble_eq_true rfl, Nat.le_of_ble_eq_true rfl⟩) hK hP hD hS hA rfl hl.1 rfl (Nat.le_of_ble_eq_true rfl) dX6_mergesWith_1 ⟨Nat.zero_le _, Nat.zero_le _⟩ (fun z2 H locs hw hP hD hS => ?_)
  obtain ⟨rfl, r3⟩ := hw
  have hP : va_P G.1 vwCl (flt [W6o G a0 a4 a11 a12 a5 a1 a3 hs, W0 G a1 a2 cs ln, W2 G a3 kd fk hd va le mo, W5 G a4 cu, W1h G a5 a6 a7 a8 a9 a10 ol tt, W5 G a7 s0, W5 G a8 s1, W5 G a9 s2, W5 G a10 s3, W5 G a11 fo, W5 G a12 sv]) H := hP
  have hD : va_D A (flt [W6o G a0 a4 a11 a12 a5 a1 a3 hs, W0 G a1 a2 cs ln, W2 G a3 kd fk hd va le mo, W5 G a4 cu, W1h G a5 a6 a7 a8 a9 a10 ol tt, W5 G a7 s0, W5 G a8 s1, W5 G a9 s2, W5 G a10 s3, W5 G a11 fo, W5 G a12 sv]) := hD
  refine zr_ifB_ne (tgt := 10)  hx hb dX6_mergesWith_4 (by decide) (fun c4 => ?_) (fun c4 => ?_)
  · have h7 := hwp.1 c4
    refine lv_aload_n hx hb dX6_mergesWith_10 rfl (lv_at hl 0 rfl) ?_
    refine lv_iload_n hx hb dX6_mergesWith_11 rfl (lv_at hl 1 rfl) ?_
    obtain ⟨g8, g9, h10⟩ := h7
    obtain ⟨b11, h12⟩ := h10
    obtain ⟨b13, h14⟩ := h12
    obtain ⟨b15, h16⟩ := h14
    refine zq_vi (As := [.int (iI size)]) (rest := []) (L := [W6o G a0 a4 a11 a12 a5 a1 a3 hs, W0 G a1 a2 cs ln, W2 G a3 kd fk hd va le mo, W5 G a4 cu, W1h G a5 a6 a7 a8 a9 a10 ol tt, W5 G a7 s0, W5 G a8 s1, W5 G a9 s2, W5 G a10 s3, W5 G a11 fo, W5 G a12 sv]) (LC := [W6o G a0 a4 a11 a12 a5 a1 a3 hs, W0 G a1 a2 cs ln, W2 G a3 kd fk hd va le mo, W5 G a4 cu, W1h G a5 a6 a7 a8 a9 a10 ol tt, W5 G a7 s0, W5 G a8 s1, W5 G a9 s2, W5 G a10 s3, W5 G a11 fo, W5 G a12 sv]) (LR := []) (LC1 := fun (u_18 : SS) => [W6o G a0 a4 a11 a12 a5 a1 a3 hs, W0 G a1 a2 cs ln, W2 G a3 kd fk hd va le mo, W5 G a4 cu, W1h G a5 a6 a7 a8 a9 a10 ol tt, W5 G a7 s0, W5 G a8 s1, W5 G a9 s2, W5 G a10 s3, W5 G a11 u_18, W5 G a12 sv]) (L2 := fun (u_18 : SS) => [W6o G a0 a4 a11 a12 a5 a1 a3 hs, W0 G a1 a2 cs ln, W2 G a3 kd fk hd va le mo, W5 G a4 cu, W1h G a5 a6 a7 a8 a9 a10 ol tt, W5 G a7 s0, W5 G a8 s1, W5 G a9 s2, W5 G a10 s3, W5 G a11 u_18, W5 G a12 sv]) (c_X6_foretell l G a0 a1 a2 a3 a4 a5 a6 a7 a8 a9 a10 a11 a12 cu fo sv hs ol tt s0 s1 s2 s3 cs ln kd fk hd va le mo size g8 g9 r_cu r_fo r_sv r_hs r_ol r_tt r_s0 r_s1 r_s2 r_s3 r_cs r_ln r_kd r_fk r_hd r_va r_le r_mo r_size b11 b13 b15) ⟨hx, hb, hml, hown, hts⟩ (cwV 1 hts gX6_mergesWith_X6_foretell rfl rfl rfl hdX6_foretell ⟨Nat.le_of_ble_eq_true rfl, Nat.le_of_ble_eq_true rfl⟩) hK hP hD hS hA rfl rfl [0, 1, 2, 3, 4, 5, 6, 7, 8, 9, 10] [] [0, 1, 2, 3, 4, 5, 6, 7, 8, 9, 10] rfl rfl 11 rfl (by decide) (fun _ => rfl) (fun _ => rfl) (by decide) rfl hl.1 rfl (Nat.le_of_ble_eq_true rfl) dX6_mergesWith_12 ⟨Nat.zero_le _, Nat.zero_le _⟩ (fun z19 u_18 H locs hw hP hD hS => ?_)
    obtain ⟨u_fo17, rfl⟩ : ∃ q, q = u_18 := ⟨_, rfl⟩
    obtain ⟨r21, ru_fo17, h20⟩ := hw
    have h22 := h16 z19 u_fo17 r21 ru_fo17 h20
    have hP : va_P G.1 vwCl (flt [W6o G a0 a4 a11 a12 a5 a1 a3 hs, W0 G a1 a2 cs ln, W2 G a3 kd fk hd va le mo, W5 G a4 cu, W1h G a5 a6 a7 a8 a9 a10 ol tt, W5 G a7 s0, W5 G a8 s1, W5 G a9 s2, W5 G a10 s3, W5 G a11 u_fo17, W5 G a12 sv]) H := hP
    have hD : va_D A (flt [W6o G a0 a4 a11 a12 a5 a1 a3 hs, W0 G a1 a2 cs ln, W2 G a3 kd fk hd va le mo, W5 G a4 cu, W1h G a5 a6 a7 a8 a9 a10 ol tt, W5 G a7 s0, W5 G a8 s1, W5 G a9 s2, W5 G a10 s3, W5 G a11 u_fo17, W5 G a12 sv]) := hD
    refine zr_if_ne (tgt := 21) (x := z19) hx hb r21 dX6_mergesWith_15 (by decide) (fun c23 => ?_) (fun c23 => ?_)
    · have h26 := h22.2 c23
      refine lv_aload_n hx hb dX6_mergesWith_21 rfl (lv_at hl 0 rfl) ?_
      refine va_get (v := .ref (a11 0)) (ci := 6) (C := RX6) (T := TX6) (N := 7) hx hb hts imX6_mergesWith_X6 hown hK hP 0 rfl rfl 1 (by decide) k1 (fun _ h9 => h9) rfl dX6_mergesWith_22 ?_
      refine va_get (v := .int (iI (u_fo17.1 13))) (ci := 5) (C := RX5) (T := TX5) (N := 16) hx hb hts imX6_mergesWith_X5 hown hK hP 76 rfl rfl 13 (by decide) k2 (fun _ h9 => h9) rfl dX6_mergesWith_25 ?_
      refine lv_aload_n hx hb dX6_mergesWith_28 rfl (lv_at hl 0 rfl) ?_
      refine va_get (v := .ref (a4 0)) (ci := 6) (C := RX6) (T := TX6) (N := 7) hx hb hts imX6_mergesWith_X6 hown hK hP 0 rfl rfl 0 (by decide) k3 (fun _ h9 => h9) rfl dX6_mergesWith_29 ?_
      refine va_get (v := .int (iI (cu.1 13))) (ci := 5) (C := RX5) (T := TX5) (N := 16) hx hb hts imX6_mergesWith_X5 hown hK hP 4 rfl rfl 13 (by decide) k2 (fun _ h9 => h9) rfl dX6_mergesWith_32 ?_
      refine zr_isub (x := (u_fo17.1 13)) (y := (cu.1 13)) hx hb dX6_mergesWith_35 ?_
      obtain ⟨r27, h28⟩ := h26
      exact zr_iret (z := (u_fo17.1 13) - (cu.1 13)) hx hb hr hlocks hK (u_fo17) hP hD hS dX6_mergesWith_36 ⟨r27, ru_fo17, h28⟩
    · have h29 := h22.1 c23
      refine lv_bipush (v := iI (-3)) hx hb dX6_mergesWith_18 (by decide) ?_
      exact zr_iret (z := (-3)) hx hb hr hlocks hK (u_fo17) hP hD hS dX6_mergesWith_20 ⟨rg_m3, ru_fo17, h29⟩
  · have h30 := hwp.2 c4
    refine lv_bipush (v := iI (-2)) hx hb dX6_mergesWith_7 (by decide) ?_
    exact zr_iret (z := (-2)) hx hb hr hlocks hK (fo) hP hD hS dX6_mergesWith_9 ⟨rg_m2, r_fo, h30⟩
theorem c_X6_mergesWith (l : Launch) (G : ZG) (a0 : Nat) (a1 : Nat) (a2 : Nat) (a3 : Nat) (a4 : Nat → Nat) (a5 : Nat) (a6 : Nat) (a7 : Nat → Nat) (a8 : Nat → Nat) (a9 : Nat → Nat) (a10 : Nat → Nat) (a11 : Nat → Nat) (a12 : Nat → Nat) (cu : SS) (fo : SS) (sv : SS) (hs : Int) (ol : Int) (tt : Int) (s0 : SS) (s1 : SS) (s2 : SS) (s3 : SS) (cs : Int → Int) (ln : Int) (kd : Int) (fk : Int) (hd : Int) (va : Int) (le : Int) (mo : Int) (size : Int) (m : SS) (n : Int) (r_cu : RG cu) (r_fo : RG fo) (r_sv : RG sv) (r_hs : rg hs) (r_ol : rg ol) (r_tt : rg tt) (r_s0 : RG s0) (r_s1 : RG s1) (r_s2 : RG s2) (r_s3 : RG s3) (r_cs : rgA cs) (r_ln : rg ln) (r_kd : rg kd) (r_fk : rg fk) (r_hd : rg hd) (r_va : rg va) (r_le : rg le) (r_mo : rg mo) (r_size : rg size) (p0 : Rep6 cu sv hs ol tt s0 s1 s2 s3 cs ln m n) (p1 : 0 ≤ n ∧ n ≤ 600) : ZI l G yX6_mergesWith wsX6_mergesWith 6 148 [.ref a0, .int (iI size)] (flt [W6o G a0 a4 a11 a12 a5 a1 a3 hs, W0 G a1 a2 cs ln, W2 G a3 kd fk hd va le mo, W5 G a4 cu, W1h G a5 a6 a7 a8 a9 a10 ol tt, W5 G a7 s0, W5 G a8 s1, W5 G a9 s2, W5 G a10 s3, W5 G a11 fo, W5 G a12 sv]) (fun u : SS => flt [W6o G a0 a4 a11 a12 a5 a1 a3 hs, W0 G a1 a2 cs ln, W2 G a3 kd fk hd va le mo, W5 G a4 cu, W1h G a5 a6 a7 a8 a9 a10 ol tt, W5 G a7 s0, W5 G a8 s1, W5 G a9 s2, W5 G a10 s3, W5 G a11 u, W5 G a12 sv]) (fun (zq : Int) (u : SS) => rg zq ∧ RG u ∧ ((if 2 ≤ size ∧ size ≤ 20 then growZ (m.2 0) size 8 zq else zq = -2))) :=
  c0_X6_mergesWith l G a0 a1 a2 a3 a4 a5 a6 a7 a8 a9 a10 a11 a12 cu fo sv hs ol tt s0 s1 s2 s3 cs ln kd fk hd va le mo size (fun r fo' => (if 2 ≤ size ∧ size ≤ 20 then growZ (m.2 0) size 8 r else r = -2)) r_cu r_fo r_sv r_hs r_ol r_tt r_s0 r_s1 r_s2 r_s3 r_cs r_ln r_kd r_fk r_hd r_va r_le r_mo r_size (sp_X6_mergesWith cu fo sv hs ol tt s0 s1 s2 s3 cs ln kd fk hd va le mo size m n r_cu r_fo r_sv r_hs r_ol r_tt r_s0 r_s1 r_s2 r_s3 r_cs r_ln r_kd r_fk r_hd r_va r_le r_mo r_size p0 p1)
theorem imX6_bestSize_X5 : ∀ w ∈ wsX50, w ∈ wsX6_bestSize := fun _ h => (List.mem_cons_of_mem _ (List.mem_append_left _ (List.mem_append_left _ (List.mem_append_right _ h))))
theorem imX6_bestSize_X6 : ∀ w ∈ wsX60, w ∈ wsX6_bestSize := fun _ h => (List.mem_cons_of_mem _ (List.mem_append_left _ (List.mem_append_left _ (List.mem_append_left _ (List.mem_append_right _ h)))))
theorem hdX6_bestSize : yX6_bestSize.cls = RX6 ∧ yX6_bestSize.cls ≠ "java/lang/invoke/MethodHandle" ∧ yX6_bestSize.cls ≠ "java/lang/invoke/VarHandle" ∧ (parseMethodDescriptor yX6_bestSize.desc).map (fun d => d.parameters.length) = some 0 := by decide +kernel
set_option maxRecDepth 100000 in
set_option maxHeartbeats 4000000 in
theorem c0_X6_bestSize (l : Launch) (G : ZG) (a0 : Nat) (a1 : Nat) (a2 : Nat) (a3 : Nat) (a4 : Nat → Nat) (a5 : Nat) (a6 : Nat) (a7 : Nat → Nat) (a8 : Nat → Nat) (a9 : Nat → Nat) (a10 : Nat → Nat) (a11 : Nat → Nat) (a12 : Nat → Nat) (cu : SS) (fo : SS) (sv : SS) (hs : Int) (ol : Int) (tt : Int) (s0 : SS) (s1 : SS) (s2 : SS) (s3 : SS) (cs : Int → Int) (ln : Int) (kd : Int) (fk : Int) (hd : Int) (va : Int) (le : Int) (mo : Int)  (P : Int → SS → Prop) (r_cu : RG cu) (r_fo : RG fo) (r_sv : RG sv) (r_hs : rg hs) (r_ol : rg ol) (r_tt : rg tt) (r_s0 : RG s0) (r_s1 : RG s1) (r_s2 : RG s2) (r_s3 : RG s3) (r_cs : rgA cs) (r_ln : rg ln) (r_kd : rg kd) (r_fk : rg fk) (r_hd : rg hd) (r_va : rg va) (r_le : rg le) (r_mo : rg mo)  (hwp : wp_X6_bestSize cu fo sv hs ol tt s0 s1 s2 s3 cs ln kd fk hd va le mo P) : ZI l G yX6_bestSize wsX6_bestSize 6 148 [.ref a0] (flt [W6o G a0 a4 a11 a12 a5 a1 a3 hs, W0 G a1 a2 cs ln, W2 G a3 kd fk hd va le mo, W5 G a4 cu, W1h G a5 a6 a7 a8 a9 a10 ol tt, W5 G a7 s0, W5 G a8 s1, W5 G a9 s2, W5 G a10 s3, W5 G a11 fo, W5 G a12 sv]) (fun u : SS => flt [W6o G a0 a4 a11 a12 a5 a1 a3 hs, W0 G a1 a2 cs ln, W2 G a3 kd fk hd va le mo, W5 G a4 cu, W1h G a5 a6 a7 a8 a9 a10 ol tt, W5 G a7 s0, W5 G a8 s1, W5 G a9 s2, W5 G a10 s3, W5 G a11 u, W5 G a12 sv]) (fun (z : Int) (u : SS) => rg z ∧ RG u ∧ P z u) := by
  unfold wp_X6_bestSize at hwp
  refine zm_i (cc := cX6_bestSize) (maxL := 4) (ret := some .int) (own := RX6) (lvs := [(0, .ref a0)]) (by decide) rfl rfl (Nat.le_of_ble_eq_true rfl) rfl ?_
  intro p e sT m args below meth c ls A hx hb hr hml hown hts hlocks hK hP hD hS hA hl
  have k1 := hts (.fieldLink RX6 16 "GrantedSort" "foretold" "LGrantedSort$SortState;") (List.mem_of_getElem? (i := 1) rfl)
  have k2 := hts (.fieldLink RX6 177 "GrantedSort$SortState" "costs" "I") (List.mem_of_getElem? (i := 2) rfl)
  refine lv_bipush (v := iI (-6)) hx hb dX6_bestSize_0 (by decide) ?_
  refine lv_istore_n (lv' := [(1, .int (iI (-6))), (0, .ref a0)]) hx hb dX6_bestSize_2 rfl hl (by decide) rfl (fun ls hl => ?_)
  refine lv_iconst (v := iI 0) hx hb dX6_bestSize_3 rfl ?_
  refine lv_istore_n (lv' := [(2, .int (iI 0)), (1, .int (iI (-6))), (0, .ref a0)]) hx hb dX6_bestSize_4 rfl hl (by decide) rfl (fun ls hl => ?_)
  refine lv_iconst (v := iI 2) hx hb dX6_bestSize_5 rfl ?_
  refine lv_istore_n (lv' := [(3, .int (iI 2)), (2, .int (iI 0)), (1, .int (iI (-6))), (0, .ref a0)]) hx hb dX6_bestSize_6 rfl hl (by decide) rfl (fun ls hl => ?_)
  obtain ⟨I2, μ3, h4, h5⟩ := hwp
  refine zr_loop (G := G) (σ := Int × Int × Int × SS) (fun x_1 => (rg x_1.1 ∧ rg x_1.2.1 ∧ rg x_1.2.2.1 ∧ RG x_1.2.2.2) ∧ I2 x_1.1 x_1.2.1 x_1.2.2.1 x_1.2.2.2) (fun x_1 => μ3 x_1.1 x_1.2.1 x_1.2.2.1 x_1.2.2.2) (fun x_1 => flt [W6o G a0 a4 a11 a12 a5 a1 a3 hs, W0 G a1 a2 cs ln, W2 G a3 kd fk hd va le mo, W5 G a4 cu, W1h G a5 a6 a7 a8 a9 a10 ol tt, W5 G a7 s0, W5 G a8 s1, W5 G a9 s2, W5 G a10 s3, W5 G a11 x_1.2.2.2, W5 G a12 sv]) (fun x_1 => [(3, .int (iI x_1.2.2.1)), (2, .int (iI x_1.2.1)), (1, .int (iI x_1.1)), (0, .ref a0)]) (((-6), 0, 2, fo)) ⟨⟨rg_m6, rg_0, rg_2, r_fo⟩, h4⟩ hP hD hS (lv_sub hl [0, 1, 2, 3] rfl) ?_
  clear hP hD hS hl
  intro x_1 H locs ls ih6 h7 hP hD hS hl
  obtain ⟨x1_1, x2_1, x3_1, fo0_1⟩ := x_1
  obtain ⟨⟨rx1_1, rx2_1, rx3_1, rfo0_1⟩, h7⟩ := h7
  have h8 := h5 x1_1 x2_1 x3_1 fo0_1 rx1_1 rx2_1 rx3_1 rfo0_1 h7
  have hP : va_P G.1 vwCl (flt [W6o G a0 a4 a11 a12 a5 a1 a3 hs, W0 G a1 a2 cs ln, W2 G a3 kd fk hd va le mo, W5 G a4 cu, W1h G a5 a6 a7 a8 a9 a10 ol tt, W5 G a7 s0, W5 G a8 s1, W5 G a9 s2, W5 G a10 s3, W5 G a11 fo0_1, W5 G a12 sv]) H := hP
  have hD : va_D A (flt [W6o G a0 a4 a11 a12 a5 a1 a3 hs, W0 G a1 a2 cs ln, W2 G a3 kd fk hd va le mo, W5 G a4 cu, W1h G a5 a6 a7 a8 a9 a10 ol tt, W5 G a7 s0, W5 G a8 s1, W5 G a9 s2, W5 G a10 s3, W5 G a11 fo0_1, W5 G a12 sv]) := hD
  have hl : lv_has ls 4 [(3, .int (iI x3_1)), (2, .int (iI x2_1)), (1, .int (iI x1_1)), (0, .ref a0)] := hl
  refine lv_iload_n hx hb dX6_bestSize_7 rfl (lv_at hl 0 rfl) ?_
  refine lv_bipush (v := iI 9) hx hb dX6_bestSize_8 (by decide) ?_
  refine zr_icmp_gt (tgt := 54) (x := x3_1) (y := 9) hx hb rx3_1 rg_9 dX6_bestSize_10 (by decide) (fun c9 => ?_) (fun c9 => ?_)
  · have h12 := h8.1 c9
    refine lv_iload_n hx hb dX6_bestSize_54 rfl (lv_at hl 2 rfl) ?_
    exact zr_iret (z := x1_1) hx hb hr hlocks hK (fo0_1) hP hD hS dX6_bestSize_55 ⟨rx1_1, rfo0_1, h12⟩
  · have h13 := h8.2 c9
    refine lv_aload_n hx hb dX6_bestSize_13 rfl (lv_at hl 3 rfl) ?_
    refine lv_iload_n hx hb dX6_bestSize_14 rfl (lv_at hl 0 rfl) ?_
    obtain ⟨g14, g15, h16⟩ := h13
    obtain ⟨b17, h18⟩ := h16
    obtain ⟨b19, h20⟩ := h18
    obtain ⟨b21, h22⟩ := h20
    refine zq_vi (As := [.int (iI x3_1)]) (rest := []) (L := [W6o G a0 a4 a11 a12 a5 a1 a3 hs, W0 G a1 a2 cs ln, W2 G a3 kd fk hd va le mo, W5 G a4 cu, W1h G a5 a6 a7 a8 a9 a10 ol tt, W5 G a7 s0, W5 G a8 s1, W5 G a9 s2, W5 G a10 s3, W5 G a11 fo0_1, W5 G a12 sv]) (LC := [W6o G a0 a4 a11 a12 a5 a1 a3 hs, W0 G a1 a2 cs ln, W2 G a3 kd fk hd va le mo, W5 G a4 cu, W1h G a5 a6 a7 a8 a9 a10 ol tt, W5 G a7 s0, W5 G a8 s1, W5 G a9 s2, W5 G a10 s3, W5 G a11 fo0_1, W5 G a12 sv]) (LR := []) (LC1 := fun (u_24 : SS) => [W6o G a0 a4 a11 a12 a5 a1 a3 hs, W0 G a1 a2 cs ln, W2 G a3 kd fk hd va le mo, W5 G a4 cu, W1h G a5 a6 a7 a8 a9 a10 ol tt, W5 G a7 s0, W5 G a8 s1, W5 G a9 s2, W5 G a10 s3, W5 G a11 u_24, W5 G a12 sv]) (L2 := fun (u_24 : SS) => [W6o G a0 a4 a11 a12 a5 a1 a3 hs, W0 G a1 a2 cs ln, W2 G a3 kd fk hd va le mo, W5 G a4 cu, W1h G a5 a6 a7 a8 a9 a10 ol tt, W5 G a7 s0, W5 G a8 s1, W5 G a9 s2, W5 G a10 s3, W5 G a11 u_24, W5 G a12 sv]) (c_X6_foretell l G a0 a1 a2 a3 a4 a5 a6 a7 a8 a9 a10 a11 a12 cu fo0_1 sv hs ol tt s0 s1 s2 s3 cs ln kd fk hd va le mo x3_1 g14 g15 r_cu rfo0_1 r_sv r_hs r_ol r_tt r_s0 r_s1 r_s2 r_s3 r_cs r_ln r_kd r_fk r_hd r_va r_le r_mo rx3_1 b17 b19 b21) ⟨hx, hb, hml, hown, hts⟩ (cwV 1 hts gX6_bestSize_X6_foretell rfl rfl rfl hdX6_foretell ⟨Nat.le_of_ble_eq_true rfl, Nat.le_of_ble_eq_true rfl⟩) hK hP hD hS hA rfl rfl [0, 1, 2, 3, 4, 5, 6, 7, 8, 9, 10] [] [0, 1, 2, 3, 4, 5, 6, 7, 8, 9, 10] rfl rfl 11 rfl (by decide) (fun _ => rfl) (fun _ => rfl) (by decide) rfl hl.1 rfl (Nat.le_of_ble_eq_true rfl) dX6_bestSize_15 ⟨Nat.zero_le _, Nat.zero_le _⟩ (fun z25 u_24 H locs hw hP hD hS => ?_)
    obtain ⟨u_fo23, rfl⟩ : ∃ q, q = u_24 := ⟨_, rfl⟩
    obtain ⟨r27, ru_fo23, h26⟩ := hw
    have h28 := h22 z25 u_fo23 r27 ru_fo23 h26
    have hP : va_P G.1 vwCl (flt [W6o G a0 a4 a11 a12 a5 a1 a3 hs, W0 G a1 a2 cs ln, W2 G a3 kd fk hd va le mo, W5 G a4 cu, W1h G a5 a6 a7 a8 a9 a10 ol tt, W5 G a7 s0, W5 G a8 s1, W5 G a9 s2, W5 G a10 s3, W5 G a11 u_fo23, W5 G a12 sv]) H := hP
    have hD : va_D A (flt [W6o G a0 a4 a11 a12 a5 a1 a3 hs, W0 G a1 a2 cs ln, W2 G a3 kd fk hd va le mo, W5 G a4 cu, W1h G a5 a6 a7 a8 a9 a10 ol tt, W5 G a7 s0, W5 G a8 s1, W5 G a9 s2, W5 G a10 s3, W5 G a11 u_fo23, W5 G a12 sv]) := hD
    refine zr_if_eq (tgt := 48) (x := z25) hx hb r27 dX6_bestSize_18 (by decide) (fun c29 => ?_) (fun c29 => ?_)
    · have h32 := h28.1 c29
      obtain ⟨r33, h34⟩ := h32
      refine zr_iinc (x := x3_1) (lv' := [(3, .int (iI (x3_1 + 1))), (2, .int (iI x2_1)), (1, .int (iI x1_1)), (0, .ref a0)]) hx hb dX6_bestSize_48 hl (k := 0) rfl (by decide) rfl (fun ls hl => ?_)
      refine lv_goto (tgt := 7) hx hb dX6_bestSize_51 (by decide) ?_
      obtain ⟨h35, h36⟩ := h34
      exact ih6 ((x1_1, x2_1, x3_1 + 1, u_fo23)) _ _ _ ⟨⟨rx1_1, rx2_1, r33, ru_fo23⟩, h35⟩ h36 hP hD hS (lv_sub hl [0, 1, 2, 3] rfl)
    · have h37 := h28.2 c29
      refine lv_iload_n hx hb dX6_bestSize_21 rfl (lv_at hl 2 rfl) ?_
      refine lv_bipush (v := iI (-6)) hx hb dX6_bestSize_22 (by decide) ?_
      refine zr_icmp_eq (tgt := 38) (x := x1_1) (y := (-6)) hx hb rx1_1 rg_m6 dX6_bestSize_24 (by decide) (fun c38 => ?_) (fun c38 => ?_)
      · have h41 := h37.1 c38
        refine lv_iload_n hx hb dX6_bestSize_38 rfl (lv_at hl 0 rfl) ?_
        refine lv_istore_n (lv' := [(1, .int (iI x3_1)), (3, .int (iI x3_1)), (2, .int (iI x2_1)), (0, .ref a0)]) hx hb dX6_bestSize_39 rfl hl (by decide) rfl (fun ls hl => ?_)
        refine lv_aload_n hx hb dX6_bestSize_40 rfl (lv_at hl 3 rfl) ?_
        refine va_get (v := .ref (a11 0)) (ci := 6) (C := RX6) (T := TX6) (N := 7) hx hb hts imX6_bestSize_X6 hown hK hP 0 rfl rfl 1 (by decide) k1 (fun _ h9 => h9) rfl dX6_bestSize_41 ?_
        refine va_get (v := .int (iI (u_fo23.1 12))) (ci := 5) (C := RX5) (T := TX5) (N := 16) hx hb hts imX6_bestSize_X5 hown hK hP 76 rfl rfl 12 (by decide) k2 (fun _ h9 => h9) rfl dX6_bestSize_44 ?_
        refine lv_istore_n (lv' := [(2, .int (iI (u_fo23.1 12))), (1, .int (iI x3_1)), (3, .int (iI x3_1)), (0, .ref a0)]) hx hb dX6_bestSize_47 rfl hl (by decide) rfl (fun ls hl => ?_)
        obtain ⟨r42, h43⟩ := h41
        refine zr_iinc (x := x3_1) (lv' := [(3, .int (iI (x3_1 + 1))), (2, .int (iI (u_fo23.1 12))), (1, .int (iI x3_1)), (0, .ref a0)]) hx hb dX6_bestSize_48 hl (k := 2) rfl (by decide) rfl (fun ls hl => ?_)
        refine lv_goto (tgt := 7) hx hb dX6_bestSize_51 (by decide) ?_
        obtain ⟨h44, h45⟩ := h43
        exact ih6 ((x3_1, (u_fo23.1 12), x3_1 + 1, u_fo23)) _ _ _ ⟨⟨rx3_1, (ru_fo23.1 12), r42, ru_fo23⟩, h44⟩ h45 hP hD hS (lv_sub hl [0, 1, 2, 3] rfl)
      · have h46 := h37.2 c38
        refine lv_aload_n hx hb dX6_bestSize_27 rfl (lv_at hl 3 rfl) ?_
        refine va_get (v := .ref (a11 0)) (ci := 6) (C := RX6) (T := TX6) (N := 7) hx hb hts imX6_bestSize_X6 hown hK hP 0 rfl rfl 1 (by decide) k1 (fun _ h9 => h9) rfl dX6_bestSize_28 ?_
        refine va_get (v := .int (iI (u_fo23.1 12))) (ci := 5) (C := RX5) (T := TX5) (N := 16) hx hb hts imX6_bestSize_X5 hown hK hP 76 rfl rfl 12 (by decide) k2 (fun _ h9 => h9) rfl dX6_bestSize_31 ?_
        refine lv_iload_n hx hb dX6_bestSize_34 rfl (lv_at hl 1 rfl) ?_
        refine zr_icmp_ge (tgt := 48) (x := (u_fo23.1 12)) (y := x2_1) hx hb (ru_fo23.1 12) rx2_1 dX6_bestSize_35 (by decide) (fun c47 => ?_) (fun c47 => ?_)
        · have h50 := h46.2 c47
          obtain ⟨r51, h52⟩ := h50
          refine zr_iinc (x := x3_1) (lv' := [(3, .int (iI (x3_1 + 1))), (2, .int (iI x2_1)), (1, .int (iI x1_1)), (0, .ref a0)]) hx hb dX6_bestSize_48 hl (k := 0) rfl (by decide) rfl (fun ls hl => ?_)
          refine lv_goto (tgt := 7) hx hb dX6_bestSize_51 (by decide) ?_
          obtain ⟨h53, h54⟩ := h52
          exact ih6 ((x1_1, x2_1, x3_1 + 1, u_fo23)) _ _ _ ⟨⟨rx1_1, rx2_1, r51, ru_fo23⟩, h53⟩ h54 hP hD hS (lv_sub hl [0, 1, 2, 3] rfl)
        · have h55 := h46.1 c47
          refine lv_iload_n hx hb dX6_bestSize_38 rfl (lv_at hl 0 rfl) ?_
          refine lv_istore_n (lv' := [(1, .int (iI x3_1)), (3, .int (iI x3_1)), (2, .int (iI x2_1)), (0, .ref a0)]) hx hb dX6_bestSize_39 rfl hl (by decide) rfl (fun ls hl => ?_)
          refine lv_aload_n hx hb dX6_bestSize_40 rfl (lv_at hl 3 rfl) ?_
          refine va_get (v := .ref (a11 0)) (ci := 6) (C := RX6) (T := TX6) (N := 7) hx hb hts imX6_bestSize_X6 hown hK hP 0 rfl rfl 1 (by decide) k1 (fun _ h9 => h9) rfl dX6_bestSize_41 ?_
          refine va_get (v := .int (iI (u_fo23.1 12))) (ci := 5) (C := RX5) (T := TX5) (N := 16) hx hb hts imX6_bestSize_X5 hown hK hP 76 rfl rfl 12 (by decide) k2 (fun _ h9 => h9) rfl dX6_bestSize_44 ?_
          refine lv_istore_n (lv' := [(2, .int (iI (u_fo23.1 12))), (1, .int (iI x3_1)), (3, .int (iI x3_1)), (0, .ref a0)]) hx hb dX6_bestSize_47 rfl hl (by decide) rfl (fun ls hl => ?_)
          obtain ⟨r56, h57⟩ := h55
          refine zr_iinc (x := x3_1) (lv' := [(3, .int (iI (x3_1 + 1))), (2, .int (iI (u_fo23.1 12))), (1, .int (iI x3_1)), (0, .ref a0)]) hx hb dX6_bestSize_48 hl (k := 2) rfl (by decide) rfl (fun ls hl => ?_)
          refine lv_goto (tgt := 7) hx hb dX6_bestSize_51 (by decide) ?_
          obtain ⟨h58, h59⟩ := h57
          exact ih6 ((x3_1, (u_fo23.1 12), x3_1 + 1, u_fo23)) _ _ _ ⟨⟨rx3_1, (ru_fo23.1 12), r56, ru_fo23⟩, h58⟩ h59 hP hD hS (lv_sub hl [0, 1, 2, 3] rfl)
theorem c_X6_bestSize (l : Launch) (G : ZG) (a0 : Nat) (a1 : Nat) (a2 : Nat) (a3 : Nat) (a4 : Nat → Nat) (a5 : Nat) (a6 : Nat) (a7 : Nat → Nat) (a8 : Nat → Nat) (a9 : Nat → Nat) (a10 : Nat → Nat) (a11 : Nat → Nat) (a12 : Nat → Nat) (cu : SS) (fo : SS) (sv : SS) (hs : Int) (ol : Int) (tt : Int) (s0 : SS) (s1 : SS) (s2 : SS) (s3 : SS) (cs : Int → Int) (ln : Int) (kd : Int) (fk : Int) (hd : Int) (va : Int) (le : Int) (mo : Int)  (m : SS) (n : Int) (r_cu : RG cu) (r_fo : RG fo) (r_sv : RG sv) (r_hs : rg hs) (r_ol : rg ol) (r_tt : rg tt) (r_s0 : RG s0) (r_s1 : RG s1) (r_s2 : RG s2) (r_s3 : RG s3) (r_cs : rgA cs) (r_ln : rg ln) (r_kd : rg kd) (r_fk : rg fk) (r_hd : rg hd) (r_va : rg va) (r_le : rg le) (r_mo : rg mo)  (p0 : Rep6 cu sv hs ol tt s0 s1 s2 s3 cs ln m n) (p1 : 0 ≤ n ∧ n ≤ 600) : ZI l G yX6_bestSize wsX6_bestSize 6 148 [.ref a0] (flt [W6o G a0 a4 a11 a12 a5 a1 a3 hs, W0 G a1 a2 cs ln, W2 G a3 kd fk hd va le mo, W5 G a4 cu, W1h G a5 a6 a7 a8 a9 a10 ol tt, W5 G a7 s0, W5 G a8 s1, W5 G a9 s2, W5 G a10 s3, W5 G a11 fo, W5 G a12 sv]) (fun u : SS => flt [W6o G a0 a4 a11 a12 a5 a1 a3 hs, W0 G a1 a2 cs ln, W2 G a3 kd fk hd va le mo, W5 G a4 cu, W1h G a5 a6 a7 a8 a9 a10 ol tt, W5 G a7 s0, W5 G a8 s1, W5 G a9 s2, W5 G a10 s3, W5 G a11 u, W5 G a12 sv]) (fun (zq : Int) (u : SS) => rg zq ∧ RG u ∧ (∃ c : Int → Int, (∀ k, 2 ≤ k → k ≤ 20 → growZ (m.2 0) k 7 (c k)) ∧ zq = bsF c 19)) :=
  c0_X6_bestSize l G a0 a1 a2 a3 a4 a5 a6 a7 a8 a9 a10 a11 a12 cu fo sv hs ol tt s0 s1 s2 s3 cs ln kd fk hd va le mo (fun r fo' => ∃ c : Int → Int, (∀ k, 2 ≤ k → k ≤ 20 → growZ (m.2 0) k 7 (c k)) ∧ r = bsF c 19) r_cu r_fo r_sv r_hs r_ol r_tt r_s0 r_s1 r_s2 r_s3 r_cs r_ln r_kd r_fk r_hd r_va r_le r_mo  (sp_X6_bestSize cu fo sv hs ol tt s0 s1 s2 s3 cs ln kd fk hd va le mo m n r_cu r_fo r_sv r_hs r_ol r_tt r_s0 r_s1 r_s2 r_s3 r_cs r_ln r_kd r_fk r_hd r_va r_le r_mo  p0 p1)
