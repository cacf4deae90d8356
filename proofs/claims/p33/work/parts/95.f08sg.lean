set_option maxRecDepth 100000 in
set_option maxHeartbeats 1600000 in
theorem sg_C0 {p : Program} {l : Launch} {e : Env} {sT : State} {m : MethodId} {below : List Frame} {meth : Method} {c : Code} (G : ZG) {b L : Nat} {xs : Nat → Int32} (A : Nat → Prop) (C S : Nat) (hCC : C + 300 ≤ 600000) (hSS : S + 10000 ≤ 7302250) (hL : L ≤ 260) (D0 : lw_At p sT m meth c b L xs) (hK : va_K G.1 vwCl (tz G) sT) (hA : ∀ q : Nat, sT.heap.size ≤ q → A q) (hAb : ∀ q : Nat, A q → sT.heap.size ≤ q) (o_a0 : Nat) (o_a1 : Nat) (o_a2 : Nat) (o_a3 : Nat) (o_a4 : Nat → Nat) (o_a5 : Nat) (o_a6 : Nat) (o_a7 : Nat → Nat) (o_a8 : Nat → Nat) (o_a9 : Nat → Nat) (o_a10 : Nat → Nat) (o_a11 : Nat → Nat) (o_a12 : Nat → Nat) (f_a0 : Nat) (n_a0 : Nat) (l_a0 : Nat) (d_a0 : Nat) (m_a0 : Nat) (k_a0 : Nat) (c_a0 : Nat) (t_a0 : Nat) (o_cu : SS) (o_fo : SS) (o_sv : SS) (o_hs : Int) (o_ol : Int) (o_tt : Int) (o_s0 : SS) (o_s1 : SS) (o_s2 : SS) (o_s3 : SS) (o_cs : Int → Int) (o_ln : Int) (o_kd : Int) (o_fk : Int) (o_hd : Int) (o_va : Int) (o_le : Int) (o_mo : Int) (f_x : Int → Int) (n_x : Int → Int) (l_x : Int → Int) (d_x : Int → Int) (m_x : Int → Int) (k_x : Int → Int) (c_x : Int → Int) (t_x : Int → Int) (ev : Int) (isv : Int) (P104 : SS → SS → SS → Int → Int → Int → SS → SS → SS → SS → (Int → Int) → Int → Int → Int → Int → Int → Int → Int → (Int → Int) → (Int → Int) → (Int → Int) → (Int → Int) → (Int → Int) → (Int → Int) → (Int → Int) → (Int → Int) → Int → Prop) (r_o_cu : RG o_cu) (r_o_fo : RG o_fo) (r_o_sv : RG o_sv) (r_o_hs : rg o_hs) (r_o_ol : rg o_ol) (r_o_tt : rg o_tt) (r_o_s0 : RG o_s0) (r_o_s1 : RG o_s1) (r_o_s2 : RG o_s2) (r_o_s3 : RG o_s3) (r_o_cs : rgA o_cs) (r_o_ln : rg o_ln) (r_o_kd : rg o_kd) (r_o_fk : rg o_fk) (r_o_hd : rg o_hd) (r_o_va : rg o_va) (r_o_le : rg o_le) (r_o_mo : rg o_mo) (r_f_x : rgA f_x) (r_n_x : rgA n_x) (r_l_x : rgA l_x) (r_d_x : rgA d_x) (r_m_x : rgA m_x) (r_k_x : rgA k_x) (r_c_x : rgA c_x) (r_t_x : rgA t_x) (r_ev : rg ev) (r_isv : rg isv)  (hwp : wp_C0 o_cu o_fo o_sv o_hs o_ol o_tt o_s0 o_s1 o_s2 o_s3 o_cs o_ln o_kd o_fk o_hd o_va o_le o_mo f_x n_x l_x d_x m_x k_x c_x t_x ev isv P104) (kk104 : ∀ (o_cu' : SS) (o_fo' : SS) (o_sv' : SS) (o_hs' : Int) (o_ol' : Int) (o_tt' : Int) (o_s0' : SS) (o_s1' : SS) (o_s2' : SS) (o_s3' : SS) (o_cs' : Int → Int) (o_ln' : Int) (o_kd' : Int) (o_fk' : Int) (o_hd' : Int) (o_va' : Int) (o_le' : Int) (o_mo' : Int) (f_x' : Int → Int) (n_x' : Int → Int) (l_x' : Int → Int) (d_x' : Int → Int) (m_x' : Int → Int) (k_x' : Int → Int) (c_x' : Int → Int) (t_x' : Int → Int) (i10' : Int), RG o_cu' → RG o_fo' → RG o_sv' → rg o_hs' → rg o_ol' → rg o_tt' → RG o_s0' → RG o_s1' → RG o_s2' → RG o_s3' → rgA o_cs' → rg o_ln' → rg o_kd' → rg o_fk' → rg o_hd' → rg o_va' → rg o_le' → rg o_mo' → rgA f_x' → rgA n_x' → rgA l_x' → rgA d_x' → rgA m_x' → rgA k_x' → rgA c_x' → rgA t_x' → rg i10' → P104 o_cu' o_fo' o_sv' o_hs' o_ol' o_tt' o_s0' o_s1' o_s2' o_s3' o_cs' o_ln' o_kd' o_fk' o_hd' o_va' o_le' o_mo' f_x' n_x' l_x' d_x' m_x' k_x' c_x' t_x' i10' → ∀ (H : Heap) (locs : List Loc) (ls : Array Slot), va_P G.1 vwCl (flt [W6o G o_a0 o_a4 o_a11 o_a12 o_a5 o_a1 o_a3 o_hs', W0 G o_a1 o_a2 o_cs' o_ln', W2 G o_a3 o_kd' o_fk' o_hd' o_va' o_le' o_mo', W5 G o_a4 o_cu', W1h G o_a5 o_a6 o_a7 o_a8 o_a9 o_a10 o_ol' o_tt', W5 G o_a7 o_s0', W5 G o_a8 o_s1', W5 G o_a9 o_s2', W5 G o_a10 o_s3', W5 G o_a11 o_fo', W5 G o_a12 o_sv', [(f_a0, eI G 60 f_x')], [(n_a0, eI G 64 n_x')], [(l_a0, eI G 64 l_x')], [(d_a0, eI G 64 d_x')], [(m_a0, eI G 20 m_x')], [(k_a0, eI G 60 k_x')], [(c_a0, eI G 60 c_x')], [(t_a0, eI G 12 t_x')]]) H → va_D A (flt [W6o G o_a0 o_a4 o_a11 o_a12 o_a5 o_a1 o_a3 o_hs', W0 G o_a1 o_a2 o_cs' o_ln', W2 G o_a3 o_kd' o_fk' o_hd' o_va' o_le' o_mo', W5 G o_a4 o_cu', W1h G o_a5 o_a6 o_a7 o_a8 o_a9 o_a10 o_ol' o_tt', W5 G o_a7 o_s0', W5 G o_a8 o_s1', W5 G o_a9 o_s2', W5 G o_a10 o_s3', W5 G o_a11 o_fo', W5 G o_a12 o_sv', [(f_a0, eI G 60 f_x')], [(n_a0, eI G 64 n_x')], [(l_a0, eI G 64 l_x')], [(d_a0, eI G 64 d_x')], [(m_a0, eI G 20 m_x')], [(k_a0, eI G 60 k_x')], [(c_a0, eI G 60 c_x')], [(t_a0, eI G 12 t_x')]]) → va_S A sT.heap H locs → lv_has ls 16 [(0, .ref b), (1, .ref o_a0), (2, .ref f_a0), (3, .ref n_a0), (4, .ref l_a0), (5, .ref d_a0), (6, .ref m_a0), (7, .ref k_a0), (8, .ref c_a0), (9, .ref t_a0), (10, .int (iI i10'))] → W p l e room_1 sT m #[Value.ref b] below meth c H locs (C + 14) (S + 688) (lw_Z below #[Value.ref b] sT) (F0 m 104 ls [])) : ∀ (H : Heap) (locs : List Loc) (ls : Array Slot), va_P G.1 vwCl (flt [W6o G o_a0 o_a4 o_a11 o_a12 o_a5 o_a1 o_a3 o_hs, W0 G o_a1 o_a2 o_cs o_ln, W2 G o_a3 o_kd o_fk o_hd o_va o_le o_mo, W5 G o_a4 o_cu, W1h G o_a5 o_a6 o_a7 o_a8 o_a9 o_a10 o_ol o_tt, W5 G o_a7 o_s0, W5 G o_a8 o_s1, W5 G o_a9 o_s2, W5 G o_a10 o_s3, W5 G o_a11 o_fo, W5 G o_a12 o_sv, [(f_a0, eI G 60 f_x)], [(n_a0, eI G 64 n_x)], [(l_a0, eI G 64 l_x)], [(d_a0, eI G 64 d_x)], [(m_a0, eI G 20 m_x)], [(k_a0, eI G 60 k_x)], [(c_a0, eI G 60 c_x)], [(t_a0, eI G 12 t_x)]]) H → va_D A (flt [W6o G o_a0 o_a4 o_a11 o_a12 o_a5 o_a1 o_a3 o_hs, W0 G o_a1 o_a2 o_cs o_ln, W2 G o_a3 o_kd o_fk o_hd o_va o_le o_mo, W5 G o_a4 o_cu, W1h G o_a5 o_a6 o_a7 o_a8 o_a9 o_a10 o_ol o_tt, W5 G o_a7 o_s0, W5 G o_a8 o_s1, W5 G o_a9 o_s2, W5 G o_a10 o_s3, W5 G o_a11 o_fo, W5 G o_a12 o_sv, [(f_a0, eI G 60 f_x)], [(n_a0, eI G 64 n_x)], [(l_a0, eI G 64 l_x)], [(d_a0, eI G 64 d_x)], [(m_a0, eI G 20 m_x)], [(k_a0, eI G 60 k_x)], [(c_a0, eI G 60 c_x)], [(t_a0, eI G 12 t_x)]]) → va_S A sT.heap H locs → lv_has ls 16 [(0, .ref b), (1, .ref o_a0), (2, .ref f_a0), (3, .ref n_a0), (4, .ref l_a0), (5, .ref d_a0), (6, .ref m_a0), (7, .ref k_a0), (8, .ref c_a0), (9, .ref t_a0), (10, .int (iI ev)), (13, .int (iI isv))] → W p l e room_1 sT m #[Value.ref b] below meth c H locs C S (lw_Z below #[Value.ref b] sT) (F0 m 767 ls []) := by
  unfold wp_C0 at hwp
  obtain ⟨hx, hb, hr, hml, hown, hts0, hX, hbl, hlocks, hgv⟩ := D0
  have hts : ∀ w ∈ wsL_law, w.before #[Value.ref b] sT = true := fun w h => hts0 w (wsL_law_in w h)
  have hbA : ¬ A b := fun h => absurd (hAb b h) (Nat.not_le.mpr hbl)
  have hRc : ∀ {x : Nat}, x ≤ 600000 → x ≤ room_1.cells := fun h => h
  have hRs : ∀ {x : Nat}, x ≤ 7302250 → x ≤ room_1.slots := fun h => h
  intro H locs ls hP hD hS hl
  refine lv_aload_n hx hb dL_law_767 rfl (lv_at hl 0 rfl) ?_
  refine lv_bipush (v := iI 100) hx hb dL_law_768 (by decide) ?_
  refine lv_iload hx hb dL_law_770 (lv_at hl 10 rfl) ?_
  refine zr_iadd (x := 100) (y := ev) hx hb dL_law_772 ?_
  obtain ⟨r1, h2⟩ := hwp
  obtain ⟨b3, h4⟩ := h2
  refine zc_cell (k := 100 + ev) r1 b3 hL hX hbl hbA ⟨hx, hb, hml, hown, hts⟩ (va_cwS 2 hts gL_law_L_cell rfl rfl rfl hdL_cell ⟨(Nat.le_of_ble_eq_true rfl), (Nat.le_of_ble_eq_true rfl)⟩) hK hP hD hS hA hl.1 (Nat.le_of_ble_eq_true rfl) dL_law_773 ⟨hRc (by omega), hRs (by omega)⟩ (fun z5 H locs r6 hP hD hS => ?_)
  have h7 := h4 z5 r6
  have hP : va_P G.1 vwCl (flt [W6o G o_a0 o_a4 o_a11 o_a12 o_a5 o_a1 o_a3 o_hs, W0 G o_a1 o_a2 o_cs o_ln, W2 G o_a3 o_kd o_fk o_hd o_va o_le o_mo, W5 G o_a4 o_cu, W1h G o_a5 o_a6 o_a7 o_a8 o_a9 o_a10 o_ol o_tt, W5 G o_a7 o_s0, W5 G o_a8 o_s1, W5 G o_a9 o_s2, W5 G o_a10 o_s3, W5 G o_a11 o_fo, W5 G o_a12 o_sv, [(f_a0, eI G 60 f_x)], [(n_a0, eI G 64 n_x)], [(l_a0, eI G 64 l_x)], [(d_a0, eI G 64 d_x)], [(m_a0, eI G 20 m_x)], [(k_a0, eI G 60 k_x)], [(c_a0, eI G 60 c_x)], [(t_a0, eI G 12 t_x)]]) H := hP
  have hD : va_D A (flt [W6o G o_a0 o_a4 o_a11 o_a12 o_a5 o_a1 o_a3 o_hs, W0 G o_a1 o_a2 o_cs o_ln, W2 G o_a3 o_kd o_fk o_hd o_va o_le o_mo, W5 G o_a4 o_cu, W1h G o_a5 o_a6 o_a7 o_a8 o_a9 o_a10 o_ol o_tt, W5 G o_a7 o_s0, W5 G o_a8 o_s1, W5 G o_a9 o_s2, W5 G o_a10 o_s3, W5 G o_a11 o_fo, W5 G o_a12 o_sv, [(f_a0, eI G 60 f_x)], [(n_a0, eI G 64 n_x)], [(l_a0, eI G 64 l_x)], [(d_a0, eI G 64 d_x)], [(m_a0, eI G 20 m_x)], [(k_a0, eI G 60 k_x)], [(c_a0, eI G 60 c_x)], [(t_a0, eI G 12 t_x)]]) := hD
  refine lv_istore (lv' := [(14, .int (iI z5)), (0, .ref b), (1, .ref o_a0), (2, .ref f_a0), (3, .ref n_a0), (4, .ref l_a0), (5, .ref d_a0), (6, .ref m_a0), (7, .ref k_a0), (8, .ref c_a0), (9, .ref t_a0), (10, .int (iI ev)), (13, .int (iI isv))]) hx hb dL_law_776 hl (by decide) rfl (fun ls hl => ?_)
  refine lv_iconst (v := iI 2) hx hb dL_law_778 rfl ?_
  refine lv_iload hx hb dL_law_779 (lv_at hl 0 rfl) ?_
  refine lv_iconst (v := iI 4) hx hb dL_law_781 rfl ?_
  refine zr_ishr (x := z5) (y := 4) hx hb dL_law_782 (fun q8 r9 => ?_)
  have h10 := h7 q8 r9
  refine lv_bipush (v := iI 19) hx hb dL_law_783 (by decide) ?_
  obtain ⟨b11, h12⟩ := h10
  refine zc_si (As := [.int (iI q8), .int (iI 19)]) (rest := [.int (iI 2)]) (c_L_low l G q8 19 r9 rg_19 b11) ⟨hx, hb, hml, hown, hts⟩ (va_cwS 2 hts gL_law_L_low rfl rfl rfl hdL_low ⟨Nat.le_of_ble_eq_true rfl, Nat.le_of_ble_eq_true rfl⟩) hK hP hD hS hA rfl hl.1 rfl (Nat.le_of_ble_eq_true rfl) dL_law_785 ⟨hRc (by omega), hRs (by omega)⟩ (fun z14 H locs hw hP hD hS => ?_)
  obtain ⟨r16, h15⟩ := hw
  have h17 := h12 z14 r16 h15
  have hP : va_P G.1 vwCl (flt [W6o G o_a0 o_a4 o_a11 o_a12 o_a5 o_a1 o_a3 o_hs, W0 G o_a1 o_a2 o_cs o_ln, W2 G o_a3 o_kd o_fk o_hd o_va o_le o_mo, W5 G o_a4 o_cu, W1h G o_a5 o_a6 o_a7 o_a8 o_a9 o_a10 o_ol o_tt, W5 G o_a7 o_s0, W5 G o_a8 o_s1, W5 G o_a9 o_s2, W5 G o_a10 o_s3, W5 G o_a11 o_fo, W5 G o_a12 o_sv, [(f_a0, eI G 60 f_x)], [(n_a0, eI G 64 n_x)], [(l_a0, eI G 64 l_x)], [(d_a0, eI G 64 d_x)], [(m_a0, eI G 20 m_x)], [(k_a0, eI G 60 k_x)], [(c_a0, eI G 60 c_x)], [(t_a0, eI G 12 t_x)]]) H := hP
  have hD : va_D A (flt [W6o G o_a0 o_a4 o_a11 o_a12 o_a5 o_a1 o_a3 o_hs, W0 G o_a1 o_a2 o_cs o_ln, W2 G o_a3 o_kd o_fk o_hd o_va o_le o_mo, W5 G o_a4 o_cu, W1h G o_a5 o_a6 o_a7 o_a8 o_a9 o_a10 o_ol o_tt, W5 G o_a7 o_s0, W5 G o_a8 o_s1, W5 G o_a9 o_s2, W5 G o_a10 o_s3, W5 G o_a11 o_fo, W5 G o_a12 o_sv, [(f_a0, eI G 60 f_x)], [(n_a0, eI G 64 n_x)], [(l_a0, eI G 64 l_x)], [(d_a0, eI G 64 d_x)], [(m_a0, eI G 20 m_x)], [(k_a0, eI G 60 k_x)], [(c_a0, eI G 60 c_x)], [(t_a0, eI G 12 t_x)]]) := hD
  refine zr_iadd (x := 2) (y := z14) hx hb dL_law_788 ?_
  obtain ⟨r18, h19⟩ := h17
  refine lv_istore (lv' := [(15, .int (iI (2 + z14))), (14, .int (iI z5)), (0, .ref b), (1, .ref o_a0), (2, .ref f_a0), (3, .ref n_a0), (4, .ref l_a0), (5, .ref d_a0), (6, .ref m_a0), (7, .ref k_a0), (8, .ref c_a0), (9, .ref t_a0), (10, .int (iI ev)), (13, .int (iI isv))]) hx hb dL_law_789 hl (by decide) rfl (fun ls hl => ?_)
  refine lv_iload hx hb dL_law_791 (lv_at hl 13 rfl) ?_
  refine zr_if_eq (tgt := 910) (x := isv) hx hb r_isv dL_law_793 (by decide) (fun c20 => ?_) (fun c20 => ?_)
  · have h23 := h19.1 c20
    refine lv_iconst (v := iI 0) hx hb dL_law_910 rfl ?_
    exact h23.elim
  · have h24 := h19.2 c20
    refine lv_aload_n hx hb dL_law_796 rfl (lv_at hl 3 rfl) ?_
    refine lv_aload_n hx hb dL_law_797 rfl (lv_at hl 4 rfl) ?_
    refine lv_aload_n hx hb dL_law_798 rfl (lv_at hl 5 rfl) ?_
    refine lv_aload hx hb dL_law_799 (lv_at hl 6 rfl) ?_
    refine lv_aload hx hb dL_law_801 (lv_at hl 7 rfl) ?_
    refine lv_aload hx hb dL_law_803 (lv_at hl 8 rfl) ?_
    refine lv_aload hx hb dL_law_805 (lv_at hl 9 rfl) ?_
    refine lv_aload hx hb dL_law_807 (lv_at hl 10 rfl) ?_
    refine lv_aload hx hb dL_law_809 (lv_at hl 11 rfl) ?_
    refine lv_iload hx hb dL_law_811 (lv_at hl 1 rfl) ?_
    refine lv_bipush (v := iI 9) hx hb dL_law_813 (by decide) ?_
    refine zr_ishr (x := z5) (y := 9) hx hb dL_law_815 (fun q25 r26 => ?_)
    have h27 := h24 q25 r26
    obtain ⟨g28, g29, h30⟩ := h27
    obtain ⟨b31, h32⟩ := h30
    obtain ⟨b33, h34⟩ := h32
    obtain ⟨b35, h36⟩ := h34
    obtain ⟨b37, h38⟩ := h36
    refine zs_viR (As := [.ref o_a0, .ref f_a0, .ref n_a0, .ref l_a0, .ref d_a0, .ref m_a0, .ref k_a0, .ref c_a0, .ref t_a0, .int (iI q25)]) (rest := []) (c_L_tells l G o_a0 o_a1 o_a2 o_a3 o_a4 o_a5 o_a6 o_a7 o_a8 o_a9 o_a10 o_a11 o_a12 f_a0 n_a0 l_a0 d_a0 m_a0 k_a0 c_a0 t_a0 o_cu o_fo o_sv o_hs o_ol o_tt o_s0 o_s1 o_s2 o_s3 o_cs o_ln o_kd o_fk o_hd o_va o_le o_mo f_x n_x l_x d_x m_x k_x c_x t_x q25 g28 g29 r_o_cu r_o_fo r_o_sv r_o_hs r_o_ol r_o_tt r_o_s0 r_o_s1 r_o_s2 r_o_s3 r_o_cs r_o_ln r_o_kd r_o_fk r_o_hd r_o_va r_o_le r_o_mo r_f_x r_n_x r_l_x r_d_x r_m_x r_k_x r_c_x r_t_x r26 b31 b33 b35 b37) ⟨hx, hb, hml, hown, hts⟩ (va_cwS 10 hts gL_law_L_tells rfl rfl rfl hdL_tells ⟨Nat.le_of_ble_eq_true rfl, Nat.le_of_ble_eq_true rfl⟩) hK hP hD hS hA [0, 1, 2, 3, 4, 5, 6, 7, 8, 9, 10, 11, 12, 13, 14, 15, 16, 17, 18, 19, 20, 21, 22, 23, 24, 25, 26, 27, 28, 29, 30, 31, 32, 33, 34, 35, 36, 37, 38, 39, 40, 41, 42, 43, 44, 45, 46, 47, 48, 49, 50, 51, 52, 53, 54, 55, 56, 57, 58, 59, 60, 61, 62, 63, 64, 65, 66, 67, 68, 69, 70, 71, 72, 73, 74, 75, 76, 77, 78, 79, 80, 81, 82, 83, 84, 85, 86, 87, 88, 89, 90, 91, 92, 93, 94, 95, 96, 97, 98, 99, 100, 101, 102, 103, 104, 105, 106, 107, 108, 109, 110, 111] rfl rfl rfl hl.1 rfl (Nat.le_of_ble_eq_true rfl) dL_law_816 ⟨hRc (by omega), hRs (by omega)⟩ (fun z40 H locs hw hP hD hS => ?_)
    obtain ⟨r42, h41⟩ := hw
    have h43 := h38 z40 r42 h41
    have hP : va_P G.1 vwCl (flt [W6o G o_a0 o_a4 o_a11 o_a12 o_a5 o_a1 o_a3 o_hs, W0 G o_a1 o_a2 o_cs o_ln, W2 G o_a3 o_kd o_fk o_hd o_va o_le o_mo, W5 G o_a4 o_cu, W1h G o_a5 o_a6 o_a7 o_a8 o_a9 o_a10 o_ol o_tt, W5 G o_a7 o_s0, W5 G o_a8 o_s1, W5 G o_a9 o_s2, W5 G o_a10 o_s3, W5 G o_a11 o_fo, W5 G o_a12 o_sv, [(f_a0, eI G 60 f_x)], [(n_a0, eI G 64 n_x)], [(l_a0, eI G 64 l_x)], [(d_a0, eI G 64 d_x)], [(m_a0, eI G 20 m_x)], [(k_a0, eI G 60 k_x)], [(c_a0, eI G 60 c_x)], [(t_a0, eI G 12 t_x)]]) H := hP
    have hD : va_D A (flt [W6o G o_a0 o_a4 o_a11 o_a12 o_a5 o_a1 o_a3 o_hs, W0 G o_a1 o_a2 o_cs o_ln, W2 G o_a3 o_kd o_fk o_hd o_va o_le o_mo, W5 G o_a4 o_cu, W1h G o_a5 o_a6 o_a7 o_a8 o_a9 o_a10 o_ol o_tt, W5 G o_a7 o_s0, W5 G o_a8 o_s1, W5 G o_a9 o_s2, W5 G o_a10 o_s3, W5 G o_a11 o_fo, W5 G o_a12 o_sv, [(f_a0, eI G 60 f_x)], [(n_a0, eI G 64 n_x)], [(l_a0, eI G 64 l_x)], [(d_a0, eI G 64 d_x)], [(m_a0, eI G 20 m_x)], [(k_a0, eI G 60 k_x)], [(c_a0, eI G 60 c_x)], [(t_a0, eI G 12 t_x)]]) := hD
    refine zr_if_eq (tgt := 910) (x := z40) hx hb r42 dL_law_819 (by decide) (fun c44 => ?_) (fun c44 => ?_)
    · have h47 := h43.1 c44
      refine lv_iconst (v := iI 0) hx hb dL_law_910 rfl ?_
      exact h47.elim
    · have h48 := h43.2 c44
      refine lv_aload_n hx hb dL_law_822 rfl (lv_at hl 3 rfl) ?_
      refine lv_aload_n hx hb dL_law_823 rfl (lv_at hl 4 rfl) ?_
      refine lv_aload_n hx hb dL_law_824 rfl (lv_at hl 5 rfl) ?_
      refine lv_aload hx hb dL_law_825 (lv_at hl 6 rfl) ?_
      refine lv_aload hx hb dL_law_827 (lv_at hl 7 rfl) ?_
      refine lv_aload hx hb dL_law_829 (lv_at hl 9 rfl) ?_
      refine lv_aload hx hb dL_law_831 (lv_at hl 10 rfl) ?_
      refine lv_aload hx hb dL_law_833 (lv_at hl 11 rfl) ?_
      refine lv_iload hx hb dL_law_835 (lv_at hl 1 rfl) ?_
      obtain ⟨g49, g50, g51, h52⟩ := h48
      obtain ⟨b53, h54⟩ := h52
      obtain ⟨b55, h56⟩ := h54
      obtain ⟨b57, h58⟩ := h56
      obtain ⟨b59, h60⟩ := h58
      refine zs_viR (As := [.ref o_a0, .ref f_a0, .ref n_a0, .ref l_a0, .ref d_a0, .ref k_a0, .ref c_a0, .ref t_a0, .int (iI z5)]) (rest := []) (c_L_files l G o_a0 o_a1 o_a2 o_a3 o_a4 o_a5 o_a6 o_a7 o_a8 o_a9 o_a10 o_a11 o_a12 f_a0 n_a0 l_a0 d_a0 k_a0 c_a0 t_a0 o_cu o_fo o_sv o_hs o_ol o_tt o_s0 o_s1 o_s2 o_s3 o_cs o_ln o_kd o_fk o_hd o_va o_le o_mo f_x n_x l_x d_x k_x c_x t_x z5 g49 g50 g51 r_o_cu r_o_fo r_o_sv r_o_hs r_o_ol r_o_tt r_o_s0 r_o_s1 r_o_s2 r_o_s3 r_o_cs r_o_ln r_o_kd r_o_fk r_o_hd r_o_va r_o_le r_o_mo r_f_x r_n_x r_l_x r_d_x r_k_x r_c_x r_t_x r6 b53 b55 b57 b59) ⟨hx, hb, hml, hown, hts⟩ (va_cwS 9 hts gL_law_L_files rfl rfl rfl hdL_files ⟨Nat.le_of_ble_eq_true rfl, Nat.le_of_ble_eq_true rfl⟩) hK hP hD hS hA [0, 1, 2, 3, 4, 5, 6, 7, 8, 9, 10, 11, 12, 13, 14, 15, 16, 17, 18, 19, 20, 21, 22, 23, 24, 25, 26, 27, 28, 29, 30, 31, 32, 33, 34, 35, 36, 37, 38, 39, 40, 41, 42, 43, 44, 45, 46, 47, 48, 49, 50, 51, 52, 53, 54, 55, 56, 57, 58, 59, 60, 61, 62, 63, 64, 65, 66, 67, 68, 69, 70, 71, 72, 73, 74, 75, 76, 77, 78, 79, 80, 81, 82, 83, 84, 85, 86, 87, 88, 89, 90, 91, 92, 93, 94, 95, 96, 97, 98, 99, 100, 101, 102, 103, 104, 105, 106, 107, 109, 110, 111] rfl rfl rfl hl.1 rfl (Nat.le_of_ble_eq_true rfl) dL_law_837 ⟨hRc (by omega), hRs (by omega)⟩ (fun z62 H locs hw hP hD hS => ?_)
      obtain ⟨r64, h63⟩ := hw
      have h65 := h60 z62 r64 h63
      have hP : va_P G.1 vwCl (flt [W6o G o_a0 o_a4 o_a11 o_a12 o_a5 o_a1 o_a3 o_hs, W0 G o_a1 o_a2 o_cs o_ln, W2 G o_a3 o_kd o_fk o_hd o_va o_le o_mo, W5 G o_a4 o_cu, W1h G o_a5 o_a6 o_a7 o_a8 o_a9 o_a10 o_ol o_tt, W5 G o_a7 o_s0, W5 G o_a8 o_s1, W5 G o_a9 o_s2, W5 G o_a10 o_s3, W5 G o_a11 o_fo, W5 G o_a12 o_sv, [(f_a0, eI G 60 f_x)], [(n_a0, eI G 64 n_x)], [(l_a0, eI G 64 l_x)], [(d_a0, eI G 64 d_x)], [(m_a0, eI G 20 m_x)], [(k_a0, eI G 60 k_x)], [(c_a0, eI G 60 c_x)], [(t_a0, eI G 12 t_x)]]) H := hP
      have hD : va_D A (flt [W6o G o_a0 o_a4 o_a11 o_a12 o_a5 o_a1 o_a3 o_hs, W0 G o_a1 o_a2 o_cs o_ln, W2 G o_a3 o_kd o_fk o_hd o_va o_le o_mo, W5 G o_a4 o_cu, W1h G o_a5 o_a6 o_a7 o_a8 o_a9 o_a10 o_ol o_tt, W5 G o_a7 o_s0, W5 G o_a8 o_s1, W5 G o_a9 o_s2, W5 G o_a10 o_s3, W5 G o_a11 o_fo, W5 G o_a12 o_sv, [(f_a0, eI G 60 f_x)], [(n_a0, eI G 64 n_x)], [(l_a0, eI G 64 l_x)], [(d_a0, eI G 64 d_x)], [(m_a0, eI G 20 m_x)], [(k_a0, eI G 60 k_x)], [(c_a0, eI G 60 c_x)], [(t_a0, eI G 12 t_x)]]) := hD
      refine zr_if_eq (tgt := 910) (x := z62) hx hb r64 dL_law_840 (by decide) (fun c66 => ?_) (fun c66 => ?_)
      · have h69 := h65.1 c66
        refine lv_iconst (v := iI 0) hx hb dL_law_910 rfl ?_
        exact h69.elim
      · have h70 := h65.2 c66
        refine lv_iload hx hb dL_law_843 (lv_at hl 12 rfl) ?_
        refine lv_iconst (v := iI 3) hx hb dL_law_845 rfl ?_
        obtain ⟨r71, h72⟩ := h70
        refine zr_irem (x := ev) (y := 3) hx hb r_ev (by decide) (by decide) r71 dL_law_846 ?_
        refine zr_if_ne (tgt := 912) (x := ev % 3) hx hb (rg_mod r_ev r71 (by decide)) dL_law_847 (by decide) (fun c73 => ?_) (fun c73 => ?_)
        · have h76 := h72.2 c73
          obtain ⟨r77, h78⟩ := h76
          refine zr_iinc (x := ev) (lv' := [(10, .int (iI (ev + 1))), (15, .int (iI (2 + z14))), (14, .int (iI z5)), (0, .ref b), (1, .ref o_a0), (2, .ref f_a0), (3, .ref n_a0), (4, .ref l_a0), (5, .ref d_a0), (6, .ref m_a0), (7, .ref k_a0), (8, .ref c_a0), (9, .ref t_a0), (13, .int (iI isv))]) hx hb dL_law_912 hl (k := 12) rfl (by decide) rfl (fun ls hl => ?_)
          refine lv_goto (tgt := 104) hx hb dL_law_915 (by decide) ?_
          refine W.widen (k := C + 14) (n := S + 688) (by omega) (by omega) ?_
          exact kk104 o_cu o_fo o_sv o_hs o_ol o_tt o_s0 o_s1 o_s2 o_s3 o_cs o_ln o_kd o_fk o_hd o_va o_le o_mo f_x n_x l_x d_x m_x k_x c_x t_x (ev + 1) r_o_cu r_o_fo r_o_sv r_o_hs r_o_ol r_o_tt r_o_s0 r_o_s1 r_o_s2 r_o_s3 r_o_cs r_o_ln r_o_kd r_o_fk r_o_hd r_o_va r_o_le r_o_mo r_f_x r_n_x r_l_x r_d_x r_m_x r_k_x r_c_x r_t_x r77 h78 H locs ls hP hD hS (lv_sub hl [3, 4, 5, 6, 7, 8, 9, 10, 11, 12, 0] rfl)
        · have h79 := h72.1 c73
          refine lv_aload_n hx hb dL_law_850 rfl (lv_at hl 3 rfl) ?_
          refine lv_iload hx hb dL_law_851 (lv_at hl 0 rfl) ?_
          obtain ⟨g80, g81, h82⟩ := h79
          obtain ⟨b83, h84⟩ := h82
          obtain ⟨b85, h86⟩ := h84
          refine zq_vi (As := [.int (iI (2 + z14))]) (rest := []) (L := [W6o G o_a0 o_a4 o_a11 o_a12 o_a5 o_a1 o_a3 o_hs, W0 G o_a1 o_a2 o_cs o_ln, W2 G o_a3 o_kd o_fk o_hd o_va o_le o_mo, W5 G o_a4 o_cu, W1h G o_a5 o_a6 o_a7 o_a8 o_a9 o_a10 o_ol o_tt, W5 G o_a7 o_s0, W5 G o_a8 o_s1, W5 G o_a9 o_s2, W5 G o_a10 o_s3, W5 G o_a11 o_fo, W5 G o_a12 o_sv, [(f_a0, eI G 60 f_x)], [(n_a0, eI G 64 n_x)], [(l_a0, eI G 64 l_x)], [(d_a0, eI G 64 d_x)], [(m_a0, eI G 20 m_x)], [(k_a0, eI G 60 k_x)], [(c_a0, eI G 60 c_x)], [(t_a0, eI G 12 t_x)]]) (LC := [W6o G o_a0 o_a4 o_a11 o_a12 o_a5 o_a1 o_a3 o_hs, W0 G o_a1 o_a2 o_cs o_ln, W2 G o_a3 o_kd o_fk o_hd o_va o_le o_mo, W5 G o_a4 o_cu, W1h G o_a5 o_a6 o_a7 o_a8 o_a9 o_a10 o_ol o_tt, W5 G o_a7 o_s0, W5 G o_a8 o_s1, W5 G o_a9 o_s2, W5 G o_a10 o_s3, W5 G o_a11 o_fo, W5 G o_a12 o_sv]) (LR := [[(f_a0, eI G 60 f_x)], [(n_a0, eI G 64 n_x)], [(l_a0, eI G 64 l_x)], [(d_a0, eI G 64 d_x)], [(m_a0, eI G 20 m_x)], [(k_a0, eI G 60 k_x)], [(c_a0, eI G 60 c_x)], [(t_a0, eI G 12 t_x)]]) (LC1 := fun (u_88 : SS) => [W6o G o_a0 o_a4 o_a11 o_a12 o_a5 o_a1 o_a3 o_hs, W0 G o_a1 o_a2 o_cs o_ln, W2 G o_a3 o_kd o_fk o_hd o_va o_le o_mo, W5 G o_a4 o_cu, W1h G o_a5 o_a6 o_a7 o_a8 o_a9 o_a10 o_ol o_tt, W5 G o_a7 o_s0, W5 G o_a8 o_s1, W5 G o_a9 o_s2, W5 G o_a10 o_s3, W5 G o_a11 u_88, W5 G o_a12 o_sv]) (L2 := fun (u_88 : SS) => [W6o G o_a0 o_a4 o_a11 o_a12 o_a5 o_a1 o_a3 o_hs, W0 G o_a1 o_a2 o_cs o_ln, W2 G o_a3 o_kd o_fk o_hd o_va o_le o_mo, W5 G o_a4 o_cu, W1h G o_a5 o_a6 o_a7 o_a8 o_a9 o_a10 o_ol o_tt, W5 G o_a7 o_s0, W5 G o_a8 o_s1, W5 G o_a9 o_s2, W5 G o_a10 o_s3, W5 G o_a11 u_88, W5 G o_a12 o_sv, [(f_a0, eI G 60 f_x)], [(n_a0, eI G 64 n_x)], [(l_a0, eI G 64 l_x)], [(d_a0, eI G 64 d_x)], [(m_a0, eI G 20 m_x)], [(k_a0, eI G 60 k_x)], [(c_a0, eI G 60 c_x)], [(t_a0, eI G 12 t_x)]]) (c_X6_costsWith l G o_a0 o_a1 o_a2 o_a3 o_a4 o_a5 o_a6 o_a7 o_a8 o_a9 o_a10 o_a11 o_a12 o_cu o_fo o_sv o_hs o_ol o_tt o_s0 o_s1 o_s2 o_s3 o_cs o_ln o_kd o_fk o_hd o_va o_le o_mo (2 + z14) g80 g81 r_o_cu r_o_fo r_o_sv r_o_hs r_o_ol r_o_tt r_o_s0 r_o_s1 r_o_s2 r_o_s3 r_o_cs r_o_ln r_o_kd r_o_fk r_o_hd r_o_va r_o_le r_o_mo r18 b83 b85) ⟨hx, hb, hml, hown, hts⟩ (cwV 1 hts gL_law_X6_costsWith rfl rfl rfl hdX6_costsWith ⟨Nat.le_of_ble_eq_true rfl, Nat.le_of_ble_eq_true rfl⟩) hK hP hD hS hA rfl rfl [0, 1, 2, 3, 4, 5, 6, 7, 8, 9, 10] [11, 12, 13, 14, 15, 16, 17, 18] [0, 1, 2, 3, 4, 5, 6, 7, 8, 9, 10, 11, 12, 13, 14, 15, 16, 17, 18] rfl rfl 19 rfl (by decide) (fun _ => rfl) (fun _ => rfl) (by decide) rfl hl.1 rfl (Nat.le_of_ble_eq_true rfl) dL_law_853 ⟨hRc (by omega), hRs (by omega)⟩ (fun z89 u_88 H locs hw hP hD hS => ?_)
          obtain ⟨u_fo87, rfl⟩ : ∃ q, q = u_88 := ⟨_, rfl⟩
          obtain ⟨r91, ru_fo87, h90⟩ := hw
          have h92 := h86 z89 u_fo87 r91 ru_fo87 h90
          have hP : va_P G.1 vwCl (flt [W6o G o_a0 o_a4 o_a11 o_a12 o_a5 o_a1 o_a3 o_hs, W0 G o_a1 o_a2 o_cs o_ln, W2 G o_a3 o_kd o_fk o_hd o_va o_le o_mo, W5 G o_a4 o_cu, W1h G o_a5 o_a6 o_a7 o_a8 o_a9 o_a10 o_ol o_tt, W5 G o_a7 o_s0, W5 G o_a8 o_s1, W5 G o_a9 o_s2, W5 G o_a10 o_s3, W5 G o_a11 u_fo87, W5 G o_a12 o_sv, [(f_a0, eI G 60 f_x)], [(n_a0, eI G 64 n_x)], [(l_a0, eI G 64 l_x)], [(d_a0, eI G 64 d_x)], [(m_a0, eI G 20 m_x)], [(k_a0, eI G 60 k_x)], [(c_a0, eI G 60 c_x)], [(t_a0, eI G 12 t_x)]]) H := hP
          have hD : va_D A (flt [W6o G o_a0 o_a4 o_a11 o_a12 o_a5 o_a1 o_a3 o_hs, W0 G o_a1 o_a2 o_cs o_ln, W2 G o_a3 o_kd o_fk o_hd o_va o_le o_mo, W5 G o_a4 o_cu, W1h G o_a5 o_a6 o_a7 o_a8 o_a9 o_a10 o_ol o_tt, W5 G o_a7 o_s0, W5 G o_a8 o_s1, W5 G o_a9 o_s2, W5 G o_a10 o_s3, W5 G o_a11 u_fo87, W5 G o_a12 o_sv, [(f_a0, eI G 60 f_x)], [(n_a0, eI G 64 n_x)], [(l_a0, eI G 64 l_x)], [(d_a0, eI G 64 d_x)], [(m_a0, eI G 20 m_x)], [(k_a0, eI G 60 k_x)], [(c_a0, eI G 60 c_x)], [(t_a0, eI G 12 t_x)]]) := hD
          refine lv_aload_n hx hb dL_law_856 rfl (lv_at hl 4 rfl) ?_
          refine lv_aload_n hx hb dL_law_857 rfl (lv_at hl 5 rfl) ?_
          refine lv_aload hx hb dL_law_858 (lv_at hl 6 rfl) ?_
          refine lv_aload hx hb dL_law_860 (lv_at hl 7 rfl) ?_
          refine lv_aload hx hb dL_law_862 (lv_at hl 8 rfl) ?_
          refine lv_aload hx hb dL_law_864 (lv_at hl 9 rfl) ?_
          refine lv_aload hx hb dL_law_866 (lv_at hl 10 rfl) ?_
          refine lv_aload hx hb dL_law_868 (lv_at hl 11 rfl) ?_
          refine lv_iload hx hb dL_law_870 (lv_at hl 0 rfl) ?_
          refine lv_bipush (v := iI 7) hx hb dL_law_872 (by decide) ?_
          obtain ⟨g93, h94⟩ := h92
          obtain ⟨b95, h96⟩ := h94
          obtain ⟨b97, h98⟩ := h96
          obtain ⟨b99, h100⟩ := h98
          obtain ⟨b101, h102⟩ := h100
          obtain ⟨b103, h104⟩ := h102
          obtain ⟨b105, h106⟩ := h104
          refine zs_viRc (As := [.ref f_a0, .ref n_a0, .ref l_a0, .ref d_a0, .ref m_a0, .ref k_a0, .ref c_a0, .ref t_a0, .int (iI (2 + z14)), .int (iI 7)]) (rest := [.int (iI z89)]) (c_L_plan l G f_a0 n_a0 l_a0 d_a0 m_a0 k_a0 c_a0 t_a0 f_x n_x l_x d_x m_x k_x c_x t_x (2 + z14) 7 g93 r_f_x r_n_x r_l_x r_d_x r_m_x r_k_x r_c_x r_t_x r18 rg_7 b95 b97 b99 b101 b103 b105) ⟨hx, hb, hml, hown, hts⟩ (va_cwS 10 hts gL_law_L_plan rfl rfl rfl hdL_plan ⟨Nat.le_of_ble_eq_true rfl, Nat.le_of_ble_eq_true rfl⟩) hK hP hD hS hA [104, 105, 106, 107, 108, 109, 110, 111] rfl rfl rfl hl.1 rfl (Nat.le_of_ble_eq_true rfl) dL_law_874 ⟨hRc (by omega), hRs (by omega)⟩ (fun z108 H locs hw hP hD hS => ?_)
          obtain ⟨r110, h109⟩ := hw
          have h111 := h106 z108 r110 h109
          have hP : va_P G.1 vwCl (flt [W6o G o_a0 o_a4 o_a11 o_a12 o_a5 o_a1 o_a3 o_hs, W0 G o_a1 o_a2 o_cs o_ln, W2 G o_a3 o_kd o_fk o_hd o_va o_le o_mo, W5 G o_a4 o_cu, W1h G o_a5 o_a6 o_a7 o_a8 o_a9 o_a10 o_ol o_tt, W5 G o_a7 o_s0, W5 G o_a8 o_s1, W5 G o_a9 o_s2, W5 G o_a10 o_s3, W5 G o_a11 u_fo87, W5 G o_a12 o_sv, [(f_a0, eI G 60 f_x)], [(n_a0, eI G 64 n_x)], [(l_a0, eI G 64 l_x)], [(d_a0, eI G 64 d_x)], [(m_a0, eI G 20 m_x)], [(k_a0, eI G 60 k_x)], [(c_a0, eI G 60 c_x)], [(t_a0, eI G 12 t_x)]]) H := hP
          have hD : va_D A (flt [W6o G o_a0 o_a4 o_a11 o_a12 o_a5 o_a1 o_a3 o_hs, W0 G o_a1 o_a2 o_cs o_ln, W2 G o_a3 o_kd o_fk o_hd o_va o_le o_mo, W5 G o_a4 o_cu, W1h G o_a5 o_a6 o_a7 o_a8 o_a9 o_a10 o_ol o_tt, W5 G o_a7 o_s0, W5 G o_a8 o_s1, W5 G o_a9 o_s2, W5 G o_a10 o_s3, W5 G o_a11 u_fo87, W5 G o_a12 o_sv, [(f_a0, eI G 60 f_x)], [(n_a0, eI G 64 n_x)], [(l_a0, eI G 64 l_x)], [(d_a0, eI G 64 d_x)], [(m_a0, eI G 20 m_x)], [(k_a0, eI G 60 k_x)], [(c_a0, eI G 60 c_x)], [(t_a0, eI G 12 t_x)]]) := hD
          refine zr_icmp_ne (tgt := 910) (x := z89) (y := z108) hx hb r91 r110 dL_law_877 (by decide) (fun c112 => ?_) (fun c112 => ?_)
          · have h115 := h111.2 c112
            refine lv_iconst (v := iI 0) hx hb dL_law_910 rfl ?_
            exact h115.elim
          · have h116 := h111.1 c112
            refine lv_aload_n hx hb dL_law_880 rfl (lv_at hl 3 rfl) ?_
            refine lv_iload hx hb dL_law_881 (lv_at hl 0 rfl) ?_
            obtain ⟨g117, g118, h119⟩ := h116
            obtain ⟨b120, h121⟩ := h119
            obtain ⟨b122, h123⟩ := h121
            refine zq_vi (As := [.int (iI (2 + z14))]) (rest := []) (L := [W6o G o_a0 o_a4 o_a11 o_a12 o_a5 o_a1 o_a3 o_hs, W0 G o_a1 o_a2 o_cs o_ln, W2 G o_a3 o_kd o_fk o_hd o_va o_le o_mo, W5 G o_a4 o_cu, W1h G o_a5 o_a6 o_a7 o_a8 o_a9 o_a10 o_ol o_tt, W5 G o_a7 o_s0, W5 G o_a8 o_s1, W5 G o_a9 o_s2, W5 G o_a10 o_s3, W5 G o_a11 u_fo87, W5 G o_a12 o_sv, [(f_a0, eI G 60 f_x)], [(n_a0, eI G 64 n_x)], [(l_a0, eI G 64 l_x)], [(d_a0, eI G 64 d_x)], [(m_a0, eI G 20 m_x)], [(k_a0, eI G 60 k_x)], [(c_a0, eI G 60 c_x)], [(t_a0, eI G 12 t_x)]]) (LC := [W6o G o_a0 o_a4 o_a11 o_a12 o_a5 o_a1 o_a3 o_hs, W0 G o_a1 o_a2 o_cs o_ln, W2 G o_a3 o_kd o_fk o_hd o_va o_le o_mo, W5 G o_a4 o_cu, W1h G o_a5 o_a6 o_a7 o_a8 o_a9 o_a10 o_ol o_tt, W5 G o_a7 o_s0, W5 G o_a8 o_s1, W5 G o_a9 o_s2, W5 G o_a10 o_s3, W5 G o_a11 u_fo87, W5 G o_a12 o_sv]) (LR := [[(f_a0, eI G 60 f_x)], [(n_a0, eI G 64 n_x)], [(l_a0, eI G 64 l_x)], [(d_a0, eI G 64 d_x)], [(m_a0, eI G 20 m_x)], [(k_a0, eI G 60 k_x)], [(c_a0, eI G 60 c_x)], [(t_a0, eI G 12 t_x)]]) (LC1 := fun (u_125 : SS) => [W6o G o_a0 o_a4 o_a11 o_a12 o_a5 o_a1 o_a3 o_hs, W0 G o_a1 o_a2 o_cs o_ln, W2 G o_a3 o_kd o_fk o_hd o_va o_le o_mo, W5 G o_a4 o_cu, W1h G o_a5 o_a6 o_a7 o_a8 o_a9 o_a10 o_ol o_tt, W5 G o_a7 o_s0, W5 G o_a8 o_s1, W5 G o_a9 o_s2, W5 G o_a10 o_s3, W5 G o_a11 u_125, W5 G o_a12 o_sv]) (L2 := fun (u_125 : SS) => [W6o G o_a0 o_a4 o_a11 o_a12 o_a5 o_a1 o_a3 o_hs, W0 G o_a1 o_a2 o_cs o_ln, W2 G o_a3 o_kd o_fk o_hd o_va o_le o_mo, W5 G o_a4 o_cu, W1h G o_a5 o_a6 o_a7 o_a8 o_a9 o_a10 o_ol o_tt, W5 G o_a7 o_s0, W5 G o_a8 o_s1, W5 G o_a9 o_s2, W5 G o_a10 o_s3, W5 G o_a11 u_125, W5 G o_a12 o_sv, [(f_a0, eI G 60 f_x)], [(n_a0, eI G 64 n_x)], [(l_a0, eI G 64 l_x)], [(d_a0, eI G 64 d_x)], [(m_a0, eI G 20 m_x)], [(k_a0, eI G 60 k_x)], [(c_a0, eI G 60 c_x)], [(t_a0, eI G 12 t_x)]]) (c_X6_mergesWith l G o_a0 o_a1 o_a2 o_a3 o_a4 o_a5 o_a6 o_a7 o_a8 o_a9 o_a10 o_a11 o_a12 o_cu u_fo87 o_sv o_hs o_ol o_tt o_s0 o_s1 o_s2 o_s3 o_cs o_ln o_kd o_fk o_hd o_va o_le o_mo (2 + z14) g117 g118 r_o_cu ru_fo87 r_o_sv r_o_hs r_o_ol r_o_tt r_o_s0 r_o_s1 r_o_s2 r_o_s3 r_o_cs r_o_ln r_o_kd r_o_fk r_o_hd r_o_va r_o_le r_o_mo r18 b120 b122) ⟨hx, hb, hml, hown, hts⟩ (cwV 1 hts gL_law_X6_mergesWith rfl rfl rfl hdX6_mergesWith ⟨Nat.le_of_ble_eq_true rfl, Nat.le_of_ble_eq_true rfl⟩) hK hP hD hS hA rfl rfl [0, 1, 2, 3, 4, 5, 6, 7, 8, 9, 10] [11, 12, 13, 14, 15, 16, 17, 18] [0, 1, 2, 3, 4, 5, 6, 7, 8, 9, 10, 11, 12, 13, 14, 15, 16, 17, 18] rfl rfl 19 rfl (by decide) (fun _ => rfl) (fun _ => rfl) (by decide) rfl hl.1 rfl (Nat.le_of_ble_eq_true rfl) dL_law_883 ⟨hRc (by omega), hRs (by omega)⟩ (fun z126 u_125 H locs hw hP hD hS => ?_)
            obtain ⟨u_fo124, rfl⟩ : ∃ q, q = u_125 := ⟨_, rfl⟩
            obtain ⟨r128, ru_fo124, h127⟩ := hw
            have h129 := h123 z126 u_fo124 r128 ru_fo124 h127
            have hP : va_P G.1 vwCl (flt [W6o G o_a0 o_a4 o_a11 o_a12 o_a5 o_a1 o_a3 o_hs, W0 G o_a1 o_a2 o_cs o_ln, W2 G o_a3 o_kd o_fk o_hd o_va o_le o_mo, W5 G o_a4 o_cu, W1h G o_a5 o_a6 o_a7 o_a8 o_a9 o_a10 o_ol o_tt, W5 G o_a7 o_s0, W5 G o_a8 o_s1, W5 G o_a9 o_s2, W5 G o_a10 o_s3, W5 G o_a11 u_fo124, W5 G o_a12 o_sv, [(f_a0, eI G 60 f_x)], [(n_a0, eI G 64 n_x)], [(l_a0, eI G 64 l_x)], [(d_a0, eI G 64 d_x)], [(m_a0, eI G 20 m_x)], [(k_a0, eI G 60 k_x)], [(c_a0, eI G 60 c_x)], [(t_a0, eI G 12 t_x)]]) H := hP
            have hD : va_D A (flt [W6o G o_a0 o_a4 o_a11 o_a12 o_a5 o_a1 o_a3 o_hs, W0 G o_a1 o_a2 o_cs o_ln, W2 G o_a3 o_kd o_fk o_hd o_va o_le o_mo, W5 G o_a4 o_cu, W1h G o_a5 o_a6 o_a7 o_a8 o_a9 o_a10 o_ol o_tt, W5 G o_a7 o_s0, W5 G o_a8 o_s1, W5 G o_a9 o_s2, W5 G o_a10 o_s3, W5 G o_a11 u_fo124, W5 G o_a12 o_sv, [(f_a0, eI G 60 f_x)], [(n_a0, eI G 64 n_x)], [(l_a0, eI G 64 l_x)], [(d_a0, eI G 64 d_x)], [(m_a0, eI G 20 m_x)], [(k_a0, eI G 60 k_x)], [(c_a0, eI G 60 c_x)], [(t_a0, eI G 12 t_x)]]) := hD
            refine lv_aload_n hx hb dL_law_886 rfl (lv_at hl 4 rfl) ?_
            refine lv_aload_n hx hb dL_law_887 rfl (lv_at hl 5 rfl) ?_
            refine lv_aload hx hb dL_law_888 (lv_at hl 6 rfl) ?_
            refine lv_aload hx hb dL_law_890 (lv_at hl 7 rfl) ?_
            refine lv_aload hx hb dL_law_892 (lv_at hl 8 rfl) ?_
            refine lv_aload hx hb dL_law_894 (lv_at hl 9 rfl) ?_
            refine lv_aload hx hb dL_law_896 (lv_at hl 10 rfl) ?_
            refine lv_aload hx hb dL_law_898 (lv_at hl 11 rfl) ?_
            refine lv_iload hx hb dL_law_900 (lv_at hl 0 rfl) ?_
            refine lv_bipush (v := iI 8) hx hb dL_law_902 (by decide) ?_
            obtain ⟨g130, h131⟩ := h129
            obtain ⟨b132, h133⟩ := h131
            obtain ⟨b134, h135⟩ := h133
            obtain ⟨b136, h137⟩ := h135
            obtain ⟨b138, h139⟩ := h137
            obtain ⟨b140, h141⟩ := h139
            refine zs_viRc (As := [.ref f_a0, .ref n_a0, .ref l_a0, .ref d_a0, .ref m_a0, .ref k_a0, .ref c_a0, .ref t_a0, .int (iI (2 + z14)), .int (iI 8)]) (rest := [.int (iI z126)]) (c_L_plan l G f_a0 n_a0 l_a0 d_a0 m_a0 k_a0 c_a0 t_a0 f_x n_x l_x d_x m_x k_x c_x t_x (2 + z14) 8 g130 r_f_x r_n_x r_l_x r_d_x r_m_x r_k_x r_c_x r_t_x r18 rg_8 b132 b134 b136 b101 b138 b140) ⟨hx, hb, hml, hown, hts⟩ (va_cwS 10 hts gL_law_L_plan rfl rfl rfl hdL_plan ⟨Nat.le_of_ble_eq_true rfl, Nat.le_of_ble_eq_true rfl⟩) hK hP hD hS hA [104, 105, 106, 107, 108, 109, 110, 111] rfl rfl rfl hl.1 rfl (Nat.le_of_ble_eq_true rfl) dL_law_904 ⟨hRc (by omega), hRs (by omega)⟩ (fun z143 H locs hw hP hD hS => ?_)
            obtain ⟨r145, h144⟩ := hw
            have h146 := h141 z143 r145 h144
            have hP : va_P G.1 vwCl (flt [W6o G o_a0 o_a4 o_a11 o_a12 o_a5 o_a1 o_a3 o_hs, W0 G o_a1 o_a2 o_cs o_ln, W2 G o_a3 o_kd o_fk o_hd o_va o_le o_mo, W5 G o_a4 o_cu, W1h G o_a5 o_a6 o_a7 o_a8 o_a9 o_a10 o_ol o_tt, W5 G o_a7 o_s0, W5 G o_a8 o_s1, W5 G o_a9 o_s2, W5 G o_a10 o_s3, W5 G o_a11 u_fo124, W5 G o_a12 o_sv, [(f_a0, eI G 60 f_x)], [(n_a0, eI G 64 n_x)], [(l_a0, eI G 64 l_x)], [(d_a0, eI G 64 d_x)], [(m_a0, eI G 20 m_x)], [(k_a0, eI G 60 k_x)], [(c_a0, eI G 60 c_x)], [(t_a0, eI G 12 t_x)]]) H := hP
            have hD : va_D A (flt [W6o G o_a0 o_a4 o_a11 o_a12 o_a5 o_a1 o_a3 o_hs, W0 G o_a1 o_a2 o_cs o_ln, W2 G o_a3 o_kd o_fk o_hd o_va o_le o_mo, W5 G o_a4 o_cu, W1h G o_a5 o_a6 o_a7 o_a8 o_a9 o_a10 o_ol o_tt, W5 G o_a7 o_s0, W5 G o_a8 o_s1, W5 G o_a9 o_s2, W5 G o_a10 o_s3, W5 G o_a11 u_fo124, W5 G o_a12 o_sv, [(f_a0, eI G 60 f_x)], [(n_a0, eI G 64 n_x)], [(l_a0, eI G 64 l_x)], [(d_a0, eI G 64 d_x)], [(m_a0, eI G 20 m_x)], [(k_a0, eI G 60 k_x)], [(c_a0, eI G 60 c_x)], [(t_a0, eI G 12 t_x)]]) := hD
            refine zr_icmp_eq (tgt := 912) (x := z126) (y := z143) hx hb r128 r145 dL_law_907 (by decide) (fun c147 => ?_) (fun c147 => ?_)
            · have h150 := h146.1 c147
              obtain ⟨r151, h152⟩ := h150
              refine zr_iinc (x := ev) (lv' := [(10, .int (iI (ev + 1))), (15, .int (iI (2 + z14))), (14, .int (iI z5)), (0, .ref b), (1, .ref o_a0), (2, .ref f_a0), (3, .ref n_a0), (4, .ref l_a0), (5, .ref d_a0), (6, .ref m_a0), (7, .ref k_a0), (8, .ref c_a0), (9, .ref t_a0), (13, .int (iI isv))]) hx hb dL_law_912 hl (k := 12) rfl (by decide) rfl (fun ls hl => ?_)
              refine lv_goto (tgt := 104) hx hb dL_law_915 (by decide) ?_
              refine W.widen (k := C + 14) (n := S + 688) (by omega) (by omega) ?_
              exact kk104 o_cu u_fo124 o_sv o_hs o_ol o_tt o_s0 o_s1 o_s2 o_s3 o_cs o_ln o_kd o_fk o_hd o_va o_le o_mo f_x n_x l_x d_x m_x k_x c_x t_x (ev + 1) r_o_cu ru_fo124 r_o_sv r_o_hs r_o_ol r_o_tt r_o_s0 r_o_s1 r_o_s2 r_o_s3 r_o_cs r_o_ln r_o_kd r_o_fk r_o_hd r_o_va r_o_le r_o_mo r_f_x r_n_x r_l_x r_d_x r_m_x r_k_x r_c_x r_t_x r151 h152 H locs ls hP hD hS (lv_sub hl [3, 4, 5, 6, 7, 8, 9, 10, 11, 12, 0] rfl)
            · have h153 := h146.2 c147
              refine lv_iconst (v := iI 0) hx hb dL_law_910 rfl ?_
              exact h153.elim
