set_option maxRecDepth 100000 in
set_option maxHeartbeats 1600000 in
theorem sg_D1 {p : Program} {l : Launch} {e : Env} {sT : State} {m : MethodId} {below : List Frame} {meth : Method} {c : Code} (G : ZG) {b L : Nat} {xs : Nat → Int32} (A : Nat → Prop) (C S : Nat) (hCC : C + 300 ≤ 600000) (hSS : S + 10000 ≤ 7302250) (hL : L ≤ 260) (D0 : lw_At p sT m meth c b L xs) (hK : va_K G.1 vwCl (tz G) sT) (hA : ∀ q : Nat, sT.heap.size ≤ q → A q) (hAb : ∀ q : Nat, A q → sT.heap.size ≤ q) (o_a0 : Nat) (o_a1 : Nat) (o_a2 : Nat) (o_a3 : Nat) (o_a4 : Nat → Nat) (o_a5 : Nat) (o_a6 : Nat) (o_a7 : Nat → Nat) (o_a8 : Nat → Nat) (o_a9 : Nat → Nat) (o_a10 : Nat → Nat) (o_a11 : Nat → Nat) (o_a12 : Nat → Nat) (f_a0 : Nat) (n_a0 : Nat) (l_a0 : Nat) (d_a0 : Nat) (m_a0 : Nat) (k_a0 : Nat) (c_a0 : Nat) (t_a0 : Nat) (o_cu : SS) (o_fo : SS) (o_sv : SS) (o_hs : Int) (o_ol : Int) (o_tt : Int) (o_s0 : SS) (o_s1 : SS) (o_s2 : SS) (o_s3 : SS) (o_cs : Int → Int) (o_ln : Int) (o_kd : Int) (o_fk : Int) (o_hd : Int) (o_va : Int) (o_le : Int) (o_mo : Int) (f_x : Int → Int) (n_x : Int → Int) (l_x : Int → Int) (d_x : Int → Int) (m_x : Int → Int) (k_x : Int → Int) (c_x : Int → Int) (t_x : Int → Int) (bst : Int) (lst : Int) (sz : Int) (P928 : SS → SS → SS → Int → Int → Int → SS → SS → SS → SS → (Int → Int) → Int → Int → Int → Int → Int → Int → Int → (Int → Int) → (Int → Int) → (Int → Int) → (Int → Int) → (Int → Int) → (Int → Int) → (Int → Int) → (Int → Int) → Int → Int → Int → Prop) (r_o_cu : RG o_cu) (r_o_fo : RG o_fo) (r_o_sv : RG o_sv) (r_o_hs : rg o_hs) (r_o_ol : rg o_ol) (r_o_tt : rg o_tt) (r_o_s0 : RG o_s0) (r_o_s1 : RG o_s1) (r_o_s2 : RG o_s2) (r_o_s3 : RG o_s3) (r_o_cs : rgA o_cs) (r_o_ln : rg o_ln) (r_o_kd : rg o_kd) (r_o_fk : rg o_fk) (r_o_hd : rg o_hd) (r_o_va : rg o_va) (r_o_le : rg o_le) (r_o_mo : rg o_mo) (r_f_x : rgA f_x) (r_n_x : rgA n_x) (r_l_x : rgA l_x) (r_d_x : rgA d_x) (r_m_x : rgA m_x) (r_k_x : rgA k_x) (r_c_x : rgA c_x) (r_t_x : rgA t_x) (r_bst : rg bst) (r_lst : rg lst) (r_sz : rg sz) (hsz : 1 < sz) (hwp : wp_D1 o_cu o_fo o_sv o_hs o_ol o_tt o_s0 o_s1 o_s2 o_s3 o_cs o_ln o_kd o_fk o_hd o_va o_le o_mo f_x n_x l_x d_x m_x k_x c_x t_x bst lst sz P928) (kk928 : ∀ (o_cu' : SS) (o_fo' : SS) (o_sv' : SS) (o_hs' : Int) (o_ol' : Int) (o_tt' : Int) (o_s0' : SS) (o_s1' : SS) (o_s2' : SS) (o_s3' : SS) (o_cs' : Int → Int) (o_ln' : Int) (o_kd' : Int) (o_fk' : Int) (o_hd' : Int) (o_va' : Int) (o_le' : Int) (o_mo' : Int) (f_x' : Int → Int) (n_x' : Int → Int) (l_x' : Int → Int) (d_x' : Int → Int) (m_x' : Int → Int) (k_x' : Int → Int) (c_x' : Int → Int) (t_x' : Int → Int) (i10' : Int) (i11' : Int) (i12' : Int), RG o_cu' → RG o_fo' → RG o_sv' → rg o_hs' → rg o_ol' → rg o_tt' → RG o_s0' → RG o_s1' → RG o_s2' → RG o_s3' → rgA o_cs' → rg o_ln' → rg o_kd' → rg o_fk' → rg o_hd' → rg o_va' → rg o_le' → rg o_mo' → rgA f_x' → rgA n_x' → rgA l_x' → rgA d_x' → rgA m_x' → rgA k_x' → rgA c_x' → rgA t_x' → rg i10' → rg i11' → rg i12' → P928 o_cu' o_fo' o_sv' o_hs' o_ol' o_tt' o_s0' o_s1' o_s2' o_s3' o_cs' o_ln' o_kd' o_fk' o_hd' o_va' o_le' o_mo' f_x' n_x' l_x' d_x' m_x' k_x' c_x' t_x' i10' i11' i12' → ∀ (H : Heap) (locs : List Loc) (ls : Array Slot), va_P G.1 vwCl (flt [W6o G o_a0 o_a4 o_a11 o_a12 o_a5 o_a1 o_a3 o_hs', W0 G o_a1 o_a2 o_cs' o_ln', W2 G o_a3 o_kd' o_fk' o_hd' o_va' o_le' o_mo', W5 G o_a4 o_cu', W1h G o_a5 o_a6 o_a7 o_a8 o_a9 o_a10 o_ol' o_tt', W5 G o_a7 o_s0', W5 G o_a8 o_s1', W5 G o_a9 o_s2', W5 G o_a10 o_s3', W5 G o_a11 o_fo', W5 G o_a12 o_sv', [(f_a0, eI G 60 f_x')], [(n_a0, eI G 64 n_x')], [(l_a0, eI G 64 l_x')], [(d_a0, eI G 64 d_x')], [(m_a0, eI G 20 m_x')], [(k_a0, eI G 60 k_x')], [(c_a0, eI G 60 c_x')], [(t_a0, eI G 12 t_x')]]) H → va_D A (flt [W6o G o_a0 o_a4 o_a11 o_a12 o_a5 o_a1 o_a3 o_hs', W0 G o_a1 o_a2 o_cs' o_ln', W2 G o_a3 o_kd' o_fk' o_hd' o_va' o_le' o_mo', W5 G o_a4 o_cu', W1h G o_a5 o_a6 o_a7 o_a8 o_a9 o_a10 o_ol' o_tt', W5 G o_a7 o_s0', W5 G o_a8 o_s1', W5 G o_a9 o_s2', W5 G o_a10 o_s3', W5 G o_a11 o_fo', W5 G o_a12 o_sv', [(f_a0, eI G 60 f_x')], [(n_a0, eI G 64 n_x')], [(l_a0, eI G 64 l_x')], [(d_a0, eI G 64 d_x')], [(m_a0, eI G 20 m_x')], [(k_a0, eI G 60 k_x')], [(c_a0, eI G 60 c_x')], [(t_a0, eI G 12 t_x')]]) → va_S A sT.heap H locs → lv_has ls 16 [(0, .ref b), (1, .ref o_a0), (2, .ref f_a0), (3, .ref n_a0), (4, .ref l_a0), (5, .ref d_a0), (6, .ref m_a0), (7, .ref k_a0), (8, .ref c_a0), (9, .ref t_a0), (10, .int (iI i10')), (11, .int (iI i11')), (12, .int (iI i12'))] → W p l e room_1 sT m #[Value.ref b] below meth c H locs (C + 7) (S + 344) (lw_Z below #[Value.ref b] sT) (F0 m 928 ls [])) : ∀ (H : Heap) (locs : List Loc) (ls : Array Slot), va_P G.1 vwCl (flt [W6o G o_a0 o_a4 o_a11 o_a12 o_a5 o_a1 o_a3 o_hs, W0 G o_a1 o_a2 o_cs o_ln, W2 G o_a3 o_kd o_fk o_hd o_va o_le o_mo, W5 G o_a4 o_cu, W1h G o_a5 o_a6 o_a7 o_a8 o_a9 o_a10 o_ol o_tt, W5 G o_a7 o_s0, W5 G o_a8 o_s1, W5 G o_a9 o_s2, W5 G o_a10 o_s3, W5 G o_a11 o_fo, W5 G o_a12 o_sv, [(f_a0, eI G 60 f_x)], [(n_a0, eI G 64 n_x)], [(l_a0, eI G 64 l_x)], [(d_a0, eI G 64 d_x)], [(m_a0, eI G 20 m_x)], [(k_a0, eI G 60 k_x)], [(c_a0, eI G 60 c_x)], [(t_a0, eI G 12 t_x)]]) H → va_D A (flt [W6o G o_a0 o_a4 o_a11 o_a12 o_a5 o_a1 o_a3 o_hs, W0 G o_a1 o_a2 o_cs o_ln, W2 G o_a3 o_kd o_fk o_hd o_va o_le o_mo, W5 G o_a4 o_cu, W1h G o_a5 o_a6 o_a7 o_a8 o_a9 o_a10 o_ol o_tt, W5 G o_a7 o_s0, W5 G o_a8 o_s1, W5 G o_a9 o_s2, W5 G o_a10 o_s3, W5 G o_a11 o_fo, W5 G o_a12 o_sv, [(f_a0, eI G 60 f_x)], [(n_a0, eI G 64 n_x)], [(l_a0, eI G 64 l_x)], [(d_a0, eI G 64 d_x)], [(m_a0, eI G 20 m_x)], [(k_a0, eI G 60 k_x)], [(c_a0, eI G 60 c_x)], [(t_a0, eI G 12 t_x)]]) → va_S A sT.heap H locs → lv_has ls 16 [(0, .ref b), (1, .ref o_a0), (2, .ref f_a0), (3, .ref n_a0), (4, .ref l_a0), (5, .ref d_a0), (6, .ref m_a0), (7, .ref k_a0), (8, .ref c_a0), (9, .ref t_a0), (10, .int (iI bst)), (11, .int (iI lst)), (12, .int (iI sz))] → W p l e room_1 sT m #[Value.ref b] below meth c H locs C S (lw_Z below #[Value.ref b] sT) (F0 m 928 ls []) := by
  unfold wp_D1 at hwp
  obtain ⟨hx, hb, hr, hml, hown, hts0, hX, hbl, hlocks, hgv⟩ := D0
  have hts : ∀ w ∈ wsL_law, w.before #[Value.ref b] sT = true := fun w h => hts0 w (wsL_law_in w h)
  have hbA : ¬ A b := fun h => absurd (hAb b h) (Nat.not_le.mpr hbl)
  have hRc : ∀ {x : Nat}, x ≤ 600000 → x ≤ room_1.cells := fun h => h
  have hRs : ∀ {x : Nat}, x ≤ 7302250 → x ≤ room_1.slots := fun h => h
  intro H locs ls hP hD hS hl
  refine lv_iload hx hb dL_law_928 (lv_at hl 12 rfl) ?_
  refine lv_iconst (v := iI 1) hx hb dL_law_930 rfl ?_
  refine zr_icmp_le (tgt := 1005) (x := sz) (y := 1) hx hb r_sz rg_1 dL_law_931 (by decide) (fun c => absurd hsz c) (fun _ => ?_)
  refine lv_aload_n hx hb dL_law_934 rfl (lv_at hl 2 rfl) ?_
  refine lv_aload_n hx hb dL_law_935 rfl (lv_at hl 3 rfl) ?_
  refine lv_aload hx hb dL_law_936 (lv_at hl 4 rfl) ?_
  refine lv_aload hx hb dL_law_938 (lv_at hl 5 rfl) ?_
  refine lv_aload hx hb dL_law_940 (lv_at hl 6 rfl) ?_
  refine lv_aload hx hb dL_law_942 (lv_at hl 7 rfl) ?_
  refine lv_aload hx hb dL_law_944 (lv_at hl 8 rfl) ?_
  refine lv_aload hx hb dL_law_946 (lv_at hl 9 rfl) ?_
  refine lv_iload hx hb dL_law_948 (lv_at hl 12 rfl) ?_
  refine lv_bipush (v := iI 7) hx hb dL_law_950 (by decide) ?_
  obtain ⟨g1, h2⟩ := hwp
  obtain ⟨b3, h4⟩ := h2
  obtain ⟨b5, h6⟩ := h4
  obtain ⟨b7, h8⟩ := h6
  obtain ⟨b9, h10⟩ := h8
  obtain ⟨b11, h12⟩ := h10
  obtain ⟨b13, h14⟩ := h12
  refine zs_viRc (As := [.ref f_a0, .ref n_a0, .ref l_a0, .ref d_a0, .ref m_a0, .ref k_a0, .ref c_a0, .ref t_a0, .int (iI sz), .int (iI 7)]) (rest := []) (c_L_plan l G f_a0 n_a0 l_a0 d_a0 m_a0 k_a0 c_a0 t_a0 f_x n_x l_x d_x m_x k_x c_x t_x sz 7 g1 r_f_x r_n_x r_l_x r_d_x r_m_x r_k_x r_c_x r_t_x r_sz rg_7 b3 b5 b7 b9 b11 b13) ⟨hx, hb, hml, hown, hts⟩ (va_cwS 10 hts gL_law_L_plan rfl rfl rfl hdL_plan ⟨Nat.le_of_ble_eq_true rfl, Nat.le_of_ble_eq_true rfl⟩) hK hP hD hS hA [104, 105, 106, 107, 108, 109, 110, 111] rfl rfl rfl hl.1 rfl (Nat.le_of_ble_eq_true rfl) dL_law_952 ⟨hRc (by omega), hRs (by omega)⟩ (fun z16 H locs hw hP hD hS => ?_)
  obtain ⟨r18, h17⟩ := hw
  have h19 := h14 z16 r18 h17
  have hP : va_P G.1 vwCl (flt [W6o G o_a0 o_a4 o_a11 o_a12 o_a5 o_a1 o_a3 o_hs, W0 G o_a1 o_a2 o_cs o_ln, W2 G o_a3 o_kd o_fk o_hd o_va o_le o_mo, W5 G o_a4 o_cu, W1h G o_a5 o_a6 o_a7 o_a8 o_a9 o_a10 o_ol o_tt, W5 G o_a7 o_s0, W5 G o_a8 o_s1, W5 G o_a9 o_s2, W5 G o_a10 o_s3, W5 G o_a11 o_fo, W5 G o_a12 o_sv, [(f_a0, eI G 60 f_x)], [(n_a0, eI G 64 n_x)], [(l_a0, eI G 64 l_x)], [(d_a0, eI G 64 d_x)], [(m_a0, eI G 20 m_x)], [(k_a0, eI G 60 k_x)], [(c_a0, eI G 60 c_x)], [(t_a0, eI G 12 t_x)]]) H := hP
  have hD : va_D A (flt [W6o G o_a0 o_a4 o_a11 o_a12 o_a5 o_a1 o_a3 o_hs, W0 G o_a1 o_a2 o_cs o_ln, W2 G o_a3 o_kd o_fk o_hd o_va o_le o_mo, W5 G o_a4 o_cu, W1h G o_a5 o_a6 o_a7 o_a8 o_a9 o_a10 o_ol o_tt, W5 G o_a7 o_s0, W5 G o_a8 o_s1, W5 G o_a9 o_s2, W5 G o_a10 o_s3, W5 G o_a11 o_fo, W5 G o_a12 o_sv, [(f_a0, eI G 60 f_x)], [(n_a0, eI G 64 n_x)], [(l_a0, eI G 64 l_x)], [(d_a0, eI G 64 d_x)], [(m_a0, eI G 20 m_x)], [(k_a0, eI G 60 k_x)], [(c_a0, eI G 60 c_x)], [(t_a0, eI G 12 t_x)]]) := hD
  refine lv_istore (lv' := [(13, .int (iI z16)), (0, .ref b), (1, .ref o_a0), (2, .ref f_a0), (3, .ref n_a0), (4, .ref l_a0), (5, .ref d_a0), (6, .ref m_a0), (7, .ref k_a0), (8, .ref c_a0), (9, .ref t_a0), (10, .int (iI bst)), (11, .int (iI lst)), (12, .int (iI sz))]) hx hb dL_law_955 hl (by decide) rfl (fun ls hl => ?_)
  refine lv_iload hx hb dL_law_957 (lv_at hl 0 rfl) ?_
  refine zr_if_lt (tgt := 979) (x := z16) hx hb r18 dL_law_959 (by decide) (fun c20 => ?_) (fun c20 => ?_)
  · have h23 := h19.1 c20
    refine lv_iload hx hb dL_law_979 (lv_at hl 11 rfl) ?_
    refine lv_istore (lv' := [(10, .int (iI bst)), (13, .int (iI z16)), (0, .ref b), (1, .ref o_a0), (2, .ref f_a0), (3, .ref n_a0), (4, .ref l_a0), (5, .ref d_a0), (6, .ref m_a0), (7, .ref k_a0), (8, .ref c_a0), (9, .ref t_a0), (11, .int (iI lst)), (12, .int (iI sz))]) hx hb dL_law_981 hl (by decide) rfl (fun ls hl => ?_)
    refine lv_iload hx hb dL_law_983 (lv_at hl 0 rfl) ?_
    refine lv_iload hx hb dL_law_985 (lv_at hl 13 rfl) ?_
    refine zr_icmp_ne (tgt := 995) (x := bst) (y := sz) hx hb r_bst r_sz dL_law_987 (by decide) (fun c24 => ?_) (fun c24 => ?_)
    · have h27 := h23.2 c24
      refine lv_iload hx hb dL_law_995 (lv_at hl 12 rfl) ?_
      refine lv_istore (lv' := [(11, .int (iI lst)), (10, .int (iI bst)), (13, .int (iI z16)), (0, .ref b), (1, .ref o_a0), (2, .ref f_a0), (3, .ref n_a0), (4, .ref l_a0), (5, .ref d_a0), (6, .ref m_a0), (7, .ref k_a0), (8, .ref c_a0), (9, .ref t_a0), (12, .int (iI sz))]) hx hb dL_law_997 hl (by decide) rfl (fun ls hl => ?_)
      obtain ⟨r28, h29⟩ := h27
      refine zr_iinc (x := sz) (lv' := [(12, .int (iI (sz + (-1)))), (11, .int (iI lst)), (10, .int (iI bst)), (13, .int (iI z16)), (0, .ref b), (1, .ref o_a0), (2, .ref f_a0), (3, .ref n_a0), (4, .ref l_a0), (5, .ref d_a0), (6, .ref m_a0), (7, .ref k_a0), (8, .ref c_a0), (9, .ref t_a0)]) hx hb dL_law_999 hl (k := 13) rfl (by decide) rfl (fun ls hl => ?_)
      refine lv_goto (tgt := 928) hx hb dL_law_1002 (by decide) ?_
      refine W.widen (k := C + 7) (n := S + 344) (by omega) (by omega) ?_
      exact kk928 o_cu o_fo o_sv o_hs o_ol o_tt o_s0 o_s1 o_s2 o_s3 o_cs o_ln o_kd o_fk o_hd o_va o_le o_mo f_x n_x l_x d_x m_x k_x c_x t_x bst lst (sz + (-1)) r_o_cu r_o_fo r_o_sv r_o_hs r_o_ol r_o_tt r_o_s0 r_o_s1 r_o_s2 r_o_s3 r_o_cs r_o_ln r_o_kd r_o_fk r_o_hd r_o_va r_o_le r_o_mo r_f_x r_n_x r_l_x r_d_x r_m_x r_k_x r_c_x r_t_x r_bst r_lst r28 h29 H locs ls hP hD hS (lv_sub hl [4, 5, 6, 7, 8, 9, 10, 11, 12, 13, 2, 1, 0] rfl)
    · have h30 := h23.1 c24
      refine lv_iload hx hb dL_law_990 (lv_at hl 1 rfl) ?_
      refine lv_goto (tgt := 997) hx hb dL_law_992 (by decide) ?_
      refine lv_istore (lv' := [(11, .int (iI z16)), (10, .int (iI bst)), (13, .int (iI z16)), (0, .ref b), (1, .ref o_a0), (2, .ref f_a0), (3, .ref n_a0), (4, .ref l_a0), (5, .ref d_a0), (6, .ref m_a0), (7, .ref k_a0), (8, .ref c_a0), (9, .ref t_a0), (12, .int (iI sz))]) hx hb dL_law_997 hl (by decide) rfl (fun ls hl => ?_)
      obtain ⟨r31, h32⟩ := h30
      refine zr_iinc (x := sz) (lv' := [(12, .int (iI (sz + (-1)))), (11, .int (iI z16)), (10, .int (iI bst)), (13, .int (iI z16)), (0, .ref b), (1, .ref o_a0), (2, .ref f_a0), (3, .ref n_a0), (4, .ref l_a0), (5, .ref d_a0), (6, .ref m_a0), (7, .ref k_a0), (8, .ref c_a0), (9, .ref t_a0)]) hx hb dL_law_999 hl (k := 13) rfl (by decide) rfl (fun ls hl => ?_)
      refine lv_goto (tgt := 928) hx hb dL_law_1002 (by decide) ?_
      refine W.widen (k := C + 7) (n := S + 344) (by omega) (by omega) ?_
      exact kk928 o_cu o_fo o_sv o_hs o_ol o_tt o_s0 o_s1 o_s2 o_s3 o_cs o_ln o_kd o_fk o_hd o_va o_le o_mo f_x n_x l_x d_x m_x k_x c_x t_x bst z16 (sz + (-1)) r_o_cu r_o_fo r_o_sv r_o_hs r_o_ol r_o_tt r_o_s0 r_o_s1 r_o_s2 r_o_s3 r_o_cs r_o_ln r_o_kd r_o_fk r_o_hd r_o_va r_o_le r_o_mo r_f_x r_n_x r_l_x r_d_x r_m_x r_k_x r_c_x r_t_x r_bst r18 r31 h32 H locs ls hP hD hS (lv_sub hl [4, 5, 6, 7, 8, 9, 10, 11, 12, 13, 2, 1, 0] rfl)
  · have h33 := h19.2 c20
    refine lv_iload hx hb dL_law_962 (lv_at hl 11 rfl) ?_
    refine zr_if_lt (tgt := 974) (x := bst) hx hb r_bst dL_law_964 (by decide) (fun c34 => ?_) (fun c34 => ?_)
    · have h37 := h33.1 c34
      refine lv_iload hx hb dL_law_974 (lv_at hl 13 rfl) ?_
      refine lv_goto (tgt := 981) hx hb dL_law_976 (by decide) ?_
      refine lv_istore (lv' := [(10, .int (iI sz)), (13, .int (iI z16)), (0, .ref b), (1, .ref o_a0), (2, .ref f_a0), (3, .ref n_a0), (4, .ref l_a0), (5, .ref d_a0), (6, .ref m_a0), (7, .ref k_a0), (8, .ref c_a0), (9, .ref t_a0), (11, .int (iI lst)), (12, .int (iI sz))]) hx hb dL_law_981 hl (by decide) rfl (fun ls hl => ?_)
      refine lv_iload hx hb dL_law_983 (lv_at hl 0 rfl) ?_
      refine lv_iload hx hb dL_law_985 (lv_at hl 13 rfl) ?_
      refine zr_icmp_ne (tgt := 995) (x := sz) (y := sz) hx hb r_sz r_sz dL_law_987 (by decide) (fun c38 => ?_) (fun c38 => ?_)
      · have h41 := h37.2 c38
        refine lv_iload hx hb dL_law_995 (lv_at hl 12 rfl) ?_
        refine lv_istore (lv' := [(11, .int (iI lst)), (10, .int (iI sz)), (13, .int (iI z16)), (0, .ref b), (1, .ref o_a0), (2, .ref f_a0), (3, .ref n_a0), (4, .ref l_a0), (5, .ref d_a0), (6, .ref m_a0), (7, .ref k_a0), (8, .ref c_a0), (9, .ref t_a0), (12, .int (iI sz))]) hx hb dL_law_997 hl (by decide) rfl (fun ls hl => ?_)
        obtain ⟨r42, h43⟩ := h41
        refine zr_iinc (x := sz) (lv' := [(12, .int (iI (sz + (-1)))), (11, .int (iI lst)), (10, .int (iI sz)), (13, .int (iI z16)), (0, .ref b), (1, .ref o_a0), (2, .ref f_a0), (3, .ref n_a0), (4, .ref l_a0), (5, .ref d_a0), (6, .ref m_a0), (7, .ref k_a0), (8, .ref c_a0), (9, .ref t_a0)]) hx hb dL_law_999 hl (k := 13) rfl (by decide) rfl (fun ls hl => ?_)
        refine lv_goto (tgt := 928) hx hb dL_law_1002 (by decide) ?_
        refine W.widen (k := C + 7) (n := S + 344) (by omega) (by omega) ?_
        exact kk928 o_cu o_fo o_sv o_hs o_ol o_tt o_s0 o_s1 o_s2 o_s3 o_cs o_ln o_kd o_fk o_hd o_va o_le o_mo f_x n_x l_x d_x m_x k_x c_x t_x sz lst (sz + (-1)) r_o_cu r_o_fo r_o_sv r_o_hs r_o_ol r_o_tt r_o_s0 r_o_s1 r_o_s2 r_o_s3 r_o_cs r_o_ln r_o_kd r_o_fk r_o_hd r_o_va r_o_le r_o_mo r_f_x r_n_x r_l_x r_d_x r_m_x r_k_x r_c_x r_t_x r_sz r_lst r42 h43 H locs ls hP hD hS (lv_sub hl [4, 5, 6, 7, 8, 9, 10, 11, 12, 13, 2, 1, 0] rfl)
      · have h44 := h37.1 c38
        refine lv_iload hx hb dL_law_990 (lv_at hl 1 rfl) ?_
        refine lv_goto (tgt := 997) hx hb dL_law_992 (by decide) ?_
        refine lv_istore (lv' := [(11, .int (iI z16)), (10, .int (iI sz)), (13, .int (iI z16)), (0, .ref b), (1, .ref o_a0), (2, .ref f_a0), (3, .ref n_a0), (4, .ref l_a0), (5, .ref d_a0), (6, .ref m_a0), (7, .ref k_a0), (8, .ref c_a0), (9, .ref t_a0), (12, .int (iI sz))]) hx hb dL_law_997 hl (by decide) rfl (fun ls hl => ?_)
        obtain ⟨r45, h46⟩ := h44
        refine zr_iinc (x := sz) (lv' := [(12, .int (iI (sz + (-1)))), (11, .int (iI z16)), (10, .int (iI sz)), (13, .int (iI z16)), (0, .ref b), (1, .ref o_a0), (2, .ref f_a0), (3, .ref n_a0), (4, .ref l_a0), (5, .ref d_a0), (6, .ref m_a0), (7, .ref k_a0), (8, .ref c_a0), (9, .ref t_a0)]) hx hb dL_law_999 hl (k := 13) rfl (by decide) rfl (fun ls hl => ?_)
        refine lv_goto (tgt := 928) hx hb dL_law_1002 (by decide) ?_
        refine W.widen (k := C + 7) (n := S + 344) (by omega) (by omega) ?_
        exact kk928 o_cu o_fo o_sv o_hs o_ol o_tt o_s0 o_s1 o_s2 o_s3 o_cs o_ln o_kd o_fk o_hd o_va o_le o_mo f_x n_x l_x d_x m_x k_x c_x t_x sz z16 (sz + (-1)) r_o_cu r_o_fo r_o_sv r_o_hs r_o_ol r_o_tt r_o_s0 r_o_s1 r_o_s2 r_o_s3 r_o_cs r_o_ln r_o_kd r_o_fk r_o_hd r_o_va r_o_le r_o_mo r_f_x r_n_x r_l_x r_d_x r_m_x r_k_x r_c_x r_t_x r_sz r18 r45 h46 H locs ls hP hD hS (lv_sub hl [4, 5, 6, 7, 8, 9, 10, 11, 12, 13, 2, 1, 0] rfl)
    · have h47 := h33.2 c34
      refine lv_iload hx hb dL_law_967 (lv_at hl 0 rfl) ?_
      refine lv_iload hx hb dL_law_969 (lv_at hl 12 rfl) ?_
      refine zr_icmp_gt (tgt := 979) (x := z16) (y := lst) hx hb r18 r_lst dL_law_971 (by decide) (fun c48 => ?_) (fun c48 => ?_)
      · have h51 := h47.1 c48
        refine lv_iload hx hb dL_law_979 (lv_at hl 11 rfl) ?_
        refine lv_istore (lv' := [(10, .int (iI bst)), (13, .int (iI z16)), (0, .ref b), (1, .ref o_a0), (2, .ref f_a0), (3, .ref n_a0), (4, .ref l_a0), (5, .ref d_a0), (6, .ref m_a0), (7, .ref k_a0), (8, .ref c_a0), (9, .ref t_a0), (11, .int (iI lst)), (12, .int (iI sz))]) hx hb dL_law_981 hl (by decide) rfl (fun ls hl => ?_)
        refine lv_iload hx hb dL_law_983 (lv_at hl 0 rfl) ?_
        refine lv_iload hx hb dL_law_985 (lv_at hl 13 rfl) ?_
        refine zr_icmp_ne (tgt := 995) (x := bst) (y := sz) hx hb r_bst r_sz dL_law_987 (by decide) (fun c52 => ?_) (fun c52 => ?_)
        · have h55 := h51.2 c52
          refine lv_iload hx hb dL_law_995 (lv_at hl 12 rfl) ?_
          refine lv_istore (lv' := [(11, .int (iI lst)), (10, .int (iI bst)), (13, .int (iI z16)), (0, .ref b), (1, .ref o_a0), (2, .ref f_a0), (3, .ref n_a0), (4, .ref l_a0), (5, .ref d_a0), (6, .ref m_a0), (7, .ref k_a0), (8, .ref c_a0), (9, .ref t_a0), (12, .int (iI sz))]) hx hb dL_law_997 hl (by decide) rfl (fun ls hl => ?_)
          obtain ⟨r56, h57⟩ := h55
          refine zr_iinc (x := sz) (lv' := [(12, .int (iI (sz + (-1)))), (11, .int (iI lst)), (10, .int (iI bst)), (13, .int (iI z16)), (0, .ref b), (1, .ref o_a0), (2, .ref f_a0), (3, .ref n_a0), (4, .ref l_a0), (5, .ref d_a0), (6, .ref m_a0), (7, .ref k_a0), (8, .ref c_a0), (9, .ref t_a0)]) hx hb dL_law_999 hl (k := 13) rfl (by decide) rfl (fun ls hl => ?_)
          refine lv_goto (tgt := 928) hx hb dL_law_1002 (by decide) ?_
          refine W.widen (k := C + 7) (n := S + 344) (by omega) (by omega) ?_
          exact kk928 o_cu o_fo o_sv o_hs o_ol o_tt o_s0 o_s1 o_s2 o_s3 o_cs o_ln o_kd o_fk o_hd o_va o_le o_mo f_x n_x l_x d_x m_x k_x c_x t_x bst lst (sz + (-1)) r_o_cu r_o_fo r_o_sv r_o_hs r_o_ol r_o_tt r_o_s0 r_o_s1 r_o_s2 r_o_s3 r_o_cs r_o_ln r_o_kd r_o_fk r_o_hd r_o_va r_o_le r_o_mo r_f_x r_n_x r_l_x r_d_x r_m_x r_k_x r_c_x r_t_x r_bst r_lst r56 h57 H locs ls hP hD hS (lv_sub hl [4, 5, 6, 7, 8, 9, 10, 11, 12, 13, 2, 1, 0] rfl)
        · have h58 := h51.1 c52
          refine lv_iload hx hb dL_law_990 (lv_at hl 1 rfl) ?_
          refine lv_goto (tgt := 997) hx hb dL_law_992 (by decide) ?_
          refine lv_istore (lv' := [(11, .int (iI z16)), (10, .int (iI bst)), (13, .int (iI z16)), (0, .ref b), (1, .ref o_a0), (2, .ref f_a0), (3, .ref n_a0), (4, .ref l_a0), (5, .ref d_a0), (6, .ref m_a0), (7, .ref k_a0), (8, .ref c_a0), (9, .ref t_a0), (12, .int (iI sz))]) hx hb dL_law_997 hl (by decide) rfl (fun ls hl => ?_)
          obtain ⟨r59, h60⟩ := h58
          refine zr_iinc (x := sz) (lv' := [(12, .int (iI (sz + (-1)))), (11, .int (iI z16)), (10, .int (iI bst)), (13, .int (iI z16)), (0, .ref b), (1, .ref o_a0), (2, .ref f_a0), (3, .ref n_a0), (4, .ref l_a0), (5, .ref d_a0), (6, .ref m_a0), (7, .ref k_a0), (8, .ref c_a0), (9, .ref t_a0)]) hx hb dL_law_999 hl (k := 13) rfl (by decide) rfl (fun ls hl => ?_)
          refine lv_goto (tgt := 928) hx hb dL_law_1002 (by decide) ?_
          refine W.widen (k := C + 7) (n := S + 344) (by omega) (by omega) ?_
          exact kk928 o_cu o_fo o_sv o_hs o_ol o_tt o_s0 o_s1 o_s2 o_s3 o_cs o_ln o_kd o_fk o_hd o_va o_le o_mo f_x n_x l_x d_x m_x k_x c_x t_x bst z16 (sz + (-1)) r_o_cu r_o_fo r_o_sv r_o_hs r_o_ol r_o_tt r_o_s0 r_o_s1 r_o_s2 r_o_s3 r_o_cs r_o_ln r_o_kd r_o_fk r_o_hd r_o_va r_o_le r_o_mo r_f_x r_n_x r_l_x r_d_x r_m_x r_k_x r_c_x r_t_x r_bst r18 r59 h60 H locs ls hP hD hS (lv_sub hl [4, 5, 6, 7, 8, 9, 10, 11, 12, 13, 2, 1, 0] rfl)
      · have h61 := h47.2 c48
        refine lv_iload hx hb dL_law_974 (lv_at hl 13 rfl) ?_
        refine lv_goto (tgt := 981) hx hb dL_law_976 (by decide) ?_
        refine lv_istore (lv' := [(10, .int (iI sz)), (13, .int (iI z16)), (0, .ref b), (1, .ref o_a0), (2, .ref f_a0), (3, .ref n_a0), (4, .ref l_a0), (5, .ref d_a0), (6, .ref m_a0), (7, .ref k_a0), (8, .ref c_a0), (9, .ref t_a0), (11, .int (iI lst)), (12, .int (iI sz))]) hx hb dL_law_981 hl (by decide) rfl (fun ls hl => ?_)
        refine lv_iload hx hb dL_law_983 (lv_at hl 0 rfl) ?_
        refine lv_iload hx hb dL_law_985 (lv_at hl 13 rfl) ?_
        refine zr_icmp_ne (tgt := 995) (x := sz) (y := sz) hx hb r_sz r_sz dL_law_987 (by decide) (fun c62 => ?_) (fun c62 => ?_)
        · have h65 := h61.2 c62
          refine lv_iload hx hb dL_law_995 (lv_at hl 12 rfl) ?_
          refine lv_istore (lv' := [(11, .int (iI lst)), (10, .int (iI sz)), (13, .int (iI z16)), (0, .ref b), (1, .ref o_a0), (2, .ref f_a0), (3, .ref n_a0), (4, .ref l_a0), (5, .ref d_a0), (6, .ref m_a0), (7, .ref k_a0), (8, .ref c_a0), (9, .ref t_a0), (12, .int (iI sz))]) hx hb dL_law_997 hl (by decide) rfl (fun ls hl => ?_)
          obtain ⟨r66, h67⟩ := h65
          refine zr_iinc (x := sz) (lv' := [(12, .int (iI (sz + (-1)))), (11, .int (iI lst)), (10, .int (iI sz)), (13, .int (iI z16)), (0, .ref b), (1, .ref o_a0), (2, .ref f_a0), (3, .ref n_a0), (4, .ref l_a0), (5, .ref d_a0), (6, .ref m_a0), (7, .ref k_a0), (8, .ref c_a0), (9, .ref t_a0)]) hx hb dL_law_999 hl (k := 13) rfl (by decide) rfl (fun ls hl => ?_)
          refine lv_goto (tgt := 928) hx hb dL_law_1002 (by decide) ?_
          refine W.widen (k := C + 7) (n := S + 344) (by omega) (by omega) ?_
          exact kk928 o_cu o_fo o_sv o_hs o_ol o_tt o_s0 o_s1 o_s2 o_s3 o_cs o_ln o_kd o_fk o_hd o_va o_le o_mo f_x n_x l_x d_x m_x k_x c_x t_x sz lst (sz + (-1)) r_o_cu r_o_fo r_o_sv r_o_hs r_o_ol r_o_tt r_o_s0 r_o_s1 r_o_s2 r_o_s3 r_o_cs r_o_ln r_o_kd r_o_fk r_o_hd r_o_va r_o_le r_o_mo r_f_x r_n_x r_l_x r_d_x r_m_x r_k_x r_c_x r_t_x r_sz r_lst r66 h67 H locs ls hP hD hS (lv_sub hl [4, 5, 6, 7, 8, 9, 10, 11, 12, 13, 2, 1, 0] rfl)
        · have h68 := h61.1 c62
          refine lv_iload hx hb dL_law_990 (lv_at hl 1 rfl) ?_
          refine lv_goto (tgt := 997) hx hb dL_law_992 (by decide) ?_
          refine lv_istore (lv' := [(11, .int (iI z16)), (10, .int (iI sz)), (13, .int (iI z16)), (0, .ref b), (1, .ref o_a0), (2, .ref f_a0), (3, .ref n_a0), (4, .ref l_a0), (5, .ref d_a0), (6, .ref m_a0), (7, .ref k_a0), (8, .ref c_a0), (9, .ref t_a0), (12, .int (iI sz))]) hx hb dL_law_997 hl (by decide) rfl (fun ls hl => ?_)
          obtain ⟨r69, h70⟩ := h68
          refine zr_iinc (x := sz) (lv' := [(12, .int (iI (sz + (-1)))), (11, .int (iI z16)), (10, .int (iI sz)), (13, .int (iI z16)), (0, .ref b), (1, .ref o_a0), (2, .ref f_a0), (3, .ref n_a0), (4, .ref l_a0), (5, .ref d_a0), (6, .ref m_a0), (7, .ref k_a0), (8, .ref c_a0), (9, .ref t_a0)]) hx hb dL_law_999 hl (k := 13) rfl (by decide) rfl (fun ls hl => ?_)
          refine lv_goto (tgt := 928) hx hb dL_law_1002 (by decide) ?_
          refine W.widen (k := C + 7) (n := S + 344) (by omega) (by omega) ?_
          exact kk928 o_cu o_fo o_sv o_hs o_ol o_tt o_s0 o_s1 o_s2 o_s3 o_cs o_ln o_kd o_fk o_hd o_va o_le o_mo f_x n_x l_x d_x m_x k_x c_x t_x sz z16 (sz + (-1)) r_o_cu r_o_fo r_o_sv r_o_hs r_o_ol r_o_tt r_o_s0 r_o_s1 r_o_s2 r_o_s3 r_o_cs r_o_ln r_o_kd r_o_fk r_o_hd r_o_va r_o_le r_o_mo r_f_x r_n_x r_l_x r_d_x r_m_x r_k_x r_c_x r_t_x r_sz r18 r69 h70 H locs ls hP hD hS (lv_sub hl [4, 5, 6, 7, 8, 9, 10, 11, 12, 13, 2, 1, 0] rfl)
