theorem hdL_grant : yL_grant.cls ≠ "java/lang/invoke/MethodHandle" ∧ yL_grant.cls ≠ "java/lang/invoke/VarHandle" ∧ (parseMethodDescriptor yL_grant.desc).map (fun d => d.parameters.length) = some 8 := by decide +kernel
set_option maxRecDepth 100000 in
set_option maxHeartbeats 4000000 in
theorem c0_L_grant (l : Launch) (G : ZG) (f_a0 : Nat) (n_a0 : Nat) (l_a0 : Nat) (d_a0 : Nat) (m_a0 : Nat) (k_a0 : Nat) (t_a0 : Nat) (f_x : Int → Int) (n_x : Int → Int) (l_x : Int → Int) (d_x : Int → Int) (m_x : Int → Int) (k_x : Int → Int) (t_x : Int → Int) (size : Int) (P : Int → (Int → Int) → (Int → Int) → (Int → Int) → (Int → Int) → (Int → Int) → Prop) (r_f_x : rgA f_x) (r_n_x : rgA n_x) (r_l_x : rgA l_x) (r_d_x : rgA d_x) (r_m_x : rgA m_x) (r_k_x : rgA k_x) (r_t_x : rgA t_x) (r_size : rg size) (hwp : wp_L_grant f_x n_x l_x d_x m_x k_x t_x size P) : ZI l G yL_grant wsL_grant 2 52 [.ref f_a0, .ref n_a0, .ref l_a0, .ref d_a0, .ref m_a0, .ref k_a0, .ref t_a0, .int (iI size)] (flt [[(f_a0, eI G 60 f_x)], [(n_a0, eI G 64 n_x)], [(l_a0, eI G 64 l_x)], [(d_a0, eI G 64 d_x)], [(m_a0, eI G 20 m_x)], [(k_a0, eI G 60 k_x)], [(t_a0, eI G 12 t_x)]]) (fun u : (Int → Int) × (Int → Int) × (Int → Int) × (Int → Int) × (Int → Int) => flt [[(f_a0, eI G 60 u.1)], [(n_a0, eI G 64 u.2.1)], [(l_a0, eI G 64 u.2.2.1)], [(d_a0, eI G 64 u.2.2.2.1)], [(m_a0, eI G 20 m_x)], [(k_a0, eI G 60 k_x)], [(t_a0, eI G 12 u.2.2.2.2)]]) (fun (z : Int) (u : (Int → Int) × (Int → Int) × (Int → Int) × (Int → Int) × (Int → Int)) => rg z ∧ rgA u.1 ∧ rgA u.2.1 ∧ rgA u.2.2.1 ∧ rgA u.2.2.2.1 ∧ rgA u.2.2.2.2 ∧ P z u.1 u.2.1 u.2.2.1 u.2.2.2.1 u.2.2.2.2) := by
  unfold wp_L_grant at hwp
  refine zm_i (cc := cL_grant) (maxL := 12) (ret := some .int) (own := RL) (lvs := [(0, .ref f_a0), (1, .ref n_a0), (2, .ref l_a0), (3, .ref d_a0), (4, .ref m_a0), (5, .ref k_a0), (6, .ref t_a0), (7, .int (iI size))]) (by decide) rfl rfl (Nat.le_of_ble_eq_true rfl) rfl ?_
  intro p e sT m args below meth c ls A hx hb hr hml hown hts hlocks hK hP hD hS hA hl
  refine lv_aload hx hb dL_grant_0 (lv_at hl 6 rfl) ?_
  refine lv_iconst (v := iI 0) hx hb dL_grant_2 rfl ?_
  refine lv_iload hx hb dL_grant_3 (lv_at hl 7 rfl) ?_
  refine zr_iast (n := 12) (f := t_x) (i := 0) (x := size) hx hb hK hP hD hS 6 rfl rg_0 ⟨by decide, by decide⟩ dL_grant_5 (fun H locs hP hD hS => ?_)
  have hP : va_P G.1 vwCl (flt [[(f_a0, eI G 60 f_x)], [(n_a0, eI G 64 n_x)], [(l_a0, eI G 64 l_x)], [(d_a0, eI G 64 d_x)], [(m_a0, eI G 20 m_x)], [(k_a0, eI G 60 k_x)], [(t_a0, eI G 12 (uZ t_x 0 size))]]) H := hP
  have hD : va_D A (flt [[(f_a0, eI G 60 f_x)], [(n_a0, eI G 64 n_x)], [(l_a0, eI G 64 l_x)], [(d_a0, eI G 64 d_x)], [(m_a0, eI G 20 m_x)], [(k_a0, eI G 60 k_x)], [(t_a0, eI G 12 (uZ t_x 0 size))]]) := hD
  refine lv_aload hx hb dL_grant_6 (lv_at hl 6 rfl) ?_
  refine lv_iconst (v := iI 2) hx hb dL_grant_8 rfl ?_
  refine zr_iald (n := 12) (f := uZ t_x 0 size) (i := 2) hx hb hK hP 6 rfl rg_2 ⟨by decide, by decide⟩ dL_grant_9 ?_
  refine W.eq (g2 := F0 m 10 ls (.int (iI (t_x 2)) :: [])) rfl ?_
  refine lv_iconst (v := iI 1) hx hb dL_grant_10 rfl ?_
  refine zr_icmp_ne (tgt := 46) (x := t_x 2) (y := 1) hx hb (r_t_x 2) rg_1 dL_grant_11 (by decide) (fun c1 => ?_) (fun c1 => ?_)
  · have h4 := hwp.2 c1
    refine lv_aload hx hb dL_grant_46 (lv_at hl 6 rfl) ?_
    refine lv_iconst (v := iI 5) hx hb dL_grant_48 rfl ?_
    refine zr_iald (n := 12) (f := uZ t_x 0 size) (i := 5) hx hb hK hP 6 rfl rg_5 ⟨by decide, by decide⟩ dL_grant_49 ?_
    refine W.eq (g2 := F0 m 50 ls (.int (iI (t_x 5)) :: [])) rfl ?_
    refine zr_if_eq (tgt := 70) (x := t_x 5) hx hb (r_t_x 5) dL_grant_50 (by decide) (fun c5 => ?_) (fun c5 => ?_)
    · have h8 := h4.1 c5
      refine lv_iconst (v := iI 0) hx hb dL_grant_70 rfl ?_
      exact zr_iret (z := 0) hx hb hr hlocks hK ((f_x, n_x, l_x, d_x, uZ t_x 0 size)) hP hD hS dL_grant_71 ⟨rg_0, r_f_x, r_n_x, r_l_x, r_d_x, (rgA_u (i := 0) r_t_x r_size), h8⟩
    · have h9 := h4.2 c5
      refine lv_aload_n hx hb dL_grant_53 rfl (lv_at hl 2 rfl) ?_
      refine lv_aload_n hx hb dL_grant_54 rfl (lv_at hl 3 rfl) ?_
      refine lv_aload hx hb dL_grant_55 (lv_at hl 6 rfl) ?_
      refine lv_iconst (v := iI 1) hx hb dL_grant_57 rfl ?_
      refine lv_iconst (v := iI 1) hx hb dL_grant_58 rfl ?_
      obtain ⟨b10, h11⟩ := h9
      obtain ⟨b12, h13⟩ := h11
      refine zs_viR (As := [.ref l_a0, .ref d_a0, .ref t_a0, .int (iI 1), .int (iI 1)]) (rest := []) (c_L_kinds l G l_a0 d_a0 t_a0 l_x d_x (uZ t_x 0 size) 1 1 r_l_x r_d_x (rgA_u (i := 0) r_t_x r_size) rg_1 rg_1 b10 b12) ⟨hx, hb, hml, hown, hts⟩ (va_cwS 5 hts gL_grant_L_kinds rfl rfl rfl hdL_kinds ⟨Nat.le_of_ble_eq_true rfl, Nat.le_of_ble_eq_true rfl⟩) hK hP hD hS hA [2, 3, 6] rfl rfl rfl hl.1 rfl (Nat.le_of_ble_eq_true rfl) dL_grant_59 ⟨Nat.zero_le _, Nat.zero_le _⟩ (fun z15 H locs hw hP hD hS => ?_)
      obtain ⟨rfl, r16⟩ := hw
      have hP : va_P G.1 vwCl (flt [[(f_a0, eI G 60 f_x)], [(n_a0, eI G 64 n_x)], [(l_a0, eI G 64 l_x)], [(d_a0, eI G 64 d_x)], [(m_a0, eI G 20 m_x)], [(k_a0, eI G 60 k_x)], [(t_a0, eI G 12 (uZ t_x 0 size))]]) H := hP
      have hD : va_D A (flt [[(f_a0, eI G 60 f_x)], [(n_a0, eI G 64 n_x)], [(l_a0, eI G 64 l_x)], [(d_a0, eI G 64 d_x)], [(m_a0, eI G 20 m_x)], [(k_a0, eI G 60 k_x)], [(t_a0, eI G 12 (uZ t_x 0 size))]]) := hD
      refine lv_iload hx hb dL_grant_62 (lv_at hl 7 rfl) ?_
      obtain ⟨b17, h18⟩ := h13
      refine zc_si (As := [.int (iI size)]) (rest := [.int (iI (kdZ l_x d_x (1 : Int) ((uZ t_x 0 size) 10).toNat))]) (c_L_ways l G size r_size b17) ⟨hx, hb, hml, hown, hts⟩ (va_cwS 1 hts gL_grant_L_ways rfl rfl rfl hdL_ways ⟨Nat.le_of_ble_eq_true rfl, Nat.le_of_ble_eq_true rfl⟩) hK hP hD hS hA rfl hl.1 rfl (Nat.le_of_ble_eq_true rfl) dL_grant_64 ⟨Nat.zero_le _, Nat.zero_le _⟩ (fun z20 H locs hw hP hD hS => ?_)
      obtain ⟨rfl, r21⟩ := hw
      have hP : va_P G.1 vwCl (flt [[(f_a0, eI G 60 f_x)], [(n_a0, eI G 64 n_x)], [(l_a0, eI G 64 l_x)], [(d_a0, eI G 64 d_x)], [(m_a0, eI G 20 m_x)], [(k_a0, eI G 60 k_x)], [(t_a0, eI G 12 (uZ t_x 0 size))]]) H := hP
      have hD : va_D A (flt [[(f_a0, eI G 60 f_x)], [(n_a0, eI G 64 n_x)], [(l_a0, eI G 64 l_x)], [(d_a0, eI G 64 d_x)], [(m_a0, eI G 20 m_x)], [(k_a0, eI G 60 k_x)], [(t_a0, eI G 12 (uZ t_x 0 size))]]) := hD
      refine zr_icmp_gt (tgt := 72) (x := kdZ l_x d_x (1 : Int) ((uZ t_x 0 size) 10).toNat) (y := waysZ size) hx hb r16 r21 dL_grant_67 (by decide) (fun c22 => ?_) (fun c22 => ?_)
      · have h25 := h18.1 c22
        refine lv_aload hx hb dL_grant_72 (lv_at hl 6 rfl) ?_
        refine lv_iconst (v := iI 4) hx hb dL_grant_74 rfl ?_
        refine zr_iald (n := 12) (f := uZ t_x 0 size) (i := 4) hx hb hK hP 6 rfl rg_4 ⟨by decide, by decide⟩ dL_grant_75 ?_
        refine W.eq (g2 := F0 m 76 ls (.int (iI (t_x 4)) :: [])) rfl ?_
        refine lv_istore (lv' := [(8, .int (iI (t_x 4))), (0, .ref f_a0), (1, .ref n_a0), (2, .ref l_a0), (3, .ref d_a0), (4, .ref m_a0), (5, .ref k_a0), (6, .ref t_a0), (7, .int (iI size))]) hx hb dL_grant_76 hl (by decide) rfl (fun ls hl => ?_)
        refine lv_aload hx hb dL_grant_78 (lv_at hl 7 rfl) ?_
        refine lv_bipush (v := iI 10) hx hb dL_grant_80 (by decide) ?_
        refine zr_iald (n := 12) (f := uZ t_x 0 size) (i := 10) hx hb hK hP 6 rfl rg_10 ⟨by decide, by decide⟩ dL_grant_82 ?_
        refine W.eq (g2 := F0 m 83 ls (.int (iI (t_x 10)) :: [])) rfl ?_
        refine lv_iconst (v := iI 1) hx hb dL_grant_83 rfl ?_
        refine zr_isub (x := t_x 10) (y := 1) hx hb dL_grant_84 ?_
        obtain ⟨r26, h27⟩ := h25
        refine lv_istore (lv' := [(9, .int (iI ((t_x 10) - 1))), (8, .int (iI (t_x 4))), (0, .ref f_a0), (1, .ref n_a0), (2, .ref l_a0), (3, .ref d_a0), (4, .ref m_a0), (5, .ref k_a0), (6, .ref t_a0), (7, .int (iI size))]) hx hb dL_grant_85 hl (by decide) rfl (fun ls hl => ?_)
        refine lv_aload_n hx hb dL_grant_87 rfl (lv_at hl 4 rfl) ?_
        refine lv_iload hx hb dL_grant_88 (lv_at hl 0 rfl) ?_
        obtain ⟨b28, h29⟩ := h27
        refine zr_iald (n := 64) (f := l_x) (i := (t_x 10) - 1) hx hb hK hP 2 rfl r26 b28 dL_grant_90 ?_
        refine zr_if_le (tgt := 110) (x := l_x ((t_x 10) - 1)) hx hb (r_l_x ((t_x 10) - 1)) dL_grant_91 (by decide) (fun c30 => ?_) (fun c30 => ?_)
        · have h33 := h29.2 c30
          refine lv_aload_n hx hb dL_grant_110 rfl (lv_at hl 5 rfl) ?_
          refine lv_iload hx hb dL_grant_111 (lv_at hl 0 rfl) ?_
          refine lv_iconst (v := iI 0) hx hb dL_grant_113 rfl ?_
          refine zr_iast (n := 64) (f := d_x) (i := (t_x 10) - 1) (x := 0) hx hb hK hP hD hS 3 rfl r26 b28 dL_grant_114 (fun H locs hP hD hS => ?_)
          have hP : va_P G.1 vwCl (flt [[(f_a0, eI G 60 f_x)], [(n_a0, eI G 64 n_x)], [(l_a0, eI G 64 l_x)], [(d_a0, eI G 64 (uZ d_x ((t_x 10) - 1) 0))], [(m_a0, eI G 20 m_x)], [(k_a0, eI G 60 k_x)], [(t_a0, eI G 12 (uZ t_x 0 size))]]) H := hP
          have hD : va_D A (flt [[(f_a0, eI G 60 f_x)], [(n_a0, eI G 64 n_x)], [(l_a0, eI G 64 l_x)], [(d_a0, eI G 64 (uZ d_x ((t_x 10) - 1) 0))], [(m_a0, eI G 20 m_x)], [(k_a0, eI G 60 k_x)], [(t_a0, eI G 12 (uZ t_x 0 size))]]) := hD
          obtain ⟨I35, μ36, h37, h38⟩ := h33
          refine zr_loop (G := G) (σ := (Int → Int) × (Int → Int) × (Int → Int)) (fun x_34 => (rgA x_34.1 ∧ rgA x_34.2.1 ∧ rgA x_34.2.2) ∧ I35 x_34.1 x_34.2.1 x_34.2.2) (fun x_34 => μ36 x_34.1 x_34.2.1 x_34.2.2) (fun x_34 => flt [[(f_a0, eI G 60 f_x)], [(n_a0, eI G 64 x_34.1)], [(l_a0, eI G 64 l_x)], [(d_a0, eI G 64 x_34.2.1)], [(m_a0, eI G 20 m_x)], [(k_a0, eI G 60 k_x)], [(t_a0, eI G 12 x_34.2.2)]]) (fun x_34 => [(8, .int (iI (t_x 4))), (1, .ref n_a0), (2, .ref l_a0), (3, .ref d_a0), (6, .ref t_a0)]) ((n_x, uZ d_x ((t_x 10) - 1) 0, uZ t_x 0 size)) ⟨⟨r_n_x, (rgA_u (i := (t_x 10) - 1) r_d_x rg_0), (rgA_u (i := 0) r_t_x r_size)⟩, h37⟩ hP hD hS (lv_sub hl [1, 3, 4, 5, 8] rfl) ?_
          clear hP hD hS hl
          intro x_34 H locs ls ih39 h40 hP hD hS hl
          obtain ⟨x1_34, x3_34, x6_34⟩ := x_34
          obtain ⟨⟨rx1_34, rx3_34, rx6_34⟩, h40⟩ := h40
          have h41 := h38 x1_34 x3_34 x6_34 rx1_34 rx3_34 rx6_34 h40
          have hP : va_P G.1 vwCl (flt [[(f_a0, eI G 60 f_x)], [(n_a0, eI G 64 x1_34)], [(l_a0, eI G 64 l_x)], [(d_a0, eI G 64 x3_34)], [(m_a0, eI G 20 m_x)], [(k_a0, eI G 60 k_x)], [(t_a0, eI G 12 x6_34)]]) H := hP
          have hD : va_D A (flt [[(f_a0, eI G 60 f_x)], [(n_a0, eI G 64 x1_34)], [(l_a0, eI G 64 l_x)], [(d_a0, eI G 64 x3_34)], [(m_a0, eI G 20 m_x)], [(k_a0, eI G 60 k_x)], [(t_a0, eI G 12 x6_34)]]) := hD
          have hl : lv_has ls 12 [(8, .int (iI (t_x 4))), (1, .ref n_a0), (2, .ref l_a0), (3, .ref d_a0), (6, .ref t_a0)] := hl
          refine lv_aload_n hx hb dL_grant_115 rfl (lv_at hl 2 rfl) ?_
          refine lv_aload_n hx hb dL_grant_116 rfl (lv_at hl 3 rfl) ?_
          refine lv_aload hx hb dL_grant_117 (lv_at hl 4 rfl) ?_
          refine lv_iconst (v := iI 1) hx hb dL_grant_119 rfl ?_
          refine lv_iconst (v := iI 1) hx hb dL_grant_120 rfl ?_
          obtain ⟨b42, h43⟩ := h41
          refine zs_viR (As := [.ref l_a0, .ref d_a0, .ref t_a0, .int (iI 1), .int (iI 1)]) (rest := []) (c_L_kinds l G l_a0 d_a0 t_a0 l_x x3_34 x6_34 1 1 r_l_x rx3_34 rx6_34 rg_1 rg_1 b42 b12) ⟨hx, hb, hml, hown, hts⟩ (va_cwS 5 hts gL_grant_L_kinds rfl rfl rfl hdL_kinds ⟨Nat.le_of_ble_eq_true rfl, Nat.le_of_ble_eq_true rfl⟩) hK hP hD hS hA [2, 3, 6] rfl rfl rfl hl.1 rfl (Nat.le_of_ble_eq_true rfl) dL_grant_121 ⟨Nat.zero_le _, Nat.zero_le _⟩ (fun z45 H locs hw hP hD hS => ?_)
          obtain ⟨rfl, r46⟩ := hw
          have hP : va_P G.1 vwCl (flt [[(f_a0, eI G 60 f_x)], [(n_a0, eI G 64 x1_34)], [(l_a0, eI G 64 l_x)], [(d_a0, eI G 64 x3_34)], [(m_a0, eI G 20 m_x)], [(k_a0, eI G 60 k_x)], [(t_a0, eI G 12 x6_34)]]) H := hP
          have hD : va_D A (flt [[(f_a0, eI G 60 f_x)], [(n_a0, eI G 64 x1_34)], [(l_a0, eI G 64 l_x)], [(d_a0, eI G 64 x3_34)], [(m_a0, eI G 20 m_x)], [(k_a0, eI G 60 k_x)], [(t_a0, eI G 12 x6_34)]]) := hD
          refine zr_if_le (tgt := 213) (x := kdZ l_x x3_34 (1 : Int) (x6_34 10).toNat) hx hb r46 dL_grant_124 (by decide) (fun c47 => ?_) (fun c47 => ?_)
          · have h50 := h43.2 c47
            refine lv_aload_n hx hb dL_grant_213 rfl (lv_at hl 1 rfl) ?_
            refine lv_aload_n hx hb dL_grant_214 rfl (lv_at hl 2 rfl) ?_
            refine lv_aload_n hx hb dL_grant_215 rfl (lv_at hl 3 rfl) ?_
            refine lv_aload hx hb dL_grant_216 (lv_at hl 4 rfl) ?_
            obtain ⟨g51, g52, h53⟩ := h50
            obtain ⟨b54, h55⟩ := h53
            refine zs_vv (As := [.ref n_a0, .ref l_a0, .ref d_a0, .ref t_a0]) (rest := []) (L := [[(f_a0, eI G 60 f_x)], [(n_a0, eI G 64 x1_34)], [(l_a0, eI G 64 l_x)], [(d_a0, eI G 64 x3_34)], [(m_a0, eI G 20 m_x)], [(k_a0, eI G 60 k_x)], [(t_a0, eI G 12 x6_34)]]) (LC := [[(n_a0, eI G 64 x1_34)], [(l_a0, eI G 64 l_x)], [(d_a0, eI G 64 x3_34)], [(t_a0, eI G 12 x6_34)]]) (LR := [[(f_a0, eI G 60 f_x)], [(m_a0, eI G 20 m_x)], [(k_a0, eI G 60 k_x)]]) (LC1 := fun (u_60 : (Int → Int) × (Int → Int) × (Int → Int) × (Int → Int)) => [[(n_a0, eI G 64 u_60.1)], [(l_a0, eI G 64 u_60.2.1)], [(d_a0, eI G 64 u_60.2.2.1)], [(t_a0, eI G 12 u_60.2.2.2)]]) (L2 := fun (u_60 : (Int → Int) × (Int → Int) × (Int → Int) × (Int → Int)) => [[(f_a0, eI G 60 f_x)], [(n_a0, eI G 64 u_60.1)], [(l_a0, eI G 64 u_60.2.1)], [(d_a0, eI G 64 u_60.2.2.1)], [(m_a0, eI G 20 m_x)], [(k_a0, eI G 60 k_x)], [(t_a0, eI G 12 u_60.2.2.2)]]) (c_L_clean l G n_a0 l_a0 d_a0 t_a0 x1_34 l_x x3_34 x6_34 g51 g52 rx1_34 r_l_x rx3_34 rx6_34 b54 b42) ⟨hx, hb, hml, hown, hts⟩ (va_cwS 4 hts gL_grant_L_clean rfl rfl rfl hdL_clean ⟨Nat.le_of_ble_eq_true rfl, Nat.le_of_ble_eq_true rfl⟩) hK hP hD hS hA [1, 2, 3, 6] [0, 4, 5] [4, 0, 1, 2, 5, 6, 3] rfl rfl 7 rfl (by decide) (fun _ => rfl) (fun _ => rfl) (by decide) rfl hl.1 rfl (Nat.le_of_ble_eq_true rfl) dL_grant_218 ⟨Nat.zero_le _, Nat.zero_le _⟩ (fun u_60 H locs hw hP hD hS => ?_)
            obtain ⟨u_n_x56, u_l_x57, u_d_x58, u_t_x59⟩ := u_60
            obtain ⟨ru_n_x56, ru_l_x57, ru_d_x58, ru_t_x59, h62⟩ := hw
            have h63 := h55 u_n_x56 u_l_x57 u_d_x58 u_t_x59 ru_n_x56 ru_l_x57 ru_d_x58 ru_t_x59 h62
            have hP : va_P G.1 vwCl (flt [[(f_a0, eI G 60 f_x)], [(n_a0, eI G 64 u_n_x56)], [(l_a0, eI G 64 u_l_x57)], [(d_a0, eI G 64 u_d_x58)], [(m_a0, eI G 20 m_x)], [(k_a0, eI G 60 k_x)], [(t_a0, eI G 12 u_t_x59)]]) H := hP
            have hD : va_D A (flt [[(f_a0, eI G 60 f_x)], [(n_a0, eI G 64 u_n_x56)], [(l_a0, eI G 64 u_l_x57)], [(d_a0, eI G 64 u_d_x58)], [(m_a0, eI G 20 m_x)], [(k_a0, eI G 60 k_x)], [(t_a0, eI G 12 u_t_x59)]]) := hD
            refine lv_aload hx hb dL_grant_221 (lv_at hl 4 rfl) ?_
            refine lv_iconst (v := iI 5) hx hb dL_grant_223 rfl ?_
            refine lv_iconst (v := iI 0) hx hb dL_grant_224 rfl ?_
            refine zr_iast (n := 12) (f := u_t_x59) (i := 5) (x := 0) hx hb hK hP hD hS 6 rfl rg_5 ⟨by decide, by decide⟩ dL_grant_225 (fun H locs hP hD hS => ?_)
            have hP : va_P G.1 vwCl (flt [[(f_a0, eI G 60 f_x)], [(n_a0, eI G 64 u_n_x56)], [(l_a0, eI G 64 u_l_x57)], [(d_a0, eI G 64 u_d_x58)], [(m_a0, eI G 20 m_x)], [(k_a0, eI G 60 k_x)], [(t_a0, eI G 12 (uZ u_t_x59 5 0))]]) H := hP
            have hD : va_D A (flt [[(f_a0, eI G 60 f_x)], [(n_a0, eI G 64 u_n_x56)], [(l_a0, eI G 64 u_l_x57)], [(d_a0, eI G 64 u_d_x58)], [(m_a0, eI G 20 m_x)], [(k_a0, eI G 60 k_x)], [(t_a0, eI G 12 (uZ u_t_x59 5 0))]]) := hD
            refine lv_aload hx hb dL_grant_226 (lv_at hl 4 rfl) ?_
            refine lv_bipush (v := iI 9) hx hb dL_grant_228 (by decide) ?_
            refine lv_dup2_11 hx hb dL_grant_230 rfl rfl ?_
            refine zr_iald (n := 12) (f := uZ u_t_x59 5 0) (i := 9) hx hb hK hP 6 rfl rg_9 ⟨by decide, by decide⟩ dL_grant_231 ?_
            refine W.eq (g2 := F0 m 232 ls (.int (iI (u_t_x59 9)) :: [.int (iI 9), .ref t_a0])) rfl ?_
            refine lv_iconst (v := iI 1) hx hb dL_grant_232 rfl ?_
            refine zr_iadd (x := u_t_x59 9) (y := 1) hx hb dL_grant_233 ?_
            obtain ⟨r64, h65⟩ := h63
            refine zr_iast (n := 12) (f := uZ u_t_x59 5 0) (i := 9) (x := (u_t_x59 9) + 1) hx hb hK hP hD hS 6 rfl rg_9 ⟨by decide, by decide⟩ dL_grant_234 (fun H locs hP hD hS => ?_)
            have hP : va_P G.1 vwCl (flt [[(f_a0, eI G 60 f_x)], [(n_a0, eI G 64 u_n_x56)], [(l_a0, eI G 64 u_l_x57)], [(d_a0, eI G 64 u_d_x58)], [(m_a0, eI G 20 m_x)], [(k_a0, eI G 60 k_x)], [(t_a0, eI G 12 (uZ (uZ u_t_x59 5 0) 9 ((u_t_x59 9) + 1)))]]) H := hP
            have hD : va_D A (flt [[(f_a0, eI G 60 f_x)], [(n_a0, eI G 64 u_n_x56)], [(l_a0, eI G 64 u_l_x57)], [(d_a0, eI G 64 u_d_x58)], [(m_a0, eI G 20 m_x)], [(k_a0, eI G 60 k_x)], [(t_a0, eI G 12 (uZ (uZ u_t_x59 5 0) 9 ((u_t_x59 9) + 1)))]]) := hD
            refine lv_aload hx hb dL_grant_235 (lv_at hl 4 rfl) ?_
            refine lv_iconst (v := iI 4) hx hb dL_grant_237 rfl ?_
            refine zr_iald (n := 12) (f := uZ (uZ u_t_x59 5 0) 9 ((u_t_x59 9) + 1)) (i := 4) hx hb hK hP 6 rfl rg_4 ⟨by decide, by decide⟩ dL_grant_238 ?_
            refine W.eq (g2 := F0 m 239 ls (.int (iI (u_t_x59 4)) :: [])) rfl ?_
            refine lv_iload hx hb dL_grant_239 (lv_at hl 0 rfl) ?_
            refine zr_isub (x := u_t_x59 4) (y := t_x 4) hx hb dL_grant_241 ?_
            obtain ⟨r66, h67⟩ := h65
            exact zr_iret (z := (u_t_x59 4) - (t_x 4)) hx hb hr hlocks hK ((f_x, u_n_x56, u_l_x57, u_d_x58, uZ (uZ u_t_x59 5 0) 9 ((u_t_x59 9) + 1))) hP hD hS dL_grant_242 ⟨r66, r_f_x, ru_n_x56, ru_l_x57, ru_d_x58, (rgA_u (i := 9) (rgA_u (i := 5) ru_t_x59 rg_0) r64), h67⟩
          · have h68 := h43.1 c47
            refine lv_iconst (v := iI (-1)) hx hb dL_grant_127 rfl ?_
            refine lv_istore (lv' := [(10, .int (iI (-1))), (8, .int (iI (t_x 4))), (1, .ref n_a0), (2, .ref l_a0), (3, .ref d_a0), (6, .ref t_a0)]) hx hb dL_grant_128 hl (by decide) rfl (fun ls hl => ?_)
            refine lv_iconst (v := iI 0) hx hb dL_grant_130 rfl ?_
            refine lv_istore (lv' := [(11, .int (iI 0)), (10, .int (iI (-1))), (8, .int (iI (t_x 4))), (1, .ref n_a0), (2, .ref l_a0), (3, .ref d_a0), (6, .ref t_a0)]) hx hb dL_grant_131 hl (by decide) rfl (fun ls hl => ?_)
            obtain ⟨I70, μ71, h72, h73⟩ := h68
            refine zr_loop (G := G) (σ := Int × Int × (Int → Int) × (Int → Int) × (Int → Int)) (fun x_69 => (rg x_69.1 ∧ rg x_69.2.1 ∧ rgA x_69.2.2.1 ∧ rgA x_69.2.2.2.1 ∧ rgA x_69.2.2.2.2) ∧ I70 x_69.1 x_69.2.1 x_69.2.2.1 x_69.2.2.2.1 x_69.2.2.2.2) (fun x_69 => μ71 x_69.1 x_69.2.1 x_69.2.2.1 x_69.2.2.2.1 x_69.2.2.2.2) (fun x_69 => flt [[(f_a0, eI G 60 f_x)], [(n_a0, eI G 64 x_69.2.2.1)], [(l_a0, eI G 64 l_x)], [(d_a0, eI G 64 x_69.2.2.2.1)], [(m_a0, eI G 20 m_x)], [(k_a0, eI G 60 k_x)], [(t_a0, eI G 12 x_69.2.2.2.2)]]) (fun x_69 => [(11, .int (iI x_69.2.1)), (10, .int (iI x_69.1)), (8, .int (iI (t_x 4))), (1, .ref n_a0), (2, .ref l_a0), (3, .ref d_a0), (6, .ref t_a0)]) (((-1), 0, x1_34, x3_34, x6_34)) ⟨⟨rg_m1, rg_0, rx1_34, rx3_34, rx6_34⟩, h72⟩ hP hD hS (lv_sub hl [0, 1, 2, 3, 4, 5, 6] rfl) ?_
            clear hP hD hS hl
            intro x_69 H locs ls ih74 h75 hP hD hS hl
            obtain ⟨x10_69, x11_69, x1_69, x3_69, x6_69⟩ := x_69
            obtain ⟨⟨rx10_69, rx11_69, rx1_69, rx3_69, rx6_69⟩, h75⟩ := h75
            have h76 := h73 x10_69 x11_69 x1_69 x3_69 x6_69 rx10_69 rx11_69 rx1_69 rx3_69 rx6_69 h75
            have hP : va_P G.1 vwCl (flt [[(f_a0, eI G 60 f_x)], [(n_a0, eI G 64 x1_69)], [(l_a0, eI G 64 l_x)], [(d_a0, eI G 64 x3_69)], [(m_a0, eI G 20 m_x)], [(k_a0, eI G 60 k_x)], [(t_a0, eI G 12 x6_69)]]) H := hP
            have hD : va_D A (flt [[(f_a0, eI G 60 f_x)], [(n_a0, eI G 64 x1_69)], [(l_a0, eI G 64 l_x)], [(d_a0, eI G 64 x3_69)], [(m_a0, eI G 20 m_x)], [(k_a0, eI G 60 k_x)], [(t_a0, eI G 12 x6_69)]]) := hD
            have hl : lv_has ls 12 [(11, .int (iI x11_69)), (10, .int (iI x10_69)), (8, .int (iI (t_x 4))), (1, .ref n_a0), (2, .ref l_a0), (3, .ref d_a0), (6, .ref t_a0)] := hl
            refine lv_iload hx hb dL_grant_133 (lv_at hl 0 rfl) ?_
            refine lv_aload hx hb dL_grant_135 (lv_at hl 6 rfl) ?_
            refine lv_bipush (v := iI 10) hx hb dL_grant_137 (by decide) ?_
            refine zr_iald (n := 12) (f := x6_69) (i := 10) hx hb hK hP 6 rfl rg_10 ⟨by decide, by decide⟩ dL_grant_139 ?_
            refine zr_icmp_ge (tgt := 189) (x := x11_69) (y := x6_69 10) hx hb rx11_69 (rx6_69 10) dL_grant_140 (by decide) (fun c77 => ?_) (fun c77 => ?_)
            · have h80 := h76.2 c77
              refine lv_aload_n hx hb dL_grant_189 rfl (lv_at hl 3 rfl) ?_
              refine lv_iload hx hb dL_grant_190 (lv_at hl 1 rfl) ?_
              refine lv_aload hx hb dL_grant_192 (lv_at hl 6 rfl) ?_
              refine lv_iconst (v := iI 4) hx hb dL_grant_194 rfl ?_
              refine zr_iald (n := 12) (f := x6_69) (i := 4) hx hb hK hP 6 rfl rg_4 ⟨by decide, by decide⟩ dL_grant_195 ?_
              obtain ⟨b81, h82⟩ := h80
              refine zr_iast (n := 64) (f := x1_69) (i := x10_69) (x := x6_69 4) hx hb hK hP hD hS 1 rfl rx10_69 b81 dL_grant_196 (fun H locs hP hD hS => ?_)
              have hP : va_P G.1 vwCl (flt [[(f_a0, eI G 60 f_x)], [(n_a0, eI G 64 (uZ x1_69 x10_69 (x6_69 4)))], [(l_a0, eI G 64 l_x)], [(d_a0, eI G 64 x3_69)], [(m_a0, eI G 20 m_x)], [(k_a0, eI G 60 k_x)], [(t_a0, eI G 12 x6_69)]]) H := hP
              have hD : va_D A (flt [[(f_a0, eI G 60 f_x)], [(n_a0, eI G 64 (uZ x1_69 x10_69 (x6_69 4)))], [(l_a0, eI G 64 l_x)], [(d_a0, eI G 64 x3_69)], [(m_a0, eI G 20 m_x)], [(k_a0, eI G 60 k_x)], [(t_a0, eI G 12 x6_69)]]) := hD
              refine lv_aload_n hx hb dL_grant_197 rfl (lv_at hl 5 rfl) ?_
              refine lv_iload hx hb dL_grant_198 (lv_at hl 1 rfl) ?_
              refine lv_iconst (v := iI 0) hx hb dL_grant_200 rfl ?_
              refine zr_iast (n := 64) (f := x3_69) (i := x10_69) (x := 0) hx hb hK hP hD hS 3 rfl rx10_69 b81 dL_grant_201 (fun H locs hP hD hS => ?_)
              have hP : va_P G.1 vwCl (flt [[(f_a0, eI G 60 f_x)], [(n_a0, eI G 64 (uZ x1_69 x10_69 (x6_69 4)))], [(l_a0, eI G 64 l_x)], [(d_a0, eI G 64 (uZ x3_69 x10_69 0))], [(m_a0, eI G 20 m_x)], [(k_a0, eI G 60 k_x)], [(t_a0, eI G 12 x6_69)]]) H := hP
              have hD : va_D A (flt [[(f_a0, eI G 60 f_x)], [(n_a0, eI G 64 (uZ x1_69 x10_69 (x6_69 4)))], [(l_a0, eI G 64 l_x)], [(d_a0, eI G 64 (uZ x3_69 x10_69 0))], [(m_a0, eI G 20 m_x)], [(k_a0, eI G 60 k_x)], [(t_a0, eI G 12 x6_69)]]) := hD
              refine lv_aload hx hb dL_grant_202 (lv_at hl 6 rfl) ?_
              refine lv_iconst (v := iI 4) hx hb dL_grant_204 rfl ?_
              refine lv_dup2_11 hx hb dL_grant_205 rfl rfl ?_
              refine zr_iald (n := 12) (f := x6_69) (i := 4) hx hb hK hP 6 rfl rg_4 ⟨by decide, by decide⟩ dL_grant_206 ?_
              refine lv_iconst (v := iI 1) hx hb dL_grant_207 rfl ?_
              refine zr_iadd (x := x6_69 4) (y := 1) hx hb dL_grant_208 ?_
              obtain ⟨r83, h84⟩ := h82
              refine zr_iast (n := 12) (f := x6_69) (i := 4) (x := (x6_69 4) + 1) hx hb hK hP hD hS 6 rfl rg_4 ⟨by decide, by decide⟩ dL_grant_209 (fun H locs hP hD hS => ?_)
              have hP : va_P G.1 vwCl (flt [[(f_a0, eI G 60 f_x)], [(n_a0, eI G 64 (uZ x1_69 x10_69 (x6_69 4)))], [(l_a0, eI G 64 l_x)], [(d_a0, eI G 64 (uZ x3_69 x10_69 0))], [(m_a0, eI G 20 m_x)], [(k_a0, eI G 60 k_x)], [(t_a0, eI G 12 (uZ x6_69 4 ((x6_69 4) + 1)))]]) H := hP
              have hD : va_D A (flt [[(f_a0, eI G 60 f_x)], [(n_a0, eI G 64 (uZ x1_69 x10_69 (x6_69 4)))], [(l_a0, eI G 64 l_x)], [(d_a0, eI G 64 (uZ x3_69 x10_69 0))], [(m_a0, eI G 20 m_x)], [(k_a0, eI G 60 k_x)], [(t_a0, eI G 12 (uZ x6_69 4 ((x6_69 4) + 1)))]]) := hD
              refine lv_goto (tgt := 115) hx hb dL_grant_210 (by decide) ?_
              obtain ⟨h85, h86⟩ := h84
              exact ih39 ((uZ x1_69 x10_69 (x6_69 4), uZ x3_69 x10_69 0, uZ x6_69 4 ((x6_69 4) + 1))) _ _ _ ⟨⟨(rgA_u (i := x10_69) rx1_69 (rx6_69 4)), (rgA_u (i := x10_69) rx3_69 rg_0), (rgA_u (i := 4) rx6_69 r83)⟩, h85⟩ h86 hP hD hS (lv_sub hl [2, 3, 4, 5, 6] rfl)
            · have h87 := h76.1 c77
              refine lv_aload_n hx hb dL_grant_143 rfl (lv_at hl 5 rfl) ?_
              refine lv_iload hx hb dL_grant_144 (lv_at hl 0 rfl) ?_
              obtain ⟨b88, h89⟩ := h87
              refine zr_iald (n := 64) (f := x3_69) (i := x11_69) hx hb hK hP 3 rfl rx11_69 b88 dL_grant_146 ?_
              refine lv_iconst (v := iI 1) hx hb dL_grant_147 rfl ?_
              refine zr_icmp_ne (tgt := 179) (x := x3_69 x11_69) (y := 1) hx hb (rx3_69 x11_69) rg_1 dL_grant_148 (by decide) (fun c90 => ?_) (fun c90 => ?_)
              · have h93 := h89.2 c90
                refine lv_iload hx hb dL_grant_179 (lv_at hl 1 rfl) ?_
                refine lv_istore (lv' := [(10, .int (iI x10_69)), (11, .int (iI x11_69)), (8, .int (iI (t_x 4))), (1, .ref n_a0), (2, .ref l_a0), (3, .ref d_a0), (6, .ref t_a0)]) hx hb dL_grant_181 hl (by decide) rfl (fun ls hl => ?_)
                obtain ⟨r94, h95⟩ := h93
                refine zr_iinc (x := x11_69) (lv' := [(11, .int (iI (x11_69 + 1))), (10, .int (iI x10_69)), (8, .int (iI (t_x 4))), (1, .ref n_a0), (2, .ref l_a0), (3, .ref d_a0), (6, .ref t_a0)]) hx hb dL_grant_183 hl (k := 1) rfl (by decide) rfl (fun ls hl => ?_)
                refine lv_goto (tgt := 133) hx hb dL_grant_186 (by decide) ?_
                obtain ⟨h96, h97⟩ := h95
                exact ih74 ((x10_69, x11_69 + 1, x1_69, x3_69, x6_69)) _ _ _ ⟨⟨rx10_69, r94, rx1_69, rx3_69, rx6_69⟩, h96⟩ h97 hP hD hS (lv_sub hl [0, 1, 2, 3, 4, 5, 6] rfl)
              · have h98 := h89.1 c90
                refine lv_aload_n hx hb dL_grant_151 rfl (lv_at hl 4 rfl) ?_
                refine lv_iload hx hb dL_grant_152 (lv_at hl 0 rfl) ?_
                refine zr_iald (n := 64) (f := l_x) (i := x11_69) hx hb hK hP 2 rfl rx11_69 b88 dL_grant_154 ?_
                refine zr_if_le (tgt := 179) (x := l_x x11_69) hx hb (r_l_x x11_69) dL_grant_155 (by decide) (fun c99 => ?_) (fun c99 => ?_)
                · have h102 := h98.2 c99
                  refine lv_iload hx hb dL_grant_179 (lv_at hl 1 rfl) ?_
                  refine lv_istore (lv' := [(10, .int (iI x10_69)), (11, .int (iI x11_69)), (8, .int (iI (t_x 4))), (1, .ref n_a0), (2, .ref l_a0), (3, .ref d_a0), (6, .ref t_a0)]) hx hb dL_grant_181 hl (by decide) rfl (fun ls hl => ?_)
                  obtain ⟨r103, h104⟩ := h102
                  refine zr_iinc (x := x11_69) (lv' := [(11, .int (iI (x11_69 + 1))), (10, .int (iI x10_69)), (8, .int (iI (t_x 4))), (1, .ref n_a0), (2, .ref l_a0), (3, .ref d_a0), (6, .ref t_a0)]) hx hb dL_grant_183 hl (k := 1) rfl (by decide) rfl (fun ls hl => ?_)
                  refine lv_goto (tgt := 133) hx hb dL_grant_186 (by decide) ?_
                  obtain ⟨h105, h106⟩ := h104
                  exact ih74 ((x10_69, x11_69 + 1, x1_69, x3_69, x6_69)) _ _ _ ⟨⟨rx10_69, r103, rx1_69, rx3_69, rx6_69⟩, h105⟩ h106 hP hD hS (lv_sub hl [0, 1, 2, 3, 4, 5, 6] rfl)
                · have h107 := h98.1 c99
                  refine lv_iload hx hb dL_grant_158 (lv_at hl 1 rfl) ?_
                  refine zr_if_lt (tgt := 174) (x := x10_69) hx hb rx10_69 dL_grant_160 (by decide) (fun c108 => ?_) (fun c108 => ?_)
                  · have h111 := h107.1 c108
                    refine lv_iload hx hb dL_grant_174 (lv_at hl 0 rfl) ?_
                    refine lv_goto (tgt := 181) hx hb dL_grant_176 (by decide) ?_
                    refine lv_istore (lv' := [(10, .int (iI x11_69)), (11, .int (iI x11_69)), (8, .int (iI (t_x 4))), (1, .ref n_a0), (2, .ref l_a0), (3, .ref d_a0), (6, .ref t_a0)]) hx hb dL_grant_181 hl (by decide) rfl (fun ls hl => ?_)
                    obtain ⟨r112, h113⟩ := h111
                    refine zr_iinc (x := x11_69) (lv' := [(11, .int (iI (x11_69 + 1))), (10, .int (iI x11_69)), (8, .int (iI (t_x 4))), (1, .ref n_a0), (2, .ref l_a0), (3, .ref d_a0), (6, .ref t_a0)]) hx hb dL_grant_183 hl (k := 1) rfl (by decide) rfl (fun ls hl => ?_)
                    refine lv_goto (tgt := 133) hx hb dL_grant_186 (by decide) ?_
                    obtain ⟨h114, h115⟩ := h113
                    exact ih74 ((x11_69, x11_69 + 1, x1_69, x3_69, x6_69)) _ _ _ ⟨⟨rx11_69, r112, rx1_69, rx3_69, rx6_69⟩, h114⟩ h115 hP hD hS (lv_sub hl [0, 1, 2, 3, 4, 5, 6] rfl)
                  · have h116 := h107.2 c108
                    refine lv_aload_n hx hb dL_grant_163 rfl (lv_at hl 3 rfl) ?_
                    refine lv_iload hx hb dL_grant_164 (lv_at hl 0 rfl) ?_
                    refine zr_iald (n := 64) (f := x1_69) (i := x11_69) hx hb hK hP 1 rfl rx11_69 b88 dL_grant_166 ?_
                    refine lv_aload_n hx hb dL_grant_167 rfl (lv_at hl 3 rfl) ?_
                    refine lv_iload hx hb dL_grant_168 (lv_at hl 1 rfl) ?_
                    obtain ⟨b117, h118⟩ := h116
                    refine zr_iald (n := 64) (f := x1_69) (i := x10_69) hx hb hK hP 1 rfl rx10_69 b117 dL_grant_170 ?_
                    refine zr_icmp_ge (tgt := 179) (x := x1_69 x11_69) (y := x1_69 x10_69) hx hb (rx1_69 x11_69) (rx1_69 x10_69) dL_grant_171 (by decide) (fun c119 => ?_) (fun c119 => ?_)
                    · have h122 := h118.2 c119
                      refine lv_iload hx hb dL_grant_179 (lv_at hl 1 rfl) ?_
                      refine lv_istore (lv' := [(10, .int (iI x10_69)), (11, .int (iI x11_69)), (8, .int (iI (t_x 4))), (1, .ref n_a0), (2, .ref l_a0), (3, .ref d_a0), (6, .ref t_a0)]) hx hb dL_grant_181 hl (by decide) rfl (fun ls hl => ?_)
                      obtain ⟨r123, h124⟩ := h122
                      refine zr_iinc (x := x11_69) (lv' := [(11, .int (iI (x11_69 + 1))), (10, .int (iI x10_69)), (8, .int (iI (t_x 4))), (1, .ref n_a0), (2, .ref l_a0), (3, .ref d_a0), (6, .ref t_a0)]) hx hb dL_grant_183 hl (k := 1) rfl (by decide) rfl (fun ls hl => ?_)
                      refine lv_goto (tgt := 133) hx hb dL_grant_186 (by decide) ?_
                      obtain ⟨h125, h126⟩ := h124
                      exact ih74 ((x10_69, x11_69 + 1, x1_69, x3_69, x6_69)) _ _ _ ⟨⟨rx10_69, r123, rx1_69, rx3_69, rx6_69⟩, h125⟩ h126 hP hD hS (lv_sub hl [0, 1, 2, 3, 4, 5, 6] rfl)
                    · have h127 := h118.1 c119
                      refine lv_iload hx hb dL_grant_174 (lv_at hl 0 rfl) ?_
                      refine lv_goto (tgt := 181) hx hb dL_grant_176 (by decide) ?_
                      refine lv_istore (lv' := [(10, .int (iI x11_69)), (11, .int (iI x11_69)), (8, .int (iI (t_x 4))), (1, .ref n_a0), (2, .ref l_a0), (3, .ref d_a0), (6, .ref t_a0)]) hx hb dL_grant_181 hl (by decide) rfl (fun ls hl => ?_)
                      obtain ⟨r128, h129⟩ := h127
                      refine zr_iinc (x := x11_69) (lv' := [(11, .int (iI (x11_69 + 1))), (10, .int (iI x11_69)), (8, .int (iI (t_x 4))), (1, .ref n_a0), (2, .ref l_a0), (3, .ref d_a0), (6, .ref t_a0)]) hx hb dL_grant_183 hl (k := 1) rfl (by decide) rfl (fun ls hl => ?_)
                      refine lv_goto (tgt := 133) hx hb dL_grant_186 (by decide) ?_
                      obtain ⟨h130, h131⟩ := h129
                      exact ih74 ((x11_69, x11_69 + 1, x1_69, x3_69, x6_69)) _ _ _ ⟨⟨rx11_69, r128, rx1_69, rx3_69, rx6_69⟩, h130⟩ h131 hP hD hS (lv_sub hl [0, 1, 2, 3, 4, 5, 6] rfl)
        · have h132 := h29.1 c30
          refine lv_aload_n hx hb dL_grant_94 rfl (lv_at hl 3 rfl) ?_
          refine lv_iload hx hb dL_grant_95 (lv_at hl 0 rfl) ?_
          refine lv_aload hx hb dL_grant_97 (lv_at hl 8 rfl) ?_
          refine lv_iconst (v := iI 4) hx hb dL_grant_99 rfl ?_
          refine zr_iald (n := 12) (f := uZ t_x 0 size) (i := 4) hx hb hK hP 6 rfl rg_4 ⟨by decide, by decide⟩ dL_grant_100 ?_
          refine W.eq (g2 := F0 m 101 ls (.int (iI (t_x 4)) :: [.int (iI ((t_x 10) - 1)), .ref n_a0])) rfl ?_
          refine zr_iast (n := 64) (f := n_x) (i := (t_x 10) - 1) (x := t_x 4) hx hb hK hP hD hS 1 rfl r26 b28 dL_grant_101 (fun H locs hP hD hS => ?_)
          have hP : va_P G.1 vwCl (flt [[(f_a0, eI G 60 f_x)], [(n_a0, eI G 64 (uZ n_x ((t_x 10) - 1) (t_x 4)))], [(l_a0, eI G 64 l_x)], [(d_a0, eI G 64 d_x)], [(m_a0, eI G 20 m_x)], [(k_a0, eI G 60 k_x)], [(t_a0, eI G 12 (uZ t_x 0 size))]]) H := hP
          have hD : va_D A (flt [[(f_a0, eI G 60 f_x)], [(n_a0, eI G 64 (uZ n_x ((t_x 10) - 1) (t_x 4)))], [(l_a0, eI G 64 l_x)], [(d_a0, eI G 64 d_x)], [(m_a0, eI G 20 m_x)], [(k_a0, eI G 60 k_x)], [(t_a0, eI G 12 (uZ t_x 0 size))]]) := hD
          refine lv_aload hx hb dL_grant_102 (lv_at hl 8 rfl) ?_
          refine lv_iconst (v := iI 4) hx hb dL_grant_104 rfl ?_
          refine lv_dup2_11 hx hb dL_grant_105 rfl rfl ?_
          refine zr_iald (n := 12) (f := uZ t_x 0 size) (i := 4) hx hb hK hP 6 rfl rg_4 ⟨by decide, by decide⟩ dL_grant_106 ?_
          refine W.eq (g2 := F0 m 107 ls (.int (iI (t_x 4)) :: [.int (iI 4), .ref t_a0])) rfl ?_
          refine lv_iconst (v := iI 1) hx hb dL_grant_107 rfl ?_
          refine zr_iadd (x := t_x 4) (y := 1) hx hb dL_grant_108 ?_
          obtain ⟨r133, h134⟩ := h132
          refine zr_iast (n := 12) (f := uZ t_x 0 size) (i := 4) (x := (t_x 4) + 1) hx hb hK hP hD hS 6 rfl rg_4 ⟨by decide, by decide⟩ dL_grant_109 (fun H locs hP hD hS => ?_)
          have hP : va_P G.1 vwCl (flt [[(f_a0, eI G 60 f_x)], [(n_a0, eI G 64 (uZ n_x ((t_x 10) - 1) (t_x 4)))], [(l_a0, eI G 64 l_x)], [(d_a0, eI G 64 d_x)], [(m_a0, eI G 20 m_x)], [(k_a0, eI G 60 k_x)], [(t_a0, eI G 12 (uZ (uZ t_x 0 size) 4 ((t_x 4) + 1)))]]) H := hP
          have hD : va_D A (flt [[(f_a0, eI G 60 f_x)], [(n_a0, eI G 64 (uZ n_x ((t_x 10) - 1) (t_x 4)))], [(l_a0, eI G 64 l_x)], [(d_a0, eI G 64 d_x)], [(m_a0, eI G 20 m_x)], [(k_a0, eI G 60 k_x)], [(t_a0, eI G 12 (uZ (uZ t_x 0 size) 4 ((t_x 4) + 1)))]]) := hD
          refine lv_aload_n hx hb dL_grant_110 rfl (lv_at hl 5 rfl) ?_
          refine lv_iload hx hb dL_grant_111 (lv_at hl 0 rfl) ?_
          refine lv_iconst (v := iI 0) hx hb dL_grant_113 rfl ?_
          refine zr_iast (n := 64) (f := d_x) (i := (t_x 10) - 1) (x := 0) hx hb hK hP hD hS 3 rfl r26 b28 dL_grant_114 (fun H locs hP hD hS => ?_)
          have hP : va_P G.1 vwCl (flt [[(f_a0, eI G 60 f_x)], [(n_a0, eI G 64 (uZ n_x ((t_x 10) - 1) (t_x 4)))], [(l_a0, eI G 64 l_x)], [(d_a0, eI G 64 (uZ d_x ((t_x 10) - 1) 0))], [(m_a0, eI G 20 m_x)], [(k_a0, eI G 60 k_x)], [(t_a0, eI G 12 (uZ (uZ t_x 0 size) 4 ((t_x 4) + 1)))]]) H := hP
          have hD : va_D A (flt [[(f_a0, eI G 60 f_x)], [(n_a0, eI G 64 (uZ n_x ((t_x 10) - 1) (t_x 4)))], [(l_a0, eI G 64 l_x)], [(d_a0, eI G 64 (uZ d_x ((t_x 10) - 1) 0))], [(m_a0, eI G 20 m_x)], [(k_a0, eI G 60 k_x)], [(t_a0, eI G 12 (uZ (uZ t_x 0 size) 4 ((t_x 4) + 1)))]]) := hD
          obtain ⟨I136, μ137, h138, h139⟩ := h134
          refine zr_loop (G := G) (σ := (Int → Int) × (Int → Int) × (Int → Int)) (fun x_135 => (rgA x_135.1 ∧ rgA x_135.2.1 ∧ rgA x_135.2.2) ∧ I136 x_135.1 x_135.2.1 x_135.2.2) (fun x_135 => μ137 x_135.1 x_135.2.1 x_135.2.2) (fun x_135 => flt [[(f_a0, eI G 60 f_x)], [(n_a0, eI G 64 x_135.1)], [(l_a0, eI G 64 l_x)], [(d_a0, eI G 64 x_135.2.1)], [(m_a0, eI G 20 m_x)], [(k_a0, eI G 60 k_x)], [(t_a0, eI G 12 x_135.2.2)]]) (fun x_135 => [(8, .int (iI (t_x 4))), (1, .ref n_a0), (2, .ref l_a0), (3, .ref d_a0), (6, .ref t_a0)]) ((uZ n_x ((t_x 10) - 1) (t_x 4), uZ d_x ((t_x 10) - 1) 0, uZ (uZ t_x 0 size) 4 ((t_x 4) + 1))) ⟨⟨(rgA_u (i := (t_x 10) - 1) r_n_x (r_t_x 4)), (rgA_u (i := (t_x 10) - 1) r_d_x rg_0), (rgA_u (i := 4) (rgA_u (i := 0) r_t_x r_size) r133)⟩, h138⟩ hP hD hS (lv_sub hl [1, 3, 4, 5, 8] rfl) ?_
          clear hP hD hS hl
          intro x_135 H locs ls ih140 h141 hP hD hS hl
          obtain ⟨x1_135, x3_135, x6_135⟩ := x_135
          obtain ⟨⟨rx1_135, rx3_135, rx6_135⟩, h141⟩ := h141
          have h142 := h139 x1_135 x3_135 x6_135 rx1_135 rx3_135 rx6_135 h141
          have hP : va_P G.1 vwCl (flt [[(f_a0, eI G 60 f_x)], [(n_a0, eI G 64 x1_135)], [(l_a0, eI G 64 l_x)], [(d_a0, eI G 64 x3_135)], [(m_a0, eI G 20 m_x)], [(k_a0, eI G 60 k_x)], [(t_a0, eI G 12 x6_135)]]) H := hP
          have hD : va_D A (flt [[(f_a0, eI G 60 f_x)], [(n_a0, eI G 64 x1_135)], [(l_a0, eI G 64 l_x)], [(d_a0, eI G 64 x3_135)], [(m_a0, eI G 20 m_x)], [(k_a0, eI G 60 k_x)], [(t_a0, eI G 12 x6_135)]]) := hD
          have hl : lv_has ls 12 [(8, .int (iI (t_x 4))), (1, .ref n_a0), (2, .ref l_a0), (3, .ref d_a0), (6, .ref t_a0)] := hl
          refine lv_aload_n hx hb dL_grant_115 rfl (lv_at hl 2 rfl) ?_
          refine lv_aload_n hx hb dL_grant_116 rfl (lv_at hl 3 rfl) ?_
          refine lv_aload hx hb dL_grant_117 (lv_at hl 4 rfl) ?_
          refine lv_iconst (v := iI 1) hx hb dL_grant_119 rfl ?_
          refine lv_iconst (v := iI 1) hx hb dL_grant_120 rfl ?_
          obtain ⟨b143, h144⟩ := h142
          refine zs_viR (As := [.ref l_a0, .ref d_a0, .ref t_a0, .int (iI 1), .int (iI 1)]) (rest := []) (c_L_kinds l G l_a0 d_a0 t_a0 l_x x3_135 x6_135 1 1 r_l_x rx3_135 rx6_135 rg_1 rg_1 b143 b12) ⟨hx, hb, hml, hown, hts⟩ (va_cwS 5 hts gL_grant_L_kinds rfl rfl rfl hdL_kinds ⟨Nat.le_of_ble_eq_true rfl, Nat.le_of_ble_eq_true rfl⟩) hK hP hD hS hA [2, 3, 6] rfl rfl rfl hl.1 rfl (Nat.le_of_ble_eq_true rfl) dL_grant_121 ⟨Nat.zero_le _, Nat.zero_le _⟩ (fun z146 H locs hw hP hD hS => ?_)
          obtain ⟨rfl, r147⟩ := hw
          have hP : va_P G.1 vwCl (flt [[(f_a0, eI G 60 f_x)], [(n_a0, eI G 64 x1_135)], [(l_a0, eI G 64 l_x)], [(d_a0, eI G 64 x3_135)], [(m_a0, eI G 20 m_x)], [(k_a0, eI G 60 k_x)], [(t_a0, eI G 12 x6_135)]]) H := hP
          have hD : va_D A (flt [[(f_a0, eI G 60 f_x)], [(n_a0, eI G 64 x1_135)], [(l_a0, eI G 64 l_x)], [(d_a0, eI G 64 x3_135)], [(m_a0, eI G 20 m_x)], [(k_a0, eI G 60 k_x)], [(t_a0, eI G 12 x6_135)]]) := hD
          refine zr_if_le (tgt := 213) (x := kdZ l_x x3_135 (1 : Int) (x6_135 10).toNat) hx hb r147 dL_grant_124 (by decide) (fun c148 => ?_) (fun c148 => ?_)
          · have h151 := h144.2 c148
            refine lv_aload_n hx hb dL_grant_213 rfl (lv_at hl 1 rfl) ?_
            refine lv_aload_n hx hb dL_grant_214 rfl (lv_at hl 2 rfl) ?_
            refine lv_aload_n hx hb dL_grant_215 rfl (lv_at hl 3 rfl) ?_
            refine lv_aload hx hb dL_grant_216 (lv_at hl 4 rfl) ?_
            obtain ⟨g152, g153, h154⟩ := h151
            obtain ⟨b155, h156⟩ := h154
            refine zs_vv (As := [.ref n_a0, .ref l_a0, .ref d_a0, .ref t_a0]) (rest := []) (L := [[(f_a0, eI G 60 f_x)], [(n_a0, eI G 64 x1_135)], [(l_a0, eI G 64 l_x)], [(d_a0, eI G 64 x3_135)], [(m_a0, eI G 20 m_x)], [(k_a0, eI G 60 k_x)], [(t_a0, eI G 12 x6_135)]]) (LC := [[(n_a0, eI G 64 x1_135)], [(l_a0, eI G 64 l_x)], [(d_a0, eI G 64 x3_135)], [(t_a0, eI G 12 x6_135)]]) (LR := [[(f_a0, eI G 60 f_x)], [(m_a0, eI G 20 m_x)], [(k_a0, eI G 60 k_x)]]) (LC1 := fun (u_161 : (Int → Int) × (Int → Int) × (Int → Int) × (Int → Int)) => [[(n_a0, eI G 64 u_161.1)], [(l_a0, eI G 64 u_161.2.1)], [(d_a0, eI G 64 u_161.2.2.1)], [(t_a0, eI G 12 u_161.2.2.2)]]) (L2 := fun (u_161 : (Int → Int) × (Int → Int) × (Int → Int) × (Int → Int)) => [[(f_a0, eI G 60 f_x)], [(n_a0, eI G 64 u_161.1)], [(l_a0, eI G 64 u_161.2.1)], [(d_a0, eI G 64 u_161.2.2.1)], [(m_a0, eI G 20 m_x)], [(k_a0, eI G 60 k_x)], [(t_a0, eI G 12 u_161.2.2.2)]]) (c_L_clean l G n_a0 l_a0 d_a0 t_a0 x1_135 l_x x3_135 x6_135 g152 g153 rx1_135 r_l_x rx3_135 rx6_135 b155 b143) ⟨hx, hb, hml, hown, hts⟩ (va_cwS 4 hts gL_grant_L_clean rfl rfl rfl hdL_clean ⟨Nat.le_of_ble_eq_true rfl, Nat.le_of_ble_eq_true rfl⟩) hK hP hD hS hA [1, 2, 3, 6] [0, 4, 5] [4, 0, 1, 2, 5, 6, 3] rfl rfl 7 rfl (by decide) (fun _ => rfl) (fun _ => rfl) (by decide) rfl hl.1 rfl (Nat.le_of_ble_eq_true rfl) dL_grant_218 ⟨Nat.zero_le _, Nat.zero_le _⟩ (fun u_161 H locs hw hP hD hS => ?_)
            obtain ⟨u_n_x157, u_l_x158, u_d_x159, u_t_x160⟩ := u_161
            obtain ⟨ru_n_x157, ru_l_x158, ru_d_x159, ru_t_x160, h163⟩ := hw
            have h164 := h156 u_n_x157 u_l_x158 u_d_x159 u_t_x160 ru_n_x157 ru_l_x158 ru_d_x159 ru_t_x160 h163
            have hP : va_P G.1 vwCl (flt [[(f_a0, eI G 60 f_x)], [(n_a0, eI G 64 u_n_x157)], [(l_a0, eI G 64 u_l_x158)], [(d_a0, eI G 64 u_d_x159)], [(m_a0, eI G 20 m_x)], [(k_a0, eI G 60 k_x)], [(t_a0, eI G 12 u_t_x160)]]) H := hP
            have hD : va_D A (flt [[(f_a0, eI G 60 f_x)], [(n_a0, eI G 64 u_n_x157)], [(l_a0, eI G 64 u_l_x158)], [(d_a0, eI G 64 u_d_x159)], [(m_a0, eI G 20 m_x)], [(k_a0, eI G 60 k_x)], [(t_a0, eI G 12 u_t_x160)]]) := hD
            refine lv_aload hx hb dL_grant_221 (lv_at hl 4 rfl) ?_
            refine lv_iconst (v := iI 5) hx hb dL_grant_223 rfl ?_
            refine lv_iconst (v := iI 0) hx hb dL_grant_224 rfl ?_
            refine zr_iast (n := 12) (f := u_t_x160) (i := 5) (x := 0) hx hb hK hP hD hS 6 rfl rg_5 ⟨by decide, by decide⟩ dL_grant_225 (fun H locs hP hD hS => ?_)
            have hP : va_P G.1 vwCl (flt [[(f_a0, eI G 60 f_x)], [(n_a0, eI G 64 u_n_x157)], [(l_a0, eI G 64 u_l_x158)], [(d_a0, eI G 64 u_d_x159)], [(m_a0, eI G 20 m_x)], [(k_a0, eI G 60 k_x)], [(t_a0, eI G 12 (uZ u_t_x160 5 0))]]) H := hP
            have hD : va_D A (flt [[(f_a0, eI G 60 f_x)], [(n_a0, eI G 64 u_n_x157)], [(l_a0, eI G 64 u_l_x158)], [(d_a0, eI G 64 u_d_x159)], [(m_a0, eI G 20 m_x)], [(k_a0, eI G 60 k_x)], [(t_a0, eI G 12 (uZ u_t_x160 5 0))]]) := hD
            refine lv_aload hx hb dL_grant_226 (lv_at hl 4 rfl) ?_
            refine lv_bipush (v := iI 9) hx hb dL_grant_228 (by decide) ?_
            refine lv_dup2_11 hx hb dL_grant_230 rfl rfl ?_
            refine zr_iald (n := 12) (f := uZ u_t_x160 5 0) (i := 9) hx hb hK hP 6 rfl rg_9 ⟨by decide, by decide⟩ dL_grant_231 ?_
            refine W.eq (g2 := F0 m 232 ls (.int (iI (u_t_x160 9)) :: [.int (iI 9), .ref t_a0])) rfl ?_
            refine lv_iconst (v := iI 1) hx hb dL_grant_232 rfl ?_
            refine zr_iadd (x := u_t_x160 9) (y := 1) hx hb dL_grant_233 ?_
            obtain ⟨r165, h166⟩ := h164
            refine zr_iast (n := 12) (f := uZ u_t_x160 5 0) (i := 9) (x := (u_t_x160 9) + 1) hx hb hK hP hD hS 6 rfl rg_9 ⟨by decide, by decide⟩ dL_grant_234 (fun H locs hP hD hS => ?_)
            have hP : va_P G.1 vwCl (flt [[(f_a0, eI G 60 f_x)], [(n_a0, eI G 64 u_n_x157)], [(l_a0, eI G 64 u_l_x158)], [(d_a0, eI G 64 u_d_x159)], [(m_a0, eI G 20 m_x)], [(k_a0, eI G 60 k_x)], [(t_a0, eI G 12 (uZ (uZ u_t_x160 5 0) 9 ((u_t_x160 9) + 1)))]]) H := hP
            have hD : va_D A (flt [[(f_a0, eI G 60 f_x)], [(n_a0, eI G 64 u_n_x157)], [(l_a0, eI G 64 u_l_x158)], [(d_a0, eI G 64 u_d_x159)], [(m_a0, eI G 20 m_x)], [(k_a0, eI G 60 k_x)], [(t_a0, eI G 12 (uZ (uZ u_t_x160 5 0) 9 ((u_t_x160 9) + 1)))]]) := hD
            refine lv_aload hx hb dL_grant_235 (lv_at hl 4 rfl) ?_
            refine lv_iconst (v := iI 4) hx hb dL_grant_237 rfl ?_
            refine zr_iald (n := 12) (f := uZ (uZ u_t_x160 5 0) 9 ((u_t_x160 9) + 1)) (i := 4) hx hb hK hP 6 rfl rg_4 ⟨by decide, by decide⟩ dL_grant_238 ?_
            refine W.eq (g2 := F0 m 239 ls (.int (iI (u_t_x160 4)) :: [])) rfl ?_
            refine lv_iload hx hb dL_grant_239 (lv_at hl 0 rfl) ?_
            refine zr_isub (x := u_t_x160 4) (y := t_x 4) hx hb dL_grant_241 ?_
            obtain ⟨r167, h168⟩ := h166
            exact zr_iret (z := (u_t_x160 4) - (t_x 4)) hx hb hr hlocks hK ((f_x, u_n_x157, u_l_x158, u_d_x159, uZ (uZ u_t_x160 5 0) 9 ((u_t_x160 9) + 1))) hP hD hS dL_grant_242 ⟨r167, r_f_x, ru_n_x157, ru_l_x158, ru_d_x159, (rgA_u (i := 9) (rgA_u (i := 5) ru_t_x160 rg_0) r165), h168⟩
          · have h169 := h144.1 c148
            refine lv_iconst (v := iI (-1)) hx hb dL_grant_127 rfl ?_
            refine lv_istore (lv' := [(10, .int (iI (-1))), (8, .int (iI (t_x 4))), (1, .ref n_a0), (2, .ref l_a0), (3, .ref d_a0), (6, .ref t_a0)]) hx hb dL_grant_128 hl (by decide) rfl (fun ls hl => ?_)
            refine lv_iconst (v := iI 0) hx hb dL_grant_130 rfl ?_
            refine lv_istore (lv' := [(11, .int (iI 0)), (10, .int (iI (-1))), (8, .int (iI (t_x 4))), (1, .ref n_a0), (2, .ref l_a0), (3, .ref d_a0), (6, .ref t_a0)]) hx hb dL_grant_131 hl (by decide) rfl (fun ls hl => ?_)
            obtain ⟨I171, μ172, h173, h174⟩ := h169
            refine zr_loop (G := G) (σ := Int × Int × (Int → Int) × (Int → Int) × (Int → Int)) (fun x_170 => (rg x_170.1 ∧ rg x_170.2.1 ∧ rgA x_170.2.2.1 ∧ rgA x_170.2.2.2.1 ∧ rgA x_170.2.2.2.2) ∧ I171 x_170.1 x_170.2.1 x_170.2.2.1 x_170.2.2.2.1 x_170.2.2.2.2) (fun x_170 => μ172 x_170.1 x_170.2.1 x_170.2.2.1 x_170.2.2.2.1 x_170.2.2.2.2) (fun x_170 => flt [[(f_a0, eI G 60 f_x)], [(n_a0, eI G 64 x_170.2.2.1)], [(l_a0, eI G 64 l_x)], [(d_a0, eI G 64 x_170.2.2.2.1)], [(m_a0, eI G 20 m_x)], [(k_a0, eI G 60 k_x)], [(t_a0, eI G 12 x_170.2.2.2.2)]]) (fun x_170 => [(11, .int (iI x_170.2.1)), (10, .int (iI x_170.1)), (8, .int (iI (t_x 4))), (1, .ref n_a0), (2, .ref l_a0), (3, .ref d_a0), (6, .ref t_a0)]) (((-1), 0, x1_135, x3_135, x6_135)) ⟨⟨rg_m1, rg_0, rx1_135, rx3_135, rx6_135⟩, h173⟩ hP hD hS (lv_sub hl [0, 1, 2, 3, 4, 5, 6] rfl) ?_
            clear hP hD hS hl
            intro x_170 H locs ls ih175 h176 hP hD hS hl
            obtain ⟨x10_170, x11_170, x1_170, x3_170, x6_170⟩ := x_170
            obtain ⟨⟨rx10_170, rx11_170, rx1_170, rx3_170, rx6_170⟩, h176⟩ := h176
            have h177 := h174 x10_170 x11_170 x1_170 x3_170 x6_170 rx10_170 rx11_170 rx1_170 rx3_170 rx6_170 h176
            have hP : va_P G.1 vwCl (flt [[(f_a0, eI G 60 f_x)], [(n_a0, eI G 64 x1_170)], [(l_a0, eI G 64 l_x)], [(d_a0, eI G 64 x3_170)], [(m_a0, eI G 20 m_x)], [(k_a0, eI G 60 k_x)], [(t_a0, eI G 12 x6_170)]]) H := hP
            have hD : va_D A (flt [[(f_a0, eI G 60 f_x)], [(n_a0, eI G 64 x1_170)], [(l_a0, eI G 64 l_x)], [(d_a0, eI G 64 x3_170)], [(m_a0, eI G 20 m_x)], [(k_a0, eI G 60 k_x)], [(t_a0, eI G 12 x6_170)]]) := hD
            have hl : lv_has ls 12 [(11, .int (iI x11_170)), (10, .int (iI x10_170)), (8, .int (iI (t_x 4))), (1, .ref n_a0), (2, .ref l_a0), (3, .ref d_a0), (6, .ref t_a0)] := hl
            refine lv_iload hx hb dL_grant_133 (lv_at hl 0 rfl) ?_
            refine lv_aload hx hb dL_grant_135 (lv_at hl 6 rfl) ?_
            refine lv_bipush (v := iI 10) hx hb dL_grant_137 (by decide) ?_
            refine zr_iald (n := 12) (f := x6_170) (i := 10) hx hb hK hP 6 rfl rg_10 ⟨by decide, by decide⟩ dL_grant_139 ?_
            refine zr_icmp_ge (tgt := 189) (x := x11_170) (y := x6_170 10) hx hb rx11_170 (rx6_170 10) dL_grant_140 (by decide) (fun c178 => ?_) (fun c178 => ?_)
            · have h181 := h177.2 c178
              refine lv_aload_n hx hb dL_grant_189 rfl (lv_at hl 3 rfl) ?_
              refine lv_iload hx hb dL_grant_190 (lv_at hl 1 rfl) ?_
              refine lv_aload hx hb dL_grant_192 (lv_at hl 6 rfl) ?_
              refine lv_iconst (v := iI 4) hx hb dL_grant_194 rfl ?_
              refine zr_iald (n := 12) (f := x6_170) (i := 4) hx hb hK hP 6 rfl rg_4 ⟨by decide, by decide⟩ dL_grant_195 ?_
              obtain ⟨b182, h183⟩ := h181
              refine zr_iast (n := 64) (f := x1_170) (i := x10_170) (x := x6_170 4) hx hb hK hP hD hS 1 rfl rx10_170 b182 dL_grant_196 (fun H locs hP hD hS => ?_)
              have hP : va_P G.1 vwCl (flt [[(f_a0, eI G 60 f_x)], [(n_a0, eI G 64 (uZ x1_170 x10_170 (x6_170 4)))], [(l_a0, eI G 64 l_x)], [(d_a0, eI G 64 x3_170)], [(m_a0, eI G 20 m_x)], [(k_a0, eI G 60 k_x)], [(t_a0, eI G 12 x6_170)]]) H := hP
              have hD : va_D A (flt [[(f_a0, eI G 60 f_x)], [(n_a0, eI G 64 (uZ x1_170 x10_170 (x6_170 4)))], [(l_a0, eI G 64 l_x)], [(d_a0, eI G 64 x3_170)], [(m_a0, eI G 20 m_x)], [(k_a0, eI G 60 k_x)], [(t_a0, eI G 12 x6_170)]]) := hD
              refine lv_aload_n hx hb dL_grant_197 rfl (lv_at hl 5 rfl) ?_
              refine lv_iload hx hb dL_grant_198 (lv_at hl 1 rfl) ?_
              refine lv_iconst (v := iI 0) hx hb dL_grant_200 rfl ?_
              refine zr_iast (n := 64) (f := x3_170) (i := x10_170) (x := 0) hx hb hK hP hD hS 3 rfl rx10_170 b182 dL_grant_201 (fun H locs hP hD hS => ?_)
              have hP : va_P G.1 vwCl (flt [[(f_a0, eI G 60 f_x)], [(n_a0, eI G 64 (uZ x1_170 x10_170 (x6_170 4)))], [(l_a0, eI G 64 l_x)], [(d_a0, eI G 64 (uZ x3_170 x10_170 0))], [(m_a0, eI G 20 m_x)], [(k_a0, eI G 60 k_x)], [(t_a0, eI G 12 x6_170)]]) H := hP
              have hD : va_D A (flt [[(f_a0, eI G 60 f_x)], [(n_a0, eI G 64 (uZ x1_170 x10_170 (x6_170 4)))], [(l_a0, eI G 64 l_x)], [(d_a0, eI G 64 (uZ x3_170 x10_170 0))], [(m_a0, eI G 20 m_x)], [(k_a0, eI G 60 k_x)], [(t_a0, eI G 12 x6_170)]]) := hD
              refine lv_aload hx hb dL_grant_202 (lv_at hl 6 rfl) ?_
              refine lv_iconst (v := iI 4) hx hb dL_grant_204 rfl ?_
              refine lv_dup2_11 hx hb dL_grant_205 rfl rfl ?_
              refine zr_iald (n := 12) (f := x6_170) (i := 4) hx hb hK hP 6 rfl rg_4 ⟨by decide, by decide⟩ dL_grant_206 ?_
              refine lv_iconst (v := iI 1) hx hb dL_grant_207 rfl ?_
              refine zr_iadd (x := x6_170 4) (y := 1) hx hb dL_grant_208 ?_
              obtain ⟨r184, h185⟩ := h183
              refine zr_iast (n := 12) (f := x6_170) (i := 4) (x := (x6_170 4) + 1) hx hb hK hP hD hS 6 rfl rg_4 ⟨by decide, by decide⟩ dL_grant_209 (fun H locs hP hD hS => ?_)
              have hP : va_P G.1 vwCl (flt [[(f_a0, eI G 60 f_x)], [(n_a0, eI G 64 (uZ x1_170 x10_170 (x6_170 4)))], [(l_a0, eI G 64 l_x)], [(d_a0, eI G 64 (uZ x3_170 x10_170 0))], [(m_a0, eI G 20 m_x)], [(k_a0, eI G 60 k_x)], [(t_a0, eI G 12 (uZ x6_170 4 ((x6_170 4) + 1)))]]) H := hP
              have hD : va_D A (flt [[(f_a0, eI G 60 f_x)], [(n_a0, eI G 64 (uZ x1_170 x10_170 (x6_170 4)))], [(l_a0, eI G 64 l_x)], [(d_a0, eI G 64 (uZ x3_170 x10_170 0))], [(m_a0, eI G 20 m_x)], [(k_a0, eI G 60 k_x)], [(t_a0, eI G 12 (uZ x6_170 4 ((x6_170 4) + 1)))]]) := hD
              refine lv_goto (tgt := 115) hx hb dL_grant_210 (by decide) ?_
              obtain ⟨h186, h187⟩ := h185
              exact ih140 ((uZ x1_170 x10_170 (x6_170 4), uZ x3_170 x10_170 0, uZ x6_170 4 ((x6_170 4) + 1))) _ _ _ ⟨⟨(rgA_u (i := x10_170) rx1_170 (rx6_170 4)), (rgA_u (i := x10_170) rx3_170 rg_0), (rgA_u (i := 4) rx6_170 r184)⟩, h186⟩ h187 hP hD hS (lv_sub hl [2, 3, 4, 5, 6] rfl)
            · have h188 := h177.1 c178
              refine lv_aload_n hx hb dL_grant_143 rfl (lv_at hl 5 rfl) ?_
              refine lv_iload hx hb dL_grant_144 (lv_at hl 0 rfl) ?_
              obtain ⟨b189, h190⟩ := h188
              refine zr_iald (n := 64) (f := x3_170) (i := x11_170) hx hb hK hP 3 rfl rx11_170 b189 dL_grant_146 ?_
              refine lv_iconst (v := iI 1) hx hb dL_grant_147 rfl ?_
              refine zr_icmp_ne (tgt := 179) (x := x3_170 x11_170) (y := 1) hx hb (rx3_170 x11_170) rg_1 dL_grant_148 (by decide) (fun c191 => ?_) (fun c191 => ?_)
              · have h194 := h190.2 c191
                refine lv_iload hx hb dL_grant_179 (lv_at hl 1 rfl) ?_
                refine lv_istore (lv' := [(10, .int (iI x10_170)), (11, .int (iI x11_170)), (8, .int (iI (t_x 4))), (1, .ref n_a0), (2, .ref l_a0), (3, .ref d_a0), (6, .ref t_a0)]) hx hb dL_grant_181 hl (by decide) rfl (fun ls hl => ?_)
                obtain ⟨r195, h196⟩ := h194
                refine zr_iinc (x := x11_170) (lv' := [(11, .int (iI (x11_170 + 1))), (10, .int (iI x10_170)), (8, .int (iI (t_x 4))), (1, .ref n_a0), (2, .ref l_a0), (3, .ref d_a0), (6, .ref t_a0)]) hx hb dL_grant_183 hl (k := 1) rfl (by decide) rfl (fun ls hl => ?_)
                refine lv_goto (tgt := 133) hx hb dL_grant_186 (by decide) ?_
                obtain ⟨h197, h198⟩ := h196
                exact ih175 ((x10_170, x11_170 + 1, x1_170, x3_170, x6_170)) _ _ _ ⟨⟨rx10_170, r195, rx1_170, rx3_170, rx6_170⟩, h197⟩ h198 hP hD hS (lv_sub hl [0, 1, 2, 3, 4, 5, 6] rfl)
              · have h199 := h190.1 c191
                refine lv_aload_n hx hb dL_grant_151 rfl (lv_at hl 4 rfl) ?_
                refine lv_iload hx hb dL_grant_152 (lv_at hl 0 rfl) ?_
                refine zr_iald (n := 64) (f := l_x) (i := x11_170) hx hb hK hP 2 rfl rx11_170 b189 dL_grant_154 ?_
                refine zr_if_le (tgt := 179) (x := l_x x11_170) hx hb (r_l_x x11_170) dL_grant_155 (by decide) (fun c200 => ?_) (fun c200 => ?_)
                · have h203 := h199.2 c200
                  refine lv_iload hx hb dL_grant_179 (lv_at hl 1 rfl) ?_
                  refine lv_istore (lv' := [(10, .int (iI x10_170)), (11, .int (iI x11_170)), (8, .int (iI (t_x 4))), (1, .ref n_a0), (2, .ref l_a0), (3, .ref d_a0), (6, .ref t_a0)]) hx hb dL_grant_181 hl (by decide) rfl (fun ls hl => ?_)
                  obtain ⟨r204, h205⟩ := h203
                  refine zr_iinc (x := x11_170) (lv' := [(11, .int (iI (x11_170 + 1))), (10, .int (iI x10_170)), (8, .int (iI (t_x 4))), (1, .ref n_a0), (2, .ref l_a0), (3, .ref d_a0), (6, .ref t_a0)]) hx hb dL_grant_183 hl (k := 1) rfl (by decide) rfl (fun ls hl => ?_)
                  refine lv_goto (tgt := 133) hx hb dL_grant_186 (by decide) ?_
                  obtain ⟨h206, h207⟩ := h205
                  exact ih175 ((x10_170, x11_170 + 1, x1_170, x3_170, x6_170)) _ _ _ ⟨⟨rx10_170, r204, rx1_170, rx3_170, rx6_170⟩, h206⟩ h207 hP hD hS (lv_sub hl [0, 1, 2, 3, 4, 5, 6] rfl)
                · have h208 := h199.1 c200
                  refine lv_iload hx hb dL_grant_158 (lv_at hl 1 rfl) ?_
                  refine zr_if_lt (tgt := 174) (x := x10_170) hx hb rx10_170 dL_grant_160 (by decide) (fun c209 => ?_) (fun c209 => ?_)
                  · have h212 := h208.1 c209
                    refine lv_iload hx hb dL_grant_174 (lv_at hl 0 rfl) ?_
                    refine lv_goto (tgt := 181) hx hb dL_grant_176 (by decide) ?_
                    refine lv_istore (lv' := [(10, .int (iI x11_170)), (11, .int (iI x11_170)), (8, .int (iI (t_x 4))), (1, .ref n_a0), (2, .ref l_a0), (3, .ref d_a0), (6, .ref t_a0)]) hx hb dL_grant_181 hl (by decide) rfl (fun ls hl => ?_)
                    obtain ⟨r213, h214⟩ := h212
                    refine zr_iinc (x := x11_170) (lv' := [(11, .int (iI (x11_170 + 1))), (10, .int (iI x11_170)), (8, .int (iI (t_x 4))), (1, .ref n_a0), (2, .ref l_a0), (3, .ref d_a0), (6, .ref t_a0)]) hx hb dL_grant_183 hl (k := 1) rfl (by decide) rfl (fun ls hl => ?_)
                    refine lv_goto (tgt := 133) hx hb dL_grant_186 (by decide) ?_
                    obtain ⟨h215, h216⟩ := h214
                    exact ih175 ((x11_170, x11_170 + 1, x1_170, x3_170, x6_170)) _ _ _ ⟨⟨rx11_170, r213, rx1_170, rx3_170, rx6_170⟩, h215⟩ h216 hP hD hS (lv_sub hl [0, 1, 2, 3, 4, 5, 6] rfl)
                  · have h217 := h208.2 c209
                    refine lv_aload_n hx hb dL_grant_163 rfl (lv_at hl 3 rfl) ?_
                    refine lv_iload hx hb dL_grant_164 (lv_at hl 0 rfl) ?_
                    refine zr_iald (n := 64) (f := x1_170) (i := x11_170) hx hb hK hP 1 rfl rx11_170 b189 dL_grant_166 ?_
                    refine lv_aload_n hx hb dL_grant_167 rfl (lv_at hl 3 rfl) ?_
                    refine lv_iload hx hb dL_grant_168 (lv_at hl 1 rfl) ?_
                    obtain ⟨b218, h219⟩ := h217
                    refine zr_iald (n := 64) (f := x1_170) (i := x10_170) hx hb hK hP 1 rfl rx10_170 b218 dL_grant_170 ?_
                    refine zr_icmp_ge (tgt := 179) (x := x1_170 x11_170) (y := x1_170 x10_170) hx hb (rx1_170 x11_170) (rx1_170 x10_170) dL_grant_171 (by decide) (fun c220 => ?_) (fun c220 => ?_)
                    · have h223 := h219.2 c220
                      refine lv_iload hx hb dL_grant_179 (lv_at hl 1 rfl) ?_
                      refine lv_istore (lv' := [(10, .int (iI x10_170)), (11, .int (iI x11_170)), (8, .int (iI (t_x 4))), (1, .ref n_a0), (2, .ref l_a0), (3, .ref d_a0), (6, .ref t_a0)]) hx hb dL_grant_181 hl (by decide) rfl (fun ls hl => ?_)
                      obtain ⟨r224, h225⟩ := h223
                      refine zr_iinc (x := x11_170) (lv' := [(11, .int (iI (x11_170 + 1))), (10, .int (iI x10_170)), (8, .int (iI (t_x 4))), (1, .ref n_a0), (2, .ref l_a0), (3, .ref d_a0), (6, .ref t_a0)]) hx hb dL_grant_183 hl (k := 1) rfl (by decide) rfl (fun ls hl => ?_)
                      refine lv_goto (tgt := 133) hx hb dL_grant_186 (by decide) ?_
                      obtain ⟨h226, h227⟩ := h225
                      exact ih175 ((x10_170, x11_170 + 1, x1_170, x3_170, x6_170)) _ _ _ ⟨⟨rx10_170, r224, rx1_170, rx3_170, rx6_170⟩, h226⟩ h227 hP hD hS (lv_sub hl [0, 1, 2, 3, 4, 5, 6] rfl)
                    · have h228 := h219.1 c220
                      refine lv_iload hx hb dL_grant_174 (lv_at hl 0 rfl) ?_
                      refine lv_goto (tgt := 181) hx hb dL_grant_176 (by decide) ?_
                      refine lv_istore (lv' := [(10, .int (iI x11_170)), (11, .int (iI x11_170)), (8, .int (iI (t_x 4))), (1, .ref n_a0), (2, .ref l_a0), (3, .ref d_a0), (6, .ref t_a0)]) hx hb dL_grant_181 hl (by decide) rfl (fun ls hl => ?_)
                      obtain ⟨r229, h230⟩ := h228
                      refine zr_iinc (x := x11_170) (lv' := [(11, .int (iI (x11_170 + 1))), (10, .int (iI x11_170)), (8, .int (iI (t_x 4))), (1, .ref n_a0), (2, .ref l_a0), (3, .ref d_a0), (6, .ref t_a0)]) hx hb dL_grant_183 hl (k := 1) rfl (by decide) rfl (fun ls hl => ?_)
                      refine lv_goto (tgt := 133) hx hb dL_grant_186 (by decide) ?_
                      obtain ⟨h231, h232⟩ := h230
                      exact ih175 ((x11_170, x11_170 + 1, x1_170, x3_170, x6_170)) _ _ _ ⟨⟨rx11_170, r229, rx1_170, rx3_170, rx6_170⟩, h231⟩ h232 hP hD hS (lv_sub hl [0, 1, 2, 3, 4, 5, 6] rfl)
      · have h233 := h18.2 c22
        refine lv_iconst (v := iI 0) hx hb dL_grant_70 rfl ?_
        exact zr_iret (z := 0) hx hb hr hlocks hK ((f_x, n_x, l_x, d_x, uZ t_x 0 size)) hP hD hS dL_grant_71 ⟨rg_0, r_f_x, r_n_x, r_l_x, r_d_x, (rgA_u (i := 0) r_t_x r_size), h233⟩
  · have h234 := hwp.1 c1
    refine lv_aload hx hb dL_grant_14 (lv_at hl 6 rfl) ?_
    refine lv_bipush (v := iI 11) hx hb dL_grant_16 (by decide) ?_
    refine zr_iald (n := 12) (f := uZ t_x 0 size) (i := 11) hx hb hK hP 6 rfl rg_11 ⟨by decide, by decide⟩ dL_grant_18 ?_
    refine W.eq (g2 := F0 m 19 ls (.int (iI (t_x 11)) :: [])) rfl ?_
    refine lv_iload hx hb dL_grant_19 (lv_at hl 7 rfl) ?_
    refine zr_icmp_le (tgt := 44) (x := t_x 11) (y := size) hx hb (r_t_x 11) r_size dL_grant_21 (by decide) (fun c235 => ?_) (fun c235 => ?_)
    · have h238 := h234.2 c235
      refine lv_iconst (v := iI 0) hx hb dL_grant_44 rfl ?_
      exact zr_iret (z := 0) hx hb hr hlocks hK ((f_x, n_x, l_x, d_x, uZ t_x 0 size)) hP hD hS dL_grant_45 ⟨rg_0, r_f_x, r_n_x, r_l_x, r_d_x, (rgA_u (i := 0) r_t_x r_size), h238⟩
    · have h239 := h234.1 c235
      refine lv_aload_n hx hb dL_grant_24 rfl (lv_at hl 0 rfl) ?_
      refine lv_aload_n hx hb dL_grant_25 rfl (lv_at hl 1 rfl) ?_
      refine lv_aload_n hx hb dL_grant_26 rfl (lv_at hl 2 rfl) ?_
      refine lv_aload_n hx hb dL_grant_27 rfl (lv_at hl 3 rfl) ?_
      refine lv_aload hx hb dL_grant_28 (lv_at hl 4 rfl) ?_
      refine lv_aload hx hb dL_grant_30 (lv_at hl 5 rfl) ?_
      refine lv_aload hx hb dL_grant_32 (lv_at hl 6 rfl) ?_
      obtain ⟨g240, h241⟩ := h239
      obtain ⟨b242, h243⟩ := h241
      obtain ⟨b244, h245⟩ := h243
      obtain ⟨b246, h247⟩ := h245
      refine zs_vi (As := [.ref f_a0, .ref n_a0, .ref l_a0, .ref d_a0, .ref m_a0, .ref k_a0, .ref t_a0]) (rest := []) (L := [[(f_a0, eI G 60 f_x)], [(n_a0, eI G 64 n_x)], [(l_a0, eI G 64 l_x)], [(d_a0, eI G 64 d_x)], [(m_a0, eI G 20 m_x)], [(k_a0, eI G 60 k_x)], [(t_a0, eI G 12 (uZ t_x 0 size))]]) (LC := [[(f_a0, eI G 60 f_x)], [(n_a0, eI G 64 n_x)], [(l_a0, eI G 64 l_x)], [(d_a0, eI G 64 d_x)], [(m_a0, eI G 20 m_x)], [(k_a0, eI G 60 k_x)], [(t_a0, eI G 12 (uZ t_x 0 size))]]) (LR := []) (LC1 := fun (u_253 : (Int → Int) × (Int → Int) × (Int → Int) × (Int → Int) × (Int → Int)) => [[(f_a0, eI G 60 u_253.1)], [(n_a0, eI G 64 u_253.2.1)], [(l_a0, eI G 64 u_253.2.2.1)], [(d_a0, eI G 64 u_253.2.2.2.1)], [(m_a0, eI G 20 m_x)], [(k_a0, eI G 60 k_x)], [(t_a0, eI G 12 u_253.2.2.2.2)]]) (L2 := fun (u_253 : (Int → Int) × (Int → Int) × (Int → Int) × (Int → Int) × (Int → Int)) => [[(f_a0, eI G 60 u_253.1)], [(n_a0, eI G 64 u_253.2.1)], [(l_a0, eI G 64 u_253.2.2.1)], [(d_a0, eI G 64 u_253.2.2.2.1)], [(m_a0, eI G 20 m_x)], [(k_a0, eI G 60 k_x)], [(t_a0, eI G 12 u_253.2.2.2.2)]]) (c_L_write l G f_a0 n_a0 l_a0 d_a0 m_a0 k_a0 t_a0 f_x n_x l_x d_x m_x k_x (uZ t_x 0 size) g240 r_f_x r_n_x r_l_x r_d_x r_m_x r_k_x (rgA_u (i := 0) r_t_x r_size) b242 b244 b246) ⟨hx, hb, hml, hown, hts⟩ (va_cwS 7 hts gL_grant_L_write rfl rfl rfl hdL_write ⟨Nat.le_of_ble_eq_true rfl, Nat.le_of_ble_eq_true rfl⟩) hK hP hD hS hA [0, 1, 2, 3, 4, 5, 6] [] [0, 1, 2, 3, 4, 5, 6] rfl rfl 7 rfl (by decide) (fun _ => rfl) (fun _ => rfl) (by decide) rfl hl.1 rfl (Nat.le_of_ble_eq_true rfl) dL_grant_34 ⟨Nat.zero_le _, Nat.zero_le _⟩ (fun z254 u_253 H locs hw hP hD hS => ?_)
      obtain ⟨u_f_x248, u_n_x249, u_l_x250, u_d_x251, u_t_x252⟩ := u_253
      obtain ⟨r256, ru_f_x248, ru_n_x249, ru_l_x250, ru_d_x251, ru_t_x252, h255⟩ := hw
      have h257 := h247 z254 u_f_x248 u_n_x249 u_l_x250 u_d_x251 u_t_x252 r256 ru_f_x248 ru_n_x249 ru_l_x250 ru_d_x251 ru_t_x252 h255
      have hP : va_P G.1 vwCl (flt [[(f_a0, eI G 60 u_f_x248)], [(n_a0, eI G 64 u_n_x249)], [(l_a0, eI G 64 u_l_x250)], [(d_a0, eI G 64 u_d_x251)], [(m_a0, eI G 20 m_x)], [(k_a0, eI G 60 k_x)], [(t_a0, eI G 12 u_t_x252)]]) H := hP
      have hD : va_D A (flt [[(f_a0, eI G 60 u_f_x248)], [(n_a0, eI G 64 u_n_x249)], [(l_a0, eI G 64 u_l_x250)], [(d_a0, eI G 64 u_d_x251)], [(m_a0, eI G 20 m_x)], [(k_a0, eI G 60 k_x)], [(t_a0, eI G 12 u_t_x252)]]) := hD
      refine zr_if_lt (tgt := 44) (x := z254) hx hb r256 dL_grant_37 (by decide) (fun c258 => ?_) (fun c258 => ?_)
      · have h261 := h257.1 c258
        refine lv_iconst (v := iI 0) hx hb dL_grant_44 rfl ?_
        exact zr_iret (z := 0) hx hb hr hlocks hK ((u_f_x248, u_n_x249, u_l_x250, u_d_x251, u_t_x252)) hP hD hS dL_grant_45 ⟨rg_0, ru_f_x248, ru_n_x249, ru_l_x250, ru_d_x251, ru_t_x252, h261⟩
      · have h262 := h257.2 c258
        refine lv_iconst (v := iI 1) hx hb dL_grant_40 rfl ?_
        refine lv_goto (tgt := 45) hx hb dL_grant_41 (by decide) ?_
        exact zr_iret (z := 1) hx hb hr hlocks hK ((u_f_x248, u_n_x249, u_l_x250, u_d_x251, u_t_x252)) hP hD hS dL_grant_45 ⟨rg_1, ru_f_x248, ru_n_x249, ru_l_x250, ru_d_x251, ru_t_x252, h262⟩
theorem c_L_grant (l : Launch) (G : ZG) (f_a0 : Nat) (n_a0 : Nat) (l_a0 : Nat) (d_a0 : Nat) (m_a0 : Nat) (k_a0 : Nat) (t_a0 : Nat) (f_x : Int → Int) (n_x : Int → Int) (l_x : Int → Int) (d_x : Int → Int) (m_x : Int → Int) (k_x : Int → Int) (t_x : Int → Int) (size : Int) (z : Int → Int) (r_f_x : rgA f_x) (r_n_x : rgA n_x) (r_l_x : rgA l_x) (r_d_x : rgA d_x) (r_m_x : rgA m_x) (r_k_x : rgA k_x) (r_t_x : rgA t_x) (r_size : rg size) (p0 : LV f_x n_x l_x d_x m_x k_x t_x z) (p1 : Vz z) (p2 : 2 ≤ size ∧ size ≤ 20) (p3 : Bd z 50000) : ZI l G yL_grant wsL_grant 2 52 [.ref f_a0, .ref n_a0, .ref l_a0, .ref d_a0, .ref m_a0, .ref k_a0, .ref t_a0, .int (iI size)] (flt [[(f_a0, eI G 60 f_x)], [(n_a0, eI G 64 n_x)], [(l_a0, eI G 64 l_x)], [(d_a0, eI G 64 d_x)], [(m_a0, eI G 20 m_x)], [(k_a0, eI G 60 k_x)], [(t_a0, eI G 12 t_x)]]) (fun u : (Int → Int) × (Int → Int) × (Int → Int) × (Int → Int) × (Int → Int) => flt [[(f_a0, eI G 60 u.1)], [(n_a0, eI G 64 u.2.1)], [(l_a0, eI G 64 u.2.2.1)], [(d_a0, eI G 64 u.2.2.2.1)], [(m_a0, eI G 20 m_x)], [(k_a0, eI G 60 k_x)], [(t_a0, eI G 12 u.2.2.2.2)]]) (fun (zq : Int) (u : (Int → Int) × (Int → Int) × (Int → Int) × (Int → Int) × (Int → Int)) => rg zq ∧ rgA u.1 ∧ rgA u.2.1 ∧ rgA u.2.2.1 ∧ rgA u.2.2.2.1 ∧ rgA u.2.2.2.2 ∧ (zq = graA z size ∧ LV u.1 u.2.1 u.2.2.1 u.2.2.2.1 m_x k_x u.2.2.2.2 (graZ z size))) :=
  c0_L_grant l G f_a0 n_a0 l_a0 d_a0 m_a0 k_a0 t_a0 f_x n_x l_x d_x m_x k_x t_x size (fun r f_x' n_x' l_x' d_x' t_x' => r = graA z size ∧ LV f_x' n_x' l_x' d_x' m_x k_x t_x' (graZ z size)) r_f_x r_n_x r_l_x r_d_x r_m_x r_k_x r_t_x r_size (sp_L_grant f_x n_x l_x d_x m_x k_x t_x size z r_f_x r_n_x r_l_x r_d_x r_m_x r_k_x r_t_x r_size p0 p1 p2 p3)
