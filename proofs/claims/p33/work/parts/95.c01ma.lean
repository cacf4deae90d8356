theorem hdL_comes : yL_comes.cls ≠ "java/lang/invoke/MethodHandle" ∧ yL_comes.cls ≠ "java/lang/invoke/VarHandle" ∧ (parseMethodDescriptor yL_comes.desc).map (fun d => d.parameters.length) = some 3 := by decide +kernel
set_option maxRecDepth 100000 in
set_option maxHeartbeats 4000000 in
theorem c0_L_comes (l : Launch) (G : ZG) (k_a0 : Nat) (k_x : Int → Int) (a : Int) (b : Int) (P : Int → Prop) (r_k_x : rgA k_x) (r_a : rg a) (r_b : rg b) (hwp : wp_L_comes k_x a b P) : ZI l G yL_comes wsL_comes 0 0 [.ref k_a0, .int (iI a), .int (iI b)] (flt [[(k_a0, eI G 60 k_x)]]) (fun u : Unit => flt [[(k_a0, eI G 60 k_x)]]) (fun (z : Int) (u : Unit) => rg z ∧ P z) := by
  unfold wp_L_comes at hwp
  refine zm_i (cc := cL_comes) (maxL := 3) (ret := some .boolean) (own := RL) (lvs := [(0, .ref k_a0), (1, .int (iI a)), (2, .int (iI b))]) (by decide) rfl rfl (Nat.le_of_ble_eq_true rfl) rfl ?_
  intro p e sT m args below meth c ls A hx hb hr hml hown hts hlocks hK hP hD hS hA hl
  refine lv_aload_n hx hb dL_comes_0 rfl (lv_at hl 0 rfl) ?_
  refine lv_iload_n hx hb dL_comes_1 rfl (lv_at hl 1 rfl) ?_
  obtain ⟨b1, h2⟩ := hwp
  refine zr_iald (n := 60) (f := k_x) (i := a) hx hb hK hP 0 rfl r_a b1 dL_comes_2 ?_
  refine lv_aload_n hx hb dL_comes_3 rfl (lv_at hl 0 rfl) ?_
  refine lv_iload_n hx hb dL_comes_4 rfl (lv_at hl 2 rfl) ?_
  obtain ⟨b3, h4⟩ := h2
  refine zr_iald (n := 60) (f := k_x) (i := b) hx hb hK hP 0 rfl r_b b3 dL_comes_5 ?_
  refine zr_icmp_lt (tgt := 23) (x := k_x a) (y := k_x b) hx hb (r_k_x a) (r_k_x b) dL_comes_6 (by decide) (fun c5 => ?_) (fun c5 => ?_)
  · have h8 := h4.1 c5
    refine lv_iconst (v := iI 1) hx hb dL_comes_23 rfl ?_
    refine lv_goto (tgt := 28) hx hb dL_comes_24 (by decide) ?_
    exact zr_zret (z := 1) hx hb hr hlocks hK (Or.inr rfl) () hP hD hS dL_comes_28 ⟨rg_1, h8⟩
  · have h9 := h4.2 c5
    refine lv_aload_n hx hb dL_comes_9 rfl (lv_at hl 0 rfl) ?_
    refine lv_iload_n hx hb dL_comes_10 rfl (lv_at hl 1 rfl) ?_
    refine zr_iald (n := 60) (f := k_x) (i := a) hx hb hK hP 0 rfl r_a b1 dL_comes_11 ?_
    refine lv_aload_n hx hb dL_comes_12 rfl (lv_at hl 0 rfl) ?_
    refine lv_iload_n hx hb dL_comes_13 rfl (lv_at hl 2 rfl) ?_
    refine zr_iald (n := 60) (f := k_x) (i := b) hx hb hK hP 0 rfl r_b b3 dL_comes_14 ?_
    refine zr_icmp_ne (tgt := 27) (x := k_x a) (y := k_x b) hx hb (r_k_x a) (r_k_x b) dL_comes_15 (by decide) (fun c10 => ?_) (fun c10 => ?_)
    · have h13 := h9.2 c10
      refine lv_iconst (v := iI 0) hx hb dL_comes_27 rfl ?_
      exact zr_zret (z := 0) hx hb hr hlocks hK (Or.inl rfl) () hP hD hS dL_comes_28 ⟨rg_0, h13⟩
    · have h14 := h9.1 c10
      refine lv_iload_n hx hb dL_comes_18 rfl (lv_at hl 1 rfl) ?_
      refine lv_iload_n hx hb dL_comes_19 rfl (lv_at hl 2 rfl) ?_
      refine zr_icmp_ge (tgt := 27) (x := a) (y := b) hx hb r_a r_b dL_comes_20 (by decide) (fun c15 => ?_) (fun c15 => ?_)
      · have h18 := h14.2 c15
        refine lv_iconst (v := iI 0) hx hb dL_comes_27 rfl ?_
        exact zr_zret (z := 0) hx hb hr hlocks hK (Or.inl rfl) () hP hD hS dL_comes_28 ⟨rg_0, h18⟩
      · have h19 := h14.1 c15
        refine lv_iconst (v := iI 1) hx hb dL_comes_23 rfl ?_
        refine lv_goto (tgt := 28) hx hb dL_comes_24 (by decide) ?_
        exact zr_zret (z := 1) hx hb hr hlocks hK (Or.inr rfl) () hP hD hS dL_comes_28 ⟨rg_1, h19⟩
theorem c_L_comes (l : Launch) (G : ZG) (k_a0 : Nat) (k_x : Int → Int) (a : Int) (b : Int)  (r_k_x : rgA k_x) (r_a : rg a) (r_b : rg b) (p0 : 0 ≤ a ∧ a < 60) (p1 : 0 ≤ b ∧ b < 60) : ZI l G yL_comes wsL_comes 0 0 [.ref k_a0, .int (iI a), .int (iI b)] (flt [[(k_a0, eI G 60 k_x)]]) (fun _ : Unit => flt [[(k_a0, eI G 60 k_x)]]) (fun (z : Int) (_ : Unit) => z = (pz (k_x a < k_x b ∨ k_x a = k_x b ∧ a < b)) ∧ rg z) := by
  refine ZI.fn (w1 := fun u : Unit => flt [[(k_a0, eI G 60 k_x)]]) (fun z u hq => ?_) (c0_L_comes l G k_a0 k_x a b (fun z => z = (pz (k_x a < k_x b ∨ k_x a = k_x b ∧ a < b))) r_k_x r_a r_b (sp_L_comes k_x a b r_k_x r_a r_b p0 p1))
  obtain ⟨rz, ez⟩ := hq
  exact ⟨rfl, ⟨ez, rz⟩⟩
theorem hdL_start : yL_start.cls ≠ "java/lang/invoke/MethodHandle" ∧ yL_start.cls ≠ "java/lang/invoke/VarHandle" ∧ (parseMethodDescriptor yL_start.desc).map (fun d => d.parameters.length) = some 2 := by decide +kernel
set_option maxRecDepth 100000 in
set_option maxHeartbeats 4000000 in
theorem c0_L_start (l : Launch) (G : ZG) (l_a0 : Nat) (l_x : Int → Int) (file : Int) (P : Int → Prop) (r_l_x : rgA l_x) (r_file : rg file) (hwp : wp_L_start l_x file P) : ZI l G yL_start wsL_start 0 0 [.ref l_a0, .int (iI file)] (flt [[(l_a0, eI G 64 l_x)]]) (fun u : Unit => flt [[(l_a0, eI G 64 l_x)]]) (fun (z : Int) (u : Unit) => rg z ∧ P z) := by
  unfold wp_L_start at hwp
  refine zm_i (cc := cL_start) (maxL := 4) (ret := some .int) (own := RL) (lvs := [(0, .ref l_a0), (1, .int (iI file))]) (by decide) rfl rfl (Nat.le_of_ble_eq_true rfl) rfl ?_
  intro p e sT m args below meth c ls A hx hb hr hml hown hts hlocks hK hP hD hS hA hl
  refine lv_iconst (v := iI 0) hx hb dL_start_0 rfl ?_
  refine lv_istore_n (lv' := [(2, .int (iI 0)), (0, .ref l_a0), (1, .int (iI file))]) hx hb dL_start_1 rfl hl (by decide) rfl (fun ls hl => ?_)
  refine lv_iconst (v := iI 0) hx hb dL_start_2 rfl ?_
  refine lv_istore_n (lv' := [(3, .int (iI 0)), (2, .int (iI 0)), (0, .ref l_a0), (1, .int (iI file))]) hx hb dL_start_3 rfl hl (by decide) rfl (fun ls hl => ?_)
  obtain ⟨I2, μ3, h4, h5⟩ := hwp
  refine zr_loop (G := G) (σ := Int × Int) (fun x_1 => (rg x_1.1 ∧ rg x_1.2) ∧ I2 x_1.1 x_1.2) (fun x_1 => μ3 x_1.1 x_1.2) (fun x_1 => flt [[(l_a0, eI G 64 l_x)]]) (fun x_1 => [(3, .int (iI x_1.2)), (2, .int (iI x_1.1)), (0, .ref l_a0), (1, .int (iI file))]) ((0, 0)) ⟨⟨rg_0, rg_0⟩, h4⟩ hP hD hS (lv_sub hl [0, 1, 2, 3] rfl) ?_
  clear hP hD hS hl
  intro x_1 H locs ls ih6 h7 hP hD hS hl
  obtain ⟨x2_1, x3_1⟩ := x_1
  obtain ⟨⟨rx2_1, rx3_1⟩, h7⟩ := h7
  have h8 := h5 x2_1 x3_1 rx2_1 rx3_1 h7
  have hP : va_P G.1 vwCl (flt [[(l_a0, eI G 64 l_x)]]) H := hP
  have hD : va_D A (flt [[(l_a0, eI G 64 l_x)]]) := hD
  have hl : lv_has ls 4 [(3, .int (iI x3_1)), (2, .int (iI x2_1)), (0, .ref l_a0), (1, .int (iI file))] := hl
  refine lv_iload_n hx hb dL_start_4 rfl (lv_at hl 0 rfl) ?_
  refine lv_iload_n hx hb dL_start_5 rfl (lv_at hl 3 rfl) ?_
  refine zr_icmp_ge (tgt := 21) (x := x3_1) (y := file) hx hb rx3_1 r_file dL_start_6 (by decide) (fun c9 => ?_) (fun c9 => ?_)
  · have h12 := h8.2 c9
    refine lv_iload_n hx hb dL_start_21 rfl (lv_at hl 1 rfl) ?_
    exact zr_iret (z := x2_1) hx hb hr hlocks hK () hP hD hS dL_start_22 ⟨rx2_1, h12⟩
  · have h13 := h8.1 c9
    refine lv_iload_n hx hb dL_start_9 rfl (lv_at hl 1 rfl) ?_
    refine lv_aload_n hx hb dL_start_10 rfl (lv_at hl 2 rfl) ?_
    refine lv_iload_n hx hb dL_start_11 rfl (lv_at hl 0 rfl) ?_
    obtain ⟨b14, h15⟩ := h13
    refine zr_iald (n := 64) (f := l_x) (i := x3_1) hx hb hK hP 0 rfl rx3_1 b14 dL_start_12 ?_
    refine zr_iadd (x := x2_1) (y := l_x x3_1) hx hb dL_start_13 ?_
    obtain ⟨r16, h17⟩ := h15
    refine lv_istore_n (lv' := [(2, .int (iI (x2_1 + (l_x x3_1)))), (3, .int (iI x3_1)), (0, .ref l_a0), (1, .int (iI file))]) hx hb dL_start_14 rfl hl (by decide) rfl (fun ls hl => ?_)
    obtain ⟨r18, h19⟩ := h17
    refine zr_iinc (x := x3_1) (lv' := [(3, .int (iI (x3_1 + 1))), (2, .int (iI (x2_1 + (l_x x3_1)))), (0, .ref l_a0), (1, .int (iI file))]) hx hb dL_start_15 hl (k := 1) rfl (by decide) rfl (fun ls hl => ?_)
    refine lv_goto (tgt := 4) hx hb dL_start_18 (by decide) ?_
    obtain ⟨h20, h21⟩ := h19
    exact ih6 ((x2_1 + (l_x x3_1), x3_1 + 1)) _ _ _ ⟨⟨r16, r18⟩, h20⟩ h21 hP hD hS (lv_sub hl [0, 1, 2, 3] rfl)
theorem c_L_start (l : Launch) (G : ZG) (l_a0 : Nat) (l_x : Int → Int) (file : Int)  (r_l_x : rgA l_x) (r_file : rg file) (p0 : 0 ≤ file ∧ file ≤ 64) (p1 : ∀ i, 0 ≤ i → i < file → 0 ≤ l_x i ∧ l_x i ≤ 60) : ZI l G yL_start wsL_start 0 0 [.ref l_a0, .int (iI file)] (flt [[(l_a0, eI G 64 l_x)]]) (fun _ : Unit => flt [[(l_a0, eI G 64 l_x)]]) (fun (z : Int) (_ : Unit) => z = (sumI l_x (file).toNat) ∧ rg z) := by
  refine ZI.fn (w1 := fun u : Unit => flt [[(l_a0, eI G 64 l_x)]]) (fun z u hq => ?_) (c0_L_start l G l_a0 l_x file (fun z => z = (sumI l_x (file).toNat)) r_l_x r_file (sp_L_start l_x file r_l_x r_file p0 p1))
  obtain ⟨rz, ez⟩ := hq
  exact ⟨rfl, ⟨ez, rz⟩⟩
theorem hdL_ways : yL_ways.cls ≠ "java/lang/invoke/MethodHandle" ∧ yL_ways.cls ≠ "java/lang/invoke/VarHandle" ∧ (parseMethodDescriptor yL_ways.desc).map (fun d => d.parameters.length) = some 1 := by decide +kernel
set_option maxRecDepth 100000 in
set_option maxHeartbeats 4000000 in
theorem c0_L_ways (l : Launch) (G : ZG)   (size : Int) (P : Int → Prop)  (r_size : rg size) (hwp : wp_L_ways size P) : ZI l G yL_ways wsL_ways 0 0 [.int (iI size)] (([] : va_W)) (fun u : Unit => ([] : va_W)) (fun (z : Int) (u : Unit) => rg z ∧ P z) := by
  unfold wp_L_ways at hwp
  refine zm_i (cc := cL_ways) (maxL := 1) (ret := some .int) (own := RL) (lvs := [(0, .int (iI size))]) (by decide) rfl rfl (Nat.le_of_ble_eq_true rfl) rfl ?_
  intro p e sT m args below meth c ls A hx hb hr hml hown hts hlocks hK hP hD hS hA hl
  refine lv_iload_n hx hb dL_ways_0 rfl (lv_at hl 0 rfl) ?_
  refine lv_bipush (v := iI 9) hx hb dL_ways_1 (by decide) ?_
  refine zr_icmp_le (tgt := 11) (x := size) (y := 9) hx hb r_size rg_9 dL_ways_3 (by decide) (fun c1 => ?_) (fun c1 => ?_)
  · have h4 := hwp.2 c1
    refine lv_iload_n hx hb dL_ways_11 rfl (lv_at hl 0 rfl) ?_
    refine lv_iconst (v := iI 1) hx hb dL_ways_12 rfl ?_
    refine zr_isub (x := size) (y := 1) hx hb dL_ways_13 ?_
    obtain ⟨r5, h6⟩ := h4
    exact zr_iret (z := size - 1) hx hb hr hlocks hK () hP hD hS dL_ways_14 ⟨r5, h6⟩
  · have h7 := hwp.1 c1
    refine lv_bipush (v := iI 8) hx hb dL_ways_6 (by decide) ?_
    refine lv_goto (tgt := 14) hx hb dL_ways_8 (by decide) ?_
    exact zr_iret (z := 8) hx hb hr hlocks hK () hP hD hS dL_ways_14 ⟨rg_8, h7⟩
theorem c_L_ways (l : Launch) (G : ZG)   (size : Int)   (r_size : rg size) (p0 : 2 ≤ size ∧ size ≤ 20) : ZI l G yL_ways wsL_ways 0 0 [.int (iI size)] (([] : va_W)) (fun _ : Unit => ([] : va_W)) (fun (z : Int) (_ : Unit) => z = (waysZ size) ∧ rg z) := by
  refine ZI.fn (w1 := fun u : Unit => ([] : va_W)) (fun z u hq => ?_) (c0_L_ways l G  size (fun z => z = (waysZ size))  r_size (sp_L_ways size  r_size p0))
  obtain ⟨rz, ez⟩ := hq
  exact ⟨rfl, ⟨ez, rz⟩⟩
theorem hdL_kinds : yL_kinds.cls ≠ "java/lang/invoke/MethodHandle" ∧ yL_kinds.cls ≠ "java/lang/invoke/VarHandle" ∧ (parseMethodDescriptor yL_kinds.desc).map (fun d => d.parameters.length) = some 5 := by decide +kernel
set_option maxRecDepth 100000 in
set_option maxHeartbeats 4000000 in
theorem c0_L_kinds (l : Launch) (G : ZG) (l_a0 : Nat) (d_a0 : Nat) (t_a0 : Nat) (l_x : Int → Int) (d_x : Int → Int) (t_x : Int → Int) (kind : Int) (full : Int) (P : Int → Prop) (r_l_x : rgA l_x) (r_d_x : rgA d_x) (r_t_x : rgA t_x) (r_kind : rg kind) (r_full : rg full) (hwp : wp_L_kinds l_x d_x t_x kind full P) : ZI l G yL_kinds wsL_kinds 0 0 [.ref l_a0, .ref d_a0, .ref t_a0, .int (iI kind), .int (iI full)] (flt [[(l_a0, eI G 64 l_x)], [(d_a0, eI G 64 d_x)], [(t_a0, eI G 12 t_x)]]) (fun u : Unit => flt [[(l_a0, eI G 64 l_x)], [(d_a0, eI G 64 d_x)], [(t_a0, eI G 12 t_x)]]) (fun (z : Int) (u : Unit) => rg z ∧ P z) := by
  unfold wp_L_kinds at hwp
  refine zm_i (cc := cL_kinds) (maxL := 7) (ret := some .int) (own := RL) (lvs := [(0, .ref l_a0), (1, .ref d_a0), (2, .ref t_a0), (3, .int (iI kind)), (4, .int (iI full))]) (by decide) rfl rfl (Nat.le_of_ble_eq_true rfl) rfl ?_
  intro p e sT m args below meth c ls A hx hb hr hml hown hts hlocks hK hP hD hS hA hl
  refine lv_iconst (v := iI 0) hx hb dL_kinds_0 rfl ?_
  refine lv_istore (lv' := [(5, .int (iI 0)), (0, .ref l_a0), (1, .ref d_a0), (2, .ref t_a0), (3, .int (iI kind)), (4, .int (iI full))]) hx hb dL_kinds_1 hl (by decide) rfl (fun ls hl => ?_)
  refine lv_iconst (v := iI 0) hx hb dL_kinds_3 rfl ?_
  refine lv_istore (lv' := [(6, .int (iI 0)), (5, .int (iI 0)), (0, .ref l_a0), (1, .ref d_a0), (2, .ref t_a0), (3, .int (iI kind)), (4, .int (iI full))]) hx hb dL_kinds_4 hl (by decide) rfl (fun ls hl => ?_)
  obtain ⟨I2, μ3, h4, h5⟩ := hwp
  refine zr_loop (G := G) (σ := Int × Int) (fun x_1 => (rg x_1.1 ∧ rg x_1.2) ∧ I2 x_1.1 x_1.2) (fun x_1 => μ3 x_1.1 x_1.2) (fun x_1 => flt [[(l_a0, eI G 64 l_x)], [(d_a0, eI G 64 d_x)], [(t_a0, eI G 12 t_x)]]) (fun x_1 => [(6, .int (iI x_1.2)), (5, .int (iI x_1.1)), (0, .ref l_a0), (1, .ref d_a0), (2, .ref t_a0), (3, .int (iI kind)), (4, .int (iI full))]) ((0, 0)) ⟨⟨rg_0, rg_0⟩, h4⟩ hP hD hS (lv_sub hl [0, 1, 2, 3, 4, 5, 6] rfl) ?_
  clear hP hD hS hl
  intro x_1 H locs ls ih6 h7 hP hD hS hl
  obtain ⟨x5_1, x6_1⟩ := x_1
  obtain ⟨⟨rx5_1, rx6_1⟩, h7⟩ := h7
  have h8 := h5 x5_1 x6_1 rx5_1 rx6_1 h7
  have hP : va_P G.1 vwCl (flt [[(l_a0, eI G 64 l_x)], [(d_a0, eI G 64 d_x)], [(t_a0, eI G 12 t_x)]]) H := hP
  have hD : va_D A (flt [[(l_a0, eI G 64 l_x)], [(d_a0, eI G 64 d_x)], [(t_a0, eI G 12 t_x)]]) := hD
  have hl : lv_has ls 7 [(6, .int (iI x6_1)), (5, .int (iI x5_1)), (0, .ref l_a0), (1, .ref d_a0), (2, .ref t_a0), (3, .int (iI kind)), (4, .int (iI full))] := hl
  refine lv_iload hx hb dL_kinds_6 (lv_at hl 0 rfl) ?_
  refine lv_aload_n hx hb dL_kinds_8 rfl (lv_at hl 4 rfl) ?_
  refine lv_bipush (v := iI 10) hx hb dL_kinds_9 (by decide) ?_
  refine zr_iald (n := 12) (f := t_x) (i := 10) hx hb hK hP 2 rfl rg_10 ⟨by decide, by decide⟩ dL_kinds_11 ?_
  refine zr_icmp_ge (tgt := 51) (x := x6_1) (y := t_x 10) hx hb rx6_1 (r_t_x 10) dL_kinds_12 (by decide) (fun c9 => ?_) (fun c9 => ?_)
  · have h12 := h8.2 c9
    refine lv_iload hx hb dL_kinds_51 (lv_at hl 1 rfl) ?_
    exact zr_iret (z := x5_1) hx hb hr hlocks hK () hP hD hS dL_kinds_53 ⟨rx5_1, h12⟩
  · have h13 := h8.1 c9
    refine lv_iload hx hb dL_kinds_15 (lv_at hl 1 rfl) ?_
    refine lv_aload_n hx hb dL_kinds_17 rfl (lv_at hl 3 rfl) ?_
    refine lv_iload hx hb dL_kinds_18 (lv_at hl 0 rfl) ?_
    obtain ⟨b14, h15⟩ := h13
    refine zr_iald (n := 64) (f := d_x) (i := x6_1) hx hb hK hP 1 rfl rx6_1 b14 dL_kinds_20 ?_
    refine lv_iload_n hx hb dL_kinds_21 rfl (lv_at hl 5 rfl) ?_
    refine zr_icmp_ne (tgt := 41) (x := d_x x6_1) (y := kind) hx hb (r_d_x x6_1) r_kind dL_kinds_22 (by decide) (fun c16 => ?_) (fun c16 => ?_)
    · have h19 := h15.2 c16
      refine lv_iconst (v := iI 0) hx hb dL_kinds_41 rfl ?_
      refine zr_iadd (x := x5_1) (y := 0) hx hb dL_kinds_42 ?_
      obtain ⟨r20, h21⟩ := h19
      refine lv_istore (lv' := [(5, .int (iI (x5_1 + 0))), (6, .int (iI x6_1)), (0, .ref l_a0), (1, .ref d_a0), (2, .ref t_a0), (3, .int (iI kind)), (4, .int (iI full))]) hx hb dL_kinds_43 hl (by decide) rfl (fun ls hl => ?_)
      obtain ⟨r22, h23⟩ := h21
      refine zr_iinc (x := x6_1) (lv' := [(6, .int (iI (x6_1 + 1))), (5, .int (iI (x5_1 + 0))), (0, .ref l_a0), (1, .ref d_a0), (2, .ref t_a0), (3, .int (iI kind)), (4, .int (iI full))]) hx hb dL_kinds_45 hl (k := 1) rfl (by decide) rfl (fun ls hl => ?_)
      refine lv_goto (tgt := 6) hx hb dL_kinds_48 (by decide) ?_
      obtain ⟨h24, h25⟩ := h23
      exact ih6 ((x5_1 + 0, x6_1 + 1)) _ _ _ ⟨⟨r20, r22⟩, h24⟩ h25 hP hD hS (lv_sub hl [0, 1, 2, 3, 4, 5, 6] rfl)
    · have h26 := h15.1 c16
      refine lv_iload hx hb dL_kinds_25 (lv_at hl 6 rfl) ?_
      refine zr_if_eq (tgt := 37) (x := full) hx hb r_full dL_kinds_27 (by decide) (fun c27 => ?_) (fun c27 => ?_)
      · have h30 := h26.1 c27
        refine lv_iconst (v := iI 1) hx hb dL_kinds_37 rfl ?_
        refine lv_goto (tgt := 42) hx hb dL_kinds_38 (by decide) ?_
        refine zr_iadd (x := x5_1) (y := 1) hx hb dL_kinds_42 ?_
        obtain ⟨r31, h32⟩ := h30
        refine lv_istore (lv' := [(5, .int (iI (x5_1 + 1))), (6, .int (iI x6_1)), (0, .ref l_a0), (1, .ref d_a0), (2, .ref t_a0), (3, .int (iI kind)), (4, .int (iI full))]) hx hb dL_kinds_43 hl (by decide) rfl (fun ls hl => ?_)
        obtain ⟨r33, h34⟩ := h32
        refine zr_iinc (x := x6_1) (lv' := [(6, .int (iI (x6_1 + 1))), (5, .int (iI (x5_1 + 1))), (0, .ref l_a0), (1, .ref d_a0), (2, .ref t_a0), (3, .int (iI kind)), (4, .int (iI full))]) hx hb dL_kinds_45 hl (k := 1) rfl (by decide) rfl (fun ls hl => ?_)
        refine lv_goto (tgt := 6) hx hb dL_kinds_48 (by decide) ?_
        obtain ⟨h35, h36⟩ := h34
        exact ih6 ((x5_1 + 1, x6_1 + 1)) _ _ _ ⟨⟨r31, r33⟩, h35⟩ h36 hP hD hS (lv_sub hl [0, 1, 2, 3, 4, 5, 6] rfl)
      · have h37 := h26.2 c27
        refine lv_aload_n hx hb dL_kinds_30 rfl (lv_at hl 2 rfl) ?_
        refine lv_iload hx hb dL_kinds_31 (lv_at hl 0 rfl) ?_
        refine zr_iald (n := 64) (f := l_x) (i := x6_1) hx hb hK hP 0 rfl rx6_1 b14 dL_kinds_33 ?_
        refine zr_if_le (tgt := 41) (x := l_x x6_1) hx hb (r_l_x x6_1) dL_kinds_34 (by decide) (fun c38 => ?_) (fun c38 => ?_)
        · have h41 := h37.2 c38
          refine lv_iconst (v := iI 0) hx hb dL_kinds_41 rfl ?_
          refine zr_iadd (x := x5_1) (y := 0) hx hb dL_kinds_42 ?_
          obtain ⟨r42, h43⟩ := h41
          refine lv_istore (lv' := [(5, .int (iI (x5_1 + 0))), (6, .int (iI x6_1)), (0, .ref l_a0), (1, .ref d_a0), (2, .ref t_a0), (3, .int (iI kind)), (4, .int (iI full))]) hx hb dL_kinds_43 hl (by decide) rfl (fun ls hl => ?_)
          obtain ⟨r44, h45⟩ := h43
          refine zr_iinc (x := x6_1) (lv' := [(6, .int (iI (x6_1 + 1))), (5, .int (iI (x5_1 + 0))), (0, .ref l_a0), (1, .ref d_a0), (2, .ref t_a0), (3, .int (iI kind)), (4, .int (iI full))]) hx hb dL_kinds_45 hl (k := 1) rfl (by decide) rfl (fun ls hl => ?_)
          refine lv_goto (tgt := 6) hx hb dL_kinds_48 (by decide) ?_
          obtain ⟨h46, h47⟩ := h45
          exact ih6 ((x5_1 + 0, x6_1 + 1)) _ _ _ ⟨⟨r42, r44⟩, h46⟩ h47 hP hD hS (lv_sub hl [0, 1, 2, 3, 4, 5, 6] rfl)
        · have h48 := h37.1 c38
          refine lv_iconst (v := iI 1) hx hb dL_kinds_37 rfl ?_
          refine lv_goto (tgt := 42) hx hb dL_kinds_38 (by decide) ?_
          refine zr_iadd (x := x5_1) (y := 1) hx hb dL_kinds_42 ?_
          obtain ⟨r49, h50⟩ := h48
          refine lv_istore (lv' := [(5, .int (iI (x5_1 + 1))), (6, .int (iI x6_1)), (0, .ref l_a0), (1, .ref d_a0), (2, .ref t_a0), (3, .int (iI kind)), (4, .int (iI full))]) hx hb dL_kinds_43 hl (by decide) rfl (fun ls hl => ?_)
          obtain ⟨r51, h52⟩ := h50
          refine zr_iinc (x := x6_1) (lv' := [(6, .int (iI (x6_1 + 1))), (5, .int (iI (x5_1 + 1))), (0, .ref l_a0), (1, .ref d_a0), (2, .ref t_a0), (3, .int (iI kind)), (4, .int (iI full))]) hx hb dL_kinds_45 hl (k := 1) rfl (by decide) rfl (fun ls hl => ?_)
          refine lv_goto (tgt := 6) hx hb dL_kinds_48 (by decide) ?_
          obtain ⟨h53, h54⟩ := h52
          exact ih6 ((x5_1 + 1, x6_1 + 1)) _ _ _ ⟨⟨r49, r51⟩, h53⟩ h54 hP hD hS (lv_sub hl [0, 1, 2, 3, 4, 5, 6] rfl)
theorem c_L_kinds (l : Launch) (G : ZG) (l_a0 : Nat) (d_a0 : Nat) (t_a0 : Nat) (l_x : Int → Int) (d_x : Int → Int) (t_x : Int → Int) (kind : Int) (full : Int)  (r_l_x : rgA l_x) (r_d_x : rgA d_x) (r_t_x : rgA t_x) (r_kind : rg kind) (r_full : rg full) (p0 : 0 ≤ t_x 10 ∧ t_x 10 ≤ 64) (p1 : full = 1) : ZI l G yL_kinds wsL_kinds 0 0 [.ref l_a0, .ref d_a0, .ref t_a0, .int (iI kind), .int (iI full)] (flt [[(l_a0, eI G 64 l_x)], [(d_a0, eI G 64 d_x)], [(t_a0, eI G 12 t_x)]]) (fun _ : Unit => flt [[(l_a0, eI G 64 l_x)], [(d_a0, eI G 64 d_x)], [(t_a0, eI G 12 t_x)]]) (fun (z : Int) (_ : Unit) => z = (kdZ l_x d_x kind (t_x 10).toNat) ∧ rg z) := by
  refine ZI.fn (w1 := fun u : Unit => flt [[(l_a0, eI G 64 l_x)], [(d_a0, eI G 64 d_x)], [(t_a0, eI G 12 t_x)]]) (fun z u hq => ?_) (c0_L_kinds l G l_a0 d_a0 t_a0 l_x d_x t_x kind full (fun z => z = (kdZ l_x d_x kind (t_x 10).toNat)) r_l_x r_d_x r_t_x r_kind r_full (sp_L_kinds l_x d_x t_x kind full r_l_x r_d_x r_t_x r_kind r_full p0 p1))
  obtain ⟨rz, ez⟩ := hq
  exact ⟨rfl, ⟨ez, rz⟩⟩
theorem hdL_write : yL_write.cls ≠ "java/lang/invoke/MethodHandle" ∧ yL_write.cls ≠ "java/lang/invoke/VarHandle" ∧ (parseMethodDescriptor yL_write.desc).map (fun d => d.parameters.length) = some 7 := by decide +kernel
set_option maxRecDepth 100000 in
set_option maxHeartbeats 4000000 in
theorem c0_L_write (l : Launch) (G : ZG) (f_a0 : Nat) (n_a0 : Nat) (l_a0 : Nat) (d_a0 : Nat) (m_a0 : Nat) (k_a0 : Nat) (t_a0 : Nat) (f_x : Int → Int) (n_x : Int → Int) (l_x : Int → Int) (d_x : Int → Int) (m_x : Int → Int) (k_x : Int → Int) (t_x : Int → Int)  (P : Int → (Int → Int) → (Int → Int) → (Int → Int) → (Int → Int) → (Int → Int) → Prop) (r_f_x : rgA f_x) (r_n_x : rgA n_x) (r_l_x : rgA l_x) (r_d_x : rgA d_x) (r_m_x : rgA m_x) (r_k_x : rgA k_x) (r_t_x : rgA t_x)  (hwp : wp_L_write f_x n_x l_x d_x m_x k_x t_x P) : ZI l G yL_write wsL_write 1 23 [.ref f_a0, .ref n_a0, .ref l_a0, .ref d_a0, .ref m_a0, .ref k_a0, .ref t_a0] (flt [[(f_a0, eI G 60 f_x)], [(n_a0, eI G 64 n_x)], [(l_a0, eI G 64 l_x)], [(d_a0, eI G 64 d_x)], [(m_a0, eI G 20 m_x)], [(k_a0, eI G 60 k_x)], [(t_a0, eI G 12 t_x)]]) (fun u : (Int → Int) × (Int → Int) × (Int → Int) × (Int → Int) × (Int → Int) => flt [[(f_a0, eI G 60 u.1)], [(n_a0, eI G 64 u.2.1)], [(l_a0, eI G 64 u.2.2.1)], [(d_a0, eI G 64 u.2.2.2.1)], [(m_a0, eI G 20 m_x)], [(k_a0, eI G 60 k_x)], [(t_a0, eI G 12 u.2.2.2.2)]]) (fun (z : Int) (u : (Int → Int) × (Int → Int) × (Int → Int) × (Int → Int) × (Int → Int)) => rg z ∧ rgA u.1 ∧ rgA u.2.1 ∧ rgA u.2.2.1 ∧ rgA u.2.2.2.1 ∧ rgA u.2.2.2.2 ∧ P z u.1 u.2.1 u.2.2.1 u.2.2.2.1 u.2.2.2.2) := by
  unfold wp_L_write at hwp
  refine zm_i (cc := cL_write) (maxL := 10) (ret := some .int) (own := RL) (lvs := [(0, .ref f_a0), (1, .ref n_a0), (2, .ref l_a0), (3, .ref d_a0), (4, .ref m_a0), (5, .ref k_a0), (6, .ref t_a0)]) (by decide) rfl rfl (Nat.le_of_ble_eq_true rfl) rfl ?_
  intro p e sT m args below meth c ls A hx hb hr hml hown hts hlocks hK hP hD hS hA hl
  refine lv_aload hx hb dL_write_0 (lv_at hl 6 rfl) ?_
  refine lv_bipush (v := iI 11) hx hb dL_write_2 (by decide) ?_
  refine zr_iald (n := 12) (f := t_x) (i := 11) hx hb hK hP 6 rfl rg_11 ⟨by decide, by decide⟩ dL_write_4 ?_
  refine zr_if_ne (tgt := 11) (x := t_x 11) hx hb (r_t_x 11) dL_write_5 (by decide) (fun c1 => ?_) (fun c1 => ?_)
  · have h4 := hwp.2 c1
    refine lv_aload_n hx hb dL_write_11 rfl (lv_at hl 2 rfl) ?_
    refine lv_aload hx hb dL_write_12 (lv_at hl 6 rfl) ?_
    refine lv_bipush (v := iI 10) hx hb dL_write_14 (by decide) ?_
    refine zr_iald (n := 12) (f := t_x) (i := 10) hx hb hK hP 6 rfl rg_10 ⟨by decide, by decide⟩ dL_write_16 ?_
    obtain ⟨b5, h6⟩ := h4
    obtain ⟨b7, h8⟩ := h6
    refine zs_viR (As := [.ref l_a0, .int (iI (t_x 10))]) (rest := []) (c_L_start l G l_a0 l_x (t_x 10) r_l_x (r_t_x 10) b5 b7) ⟨hx, hb, hml, hown, hts⟩ (va_cwS 2 hts gL_write_L_start rfl rfl rfl hdL_start ⟨Nat.le_of_ble_eq_true rfl, Nat.le_of_ble_eq_true rfl⟩) hK hP hD hS hA [2] rfl rfl rfl hl.1 rfl (Nat.le_of_ble_eq_true rfl) dL_write_17 ⟨Nat.zero_le _, Nat.zero_le _⟩ (fun z10 H locs hw hP hD hS => ?_)
    obtain ⟨rfl, r11⟩ := hw
    have hP : va_P G.1 vwCl (flt [[(f_a0, eI G 60 f_x)], [(n_a0, eI G 64 n_x)], [(l_a0, eI G 64 l_x)], [(d_a0, eI G 64 d_x)], [(m_a0, eI G 20 m_x)], [(k_a0, eI G 60 k_x)], [(t_a0, eI G 12 t_x)]]) H := hP
    have hD : va_D A (flt [[(f_a0, eI G 60 f_x)], [(n_a0, eI G 64 n_x)], [(l_a0, eI G 64 l_x)], [(d_a0, eI G 64 d_x)], [(m_a0, eI G 20 m_x)], [(k_a0, eI G 60 k_x)], [(t_a0, eI G 12 t_x)]]) := hD
    refine lv_istore (lv' := [(7, .int (iI (sumI l_x ((t_x 10)).toNat))), (0, .ref f_a0), (1, .ref n_a0), (2, .ref l_a0), (3, .ref d_a0), (4, .ref m_a0), (5, .ref k_a0), (6, .ref t_a0)]) hx hb dL_write_20 hl (by decide) rfl (fun ls hl => ?_)
    refine lv_iconst (v := iI 0) hx hb dL_write_22 rfl ?_
    refine lv_istore (lv' := [(8, .int (iI 0)), (7, .int (iI (sumI l_x ((t_x 10)).toNat))), (0, .ref f_a0), (1, .ref n_a0), (2, .ref l_a0), (3, .ref d_a0), (4, .ref m_a0), (5, .ref k_a0), (6, .ref t_a0)]) hx hb dL_write_23 hl (by decide) rfl (fun ls hl => ?_)
    obtain ⟨I13, μ14, h15, h16⟩ := h8
    refine zr_loop (G := G) (σ := Int × (Int → Int)) (fun x_12 => (rg x_12.1 ∧ rgA x_12.2) ∧ I13 x_12.1 x_12.2) (fun x_12 => μ14 x_12.1 x_12.2) (fun x_12 => flt [[(f_a0, eI G 60 x_12.2)], [(n_a0, eI G 64 n_x)], [(l_a0, eI G 64 l_x)], [(d_a0, eI G 64 d_x)], [(m_a0, eI G 20 m_x)], [(k_a0, eI G 60 k_x)], [(t_a0, eI G 12 t_x)]]) (fun x_12 => [(8, .int (iI x_12.1)), (7, .int (iI (sumI l_x ((t_x 10)).toNat))), (0, .ref f_a0), (1, .ref n_a0), (2, .ref l_a0), (3, .ref d_a0), (4, .ref m_a0), (5, .ref k_a0), (6, .ref t_a0)]) ((0, f_x)) ⟨⟨rg_0, r_f_x⟩, h15⟩ hP hD hS (lv_sub hl [0, 1, 2, 3, 4, 5, 6, 7, 8] rfl) ?_
    clear hP hD hS hl
    intro x_12 H locs ls ih17 h18 hP hD hS hl
    obtain ⟨x8_12, x0_12⟩ := x_12
    obtain ⟨⟨rx8_12, rx0_12⟩, h18⟩ := h18
    have h19 := h16 x8_12 x0_12 rx8_12 rx0_12 h18
    have hP : va_P G.1 vwCl (flt [[(f_a0, eI G 60 x0_12)], [(n_a0, eI G 64 n_x)], [(l_a0, eI G 64 l_x)], [(d_a0, eI G 64 d_x)], [(m_a0, eI G 20 m_x)], [(k_a0, eI G 60 k_x)], [(t_a0, eI G 12 t_x)]]) H := hP
    have hD : va_D A (flt [[(f_a0, eI G 60 x0_12)], [(n_a0, eI G 64 n_x)], [(l_a0, eI G 64 l_x)], [(d_a0, eI G 64 d_x)], [(m_a0, eI G 20 m_x)], [(k_a0, eI G 60 k_x)], [(t_a0, eI G 12 t_x)]]) := hD
    have hl : lv_has ls 10 [(8, .int (iI x8_12)), (7, .int (iI (sumI l_x ((t_x 10)).toNat))), (0, .ref f_a0), (1, .ref n_a0), (2, .ref l_a0), (3, .ref d_a0), (4, .ref m_a0), (5, .ref k_a0), (6, .ref t_a0)] := hl
    refine lv_iload hx hb dL_write_25 (lv_at hl 0 rfl) ?_
    refine lv_aload hx hb dL_write_27 (lv_at hl 8 rfl) ?_
    refine lv_bipush (v := iI 11) hx hb dL_write_29 (by decide) ?_
    refine zr_iald (n := 12) (f := t_x) (i := 11) hx hb hK hP 6 rfl rg_11 ⟨by decide, by decide⟩ dL_write_31 ?_
    refine zr_icmp_ge (tgt := 99) (x := x8_12) (y := t_x 11) hx hb rx8_12 (r_t_x 11) dL_write_32 (by decide) (fun c20 => ?_) (fun c20 => ?_)
    · have h23 := h19.2 c20
      refine lv_aload_n hx hb dL_write_99 rfl (lv_at hl 3 rfl) ?_
      refine lv_aload hx hb dL_write_100 (lv_at hl 8 rfl) ?_
      refine lv_bipush (v := iI 10) hx hb dL_write_102 (by decide) ?_
      refine zr_iald (n := 12) (f := t_x) (i := 10) hx hb hK hP 6 rfl rg_10 ⟨by decide, by decide⟩ dL_write_104 ?_
      refine lv_aload hx hb dL_write_105 (lv_at hl 8 rfl) ?_
      refine lv_iconst (v := iI 4) hx hb dL_write_107 rfl ?_
      refine zr_iald (n := 12) (f := t_x) (i := 4) hx hb hK hP 6 rfl rg_4 ⟨by decide, by decide⟩ dL_write_108 ?_
      obtain ⟨b24, h25⟩ := h23
      refine zr_iast (n := 64) (f := n_x) (i := t_x 10) (x := t_x 4) hx hb hK hP hD hS 1 rfl (r_t_x 10) b24 dL_write_109 (fun H locs hP hD hS => ?_)
      have hP : va_P G.1 vwCl (flt [[(f_a0, eI G 60 x0_12)], [(n_a0, eI G 64 (uZ n_x (t_x 10) (t_x 4)))], [(l_a0, eI G 64 l_x)], [(d_a0, eI G 64 d_x)], [(m_a0, eI G 20 m_x)], [(k_a0, eI G 60 k_x)], [(t_a0, eI G 12 t_x)]]) H := hP
      have hD : va_D A (flt [[(f_a0, eI G 60 x0_12)], [(n_a0, eI G 64 (uZ n_x (t_x 10) (t_x 4)))], [(l_a0, eI G 64 l_x)], [(d_a0, eI G 64 d_x)], [(m_a0, eI G 20 m_x)], [(k_a0, eI G 60 k_x)], [(t_a0, eI G 12 t_x)]]) := hD
      refine lv_aload_n hx hb dL_write_110 rfl (lv_at hl 4 rfl) ?_
      refine lv_aload hx hb dL_write_111 (lv_at hl 8 rfl) ?_
      refine lv_bipush (v := iI 10) hx hb dL_write_113 (by decide) ?_
      refine zr_iald (n := 12) (f := t_x) (i := 10) hx hb hK hP 6 rfl rg_10 ⟨by decide, by decide⟩ dL_write_115 ?_
      refine lv_aload hx hb dL_write_116 (lv_at hl 8 rfl) ?_
      refine lv_bipush (v := iI 11) hx hb dL_write_118 (by decide) ?_
      refine zr_iald (n := 12) (f := t_x) (i := 11) hx hb hK hP 6 rfl rg_11 ⟨by decide, by decide⟩ dL_write_120 ?_
      refine zr_iast (n := 64) (f := l_x) (i := t_x 10) (x := t_x 11) hx hb hK hP hD hS 2 rfl (r_t_x 10) b24 dL_write_121 (fun H locs hP hD hS => ?_)
      have hP : va_P G.1 vwCl (flt [[(f_a0, eI G 60 x0_12)], [(n_a0, eI G 64 (uZ n_x (t_x 10) (t_x 4)))], [(l_a0, eI G 64 (uZ l_x (t_x 10) (t_x 11)))], [(d_a0, eI G 64 d_x)], [(m_a0, eI G 20 m_x)], [(k_a0, eI G 60 k_x)], [(t_a0, eI G 12 t_x)]]) H := hP
      have hD : va_D A (flt [[(f_a0, eI G 60 x0_12)], [(n_a0, eI G 64 (uZ n_x (t_x 10) (t_x 4)))], [(l_a0, eI G 64 (uZ l_x (t_x 10) (t_x 11)))], [(d_a0, eI G 64 d_x)], [(m_a0, eI G 20 m_x)], [(k_a0, eI G 60 k_x)], [(t_a0, eI G 12 t_x)]]) := hD
      refine lv_aload_n hx hb dL_write_122 rfl (lv_at hl 5 rfl) ?_
      refine lv_aload hx hb dL_write_123 (lv_at hl 8 rfl) ?_
      refine lv_bipush (v := iI 10) hx hb dL_write_125 (by decide) ?_
      refine zr_iald (n := 12) (f := t_x) (i := 10) hx hb hK hP 6 rfl rg_10 ⟨by decide, by decide⟩ dL_write_127 ?_
      refine lv_iconst (v := iI 0) hx hb dL_write_128 rfl ?_
      refine zr_iast (n := 64) (f := d_x) (i := t_x 10) (x := 0) hx hb hK hP hD hS 3 rfl (r_t_x 10) b24 dL_write_129 (fun H locs hP hD hS => ?_)
      have hP : va_P G.1 vwCl (flt [[(f_a0, eI G 60 x0_12)], [(n_a0, eI G 64 (uZ n_x (t_x 10) (t_x 4)))], [(l_a0, eI G 64 (uZ l_x (t_x 10) (t_x 11)))], [(d_a0, eI G 64 (uZ d_x (t_x 10) 0))], [(m_a0, eI G 20 m_x)], [(k_a0, eI G 60 k_x)], [(t_a0, eI G 12 t_x)]]) H := hP
      have hD : va_D A (flt [[(f_a0, eI G 60 x0_12)], [(n_a0, eI G 64 (uZ n_x (t_x 10) (t_x 4)))], [(l_a0, eI G 64 (uZ l_x (t_x 10) (t_x 11)))], [(d_a0, eI G 64 (uZ d_x (t_x 10) 0))], [(m_a0, eI G 20 m_x)], [(k_a0, eI G 60 k_x)], [(t_a0, eI G 12 t_x)]]) := hD
      refine lv_aload hx hb dL_write_130 (lv_at hl 8 rfl) ?_
      refine lv_bipush (v := iI 10) hx hb dL_write_132 (by decide) ?_
      refine lv_dup2_11 hx hb dL_write_134 rfl rfl ?_
      refine zr_iald (n := 12) (f := t_x) (i := 10) hx hb hK hP 6 rfl rg_10 ⟨by decide, by decide⟩ dL_write_135 ?_
      refine lv_iconst (v := iI 1) hx hb dL_write_136 rfl ?_
      refine zr_iadd (x := t_x 10) (y := 1) hx hb dL_write_137 ?_
      obtain ⟨r26, h27⟩ := h25
      refine zr_iast (n := 12) (f := t_x) (i := 10) (x := (t_x 10) + 1) hx hb hK hP hD hS 6 rfl rg_10 ⟨by decide, by decide⟩ dL_write_138 (fun H locs hP hD hS => ?_)
      have hP : va_P G.1 vwCl (flt [[(f_a0, eI G 60 x0_12)], [(n_a0, eI G 64 (uZ n_x (t_x 10) (t_x 4)))], [(l_a0, eI G 64 (uZ l_x (t_x 10) (t_x 11)))], [(d_a0, eI G 64 (uZ d_x (t_x 10) 0))], [(m_a0, eI G 20 m_x)], [(k_a0, eI G 60 k_x)], [(t_a0, eI G 12 (uZ t_x 10 ((t_x 10) + 1)))]]) H := hP
      have hD : va_D A (flt [[(f_a0, eI G 60 x0_12)], [(n_a0, eI G 64 (uZ n_x (t_x 10) (t_x 4)))], [(l_a0, eI G 64 (uZ l_x (t_x 10) (t_x 11)))], [(d_a0, eI G 64 (uZ d_x (t_x 10) 0))], [(m_a0, eI G 20 m_x)], [(k_a0, eI G 60 k_x)], [(t_a0, eI G 12 (uZ t_x 10 ((t_x 10) + 1)))]]) := hD
      refine lv_aload hx hb dL_write_139 (lv_at hl 8 rfl) ?_
      refine lv_iconst (v := iI 4) hx hb dL_write_141 rfl ?_
      refine lv_dup2_11 hx hb dL_write_142 rfl rfl ?_
      refine zr_iald (n := 12) (f := uZ t_x 10 ((t_x 10) + 1)) (i := 4) hx hb hK hP 6 rfl rg_4 ⟨by decide, by decide⟩ dL_write_143 ?_
      refine W.eq (g2 := F0 m 144 ls (.int (iI (t_x 4)) :: [.int (iI 4), .ref t_a0])) rfl ?_
      refine lv_iconst (v := iI 1) hx hb dL_write_144 rfl ?_
      refine zr_iadd (x := t_x 4) (y := 1) hx hb dL_write_145 ?_
      obtain ⟨r28, h29⟩ := h27
      refine zr_iast (n := 12) (f := uZ t_x 10 ((t_x 10) + 1)) (i := 4) (x := (t_x 4) + 1) hx hb hK hP hD hS 6 rfl rg_4 ⟨by decide, by decide⟩ dL_write_146 (fun H locs hP hD hS => ?_)
      have hP : va_P G.1 vwCl (flt [[(f_a0, eI G 60 x0_12)], [(n_a0, eI G 64 (uZ n_x (t_x 10) (t_x 4)))], [(l_a0, eI G 64 (uZ l_x (t_x 10) (t_x 11)))], [(d_a0, eI G 64 (uZ d_x (t_x 10) 0))], [(m_a0, eI G 20 m_x)], [(k_a0, eI G 60 k_x)], [(t_a0, eI G 12 (uZ (uZ t_x 10 ((t_x 10) + 1)) 4 ((t_x 4) + 1)))]]) H := hP
      have hD : va_D A (flt [[(f_a0, eI G 60 x0_12)], [(n_a0, eI G 64 (uZ n_x (t_x 10) (t_x 4)))], [(l_a0, eI G 64 (uZ l_x (t_x 10) (t_x 11)))], [(d_a0, eI G 64 (uZ d_x (t_x 10) 0))], [(m_a0, eI G 20 m_x)], [(k_a0, eI G 60 k_x)], [(t_a0, eI G 12 (uZ (uZ t_x 10 ((t_x 10) + 1)) 4 ((t_x 4) + 1)))]]) := hD
      refine lv_aload hx hb dL_write_147 (lv_at hl 8 rfl) ?_
      refine lv_bipush (v := iI 7) hx hb dL_write_149 (by decide) ?_
      refine lv_dup2_11 hx hb dL_write_151 rfl rfl ?_
      refine zr_iald (n := 12) (f := uZ (uZ t_x 10 ((t_x 10) + 1)) 4 ((t_x 4) + 1)) (i := 7) hx hb hK hP 6 rfl rg_7 ⟨by decide, by decide⟩ dL_write_152 ?_
      refine W.eq (g2 := F0 m 153 ls (.int (iI (t_x 7)) :: [.int (iI 7), .ref t_a0])) rfl ?_
      refine lv_aload hx hb dL_write_153 (lv_at hl 8 rfl) ?_
      refine lv_bipush (v := iI 11) hx hb dL_write_155 (by decide) ?_
      refine zr_iald (n := 12) (f := uZ (uZ t_x 10 ((t_x 10) + 1)) 4 ((t_x 4) + 1)) (i := 11) hx hb hK hP 6 rfl rg_11 ⟨by decide, by decide⟩ dL_write_157 ?_
      refine W.eq (g2 := F0 m 158 ls (.int (iI (t_x 11)) :: [.int (iI (t_x 7)), .int (iI 7), .ref t_a0])) rfl ?_
      refine zr_iadd (x := t_x 7) (y := t_x 11) hx hb dL_write_158 ?_
      obtain ⟨r30, h31⟩ := h29
      refine zr_iast (n := 12) (f := uZ (uZ t_x 10 ((t_x 10) + 1)) 4 ((t_x 4) + 1)) (i := 7) (x := (t_x 7) + (t_x 11)) hx hb hK hP hD hS 6 rfl rg_7 ⟨by decide, by decide⟩ dL_write_159 (fun H locs hP hD hS => ?_)
      have hP : va_P G.1 vwCl (flt [[(f_a0, eI G 60 x0_12)], [(n_a0, eI G 64 (uZ n_x (t_x 10) (t_x 4)))], [(l_a0, eI G 64 (uZ l_x (t_x 10) (t_x 11)))], [(d_a0, eI G 64 (uZ d_x (t_x 10) 0))], [(m_a0, eI G 20 m_x)], [(k_a0, eI G 60 k_x)], [(t_a0, eI G 12 (uZ (uZ (uZ t_x 10 ((t_x 10) + 1)) 4 ((t_x 4) + 1)) 7 ((t_x 7) + (t_x 11))))]]) H := hP
      have hD : va_D A (flt [[(f_a0, eI G 60 x0_12)], [(n_a0, eI G 64 (uZ n_x (t_x 10) (t_x 4)))], [(l_a0, eI G 64 (uZ l_x (t_x 10) (t_x 11)))], [(d_a0, eI G 64 (uZ d_x (t_x 10) 0))], [(m_a0, eI G 20 m_x)], [(k_a0, eI G 60 k_x)], [(t_a0, eI G 12 (uZ (uZ (uZ t_x 10 ((t_x 10) + 1)) 4 ((t_x 4) + 1)) 7 ((t_x 7) + (t_x 11))))]]) := hD
      refine lv_aload hx hb dL_write_160 (lv_at hl 8 rfl) ?_
      refine lv_bipush (v := iI 11) hx hb dL_write_162 (by decide) ?_
      refine lv_iconst (v := iI 0) hx hb dL_write_164 rfl ?_
      refine zr_iast (n := 12) (f := uZ (uZ (uZ t_x 10 ((t_x 10) + 1)) 4 ((t_x 4) + 1)) 7 ((t_x 7) + (t_x 11))) (i := 11) (x := 0) hx hb hK hP hD hS 6 rfl rg_11 ⟨by decide, by decide⟩ dL_write_165 (fun H locs hP hD hS => ?_)
      have hP : va_P G.1 vwCl (flt [[(f_a0, eI G 60 x0_12)], [(n_a0, eI G 64 (uZ n_x (t_x 10) (t_x 4)))], [(l_a0, eI G 64 (uZ l_x (t_x 10) (t_x 11)))], [(d_a0, eI G 64 (uZ d_x (t_x 10) 0))], [(m_a0, eI G 20 m_x)], [(k_a0, eI G 60 k_x)], [(t_a0, eI G 12 (uZ (uZ (uZ (uZ t_x 10 ((t_x 10) + 1)) 4 ((t_x 4) + 1)) 7 ((t_x 7) + (t_x 11))) 11 0))]]) H := hP
      have hD : va_D A (flt [[(f_a0, eI G 60 x0_12)], [(n_a0, eI G 64 (uZ n_x (t_x 10) (t_x 4)))], [(l_a0, eI G 64 (uZ l_x (t_x 10) (t_x 11)))], [(d_a0, eI G 64 (uZ d_x (t_x 10) 0))], [(m_a0, eI G 20 m_x)], [(k_a0, eI G 60 k_x)], [(t_a0, eI G 12 (uZ (uZ (uZ (uZ t_x 10 ((t_x 10) + 1)) 4 ((t_x 4) + 1)) 7 ((t_x 7) + (t_x 11))) 11 0))]]) := hD
      refine lv_aload hx hb dL_write_166 (lv_at hl 8 rfl) ?_
      refine lv_iconst (v := iI 4) hx hb dL_write_168 rfl ?_
      refine zr_iald (n := 12) (f := uZ (uZ (uZ (uZ t_x 10 ((t_x 10) + 1)) 4 ((t_x 4) + 1)) 7 ((t_x 7) + (t_x 11))) 11 0) (i := 4) hx hb hK hP 6 rfl rg_4 ⟨by decide, by decide⟩ dL_write_169 ?_
      refine W.eq (g2 := F0 m 170 ls (.int (iI ((t_x 4) + 1)) :: [])) rfl ?_
      refine lv_iconst (v := iI 1) hx hb dL_write_170 rfl ?_
      refine zr_isub (x := (t_x 4) + 1) (y := 1) hx hb dL_write_171 ?_
      obtain ⟨r32, h33⟩ := h31
      exact zr_iret (z := ((t_x 4) + 1) - 1) hx hb hr hlocks hK ((x0_12, uZ n_x (t_x 10) (t_x 4), uZ l_x (t_x 10) (t_x 11), uZ d_x (t_x 10) 0, uZ (uZ (uZ (uZ t_x 10 ((t_x 10) + 1)) 4 ((t_x 4) + 1)) 7 ((t_x 7) + (t_x 11))) 11 0)) hP hD hS dL_write_172 ⟨r32, rx0_12, (rgA_u (i := t_x 10) r_n_x (r_t_x 4)), (rgA_u (i := t_x 10) r_l_x (r_t_x 11)), (rgA_u (i := t_x 10) r_d_x rg_0), (rgA_u (i := 11) (rgA_u (i := 7) (rgA_u (i := 4) (rgA_u (i := 10) r_t_x r26) r28) r30) rg_0), h33⟩
    · have h34 := h19.1 c20
      refine lv_iload hx hb dL_write_35 (lv_at hl 1 rfl) ?_
      refine lv_iload hx hb dL_write_37 (lv_at hl 0 rfl) ?_
      refine zr_iadd (x := sumI l_x ((t_x 10)).toNat) (y := x8_12) hx hb dL_write_39 ?_
      obtain ⟨r35, h36⟩ := h34
      refine lv_istore (lv' := [(9, .int (iI ((sumI l_x ((t_x 10)).toNat) + x8_12))), (8, .int (iI x8_12)), (7, .int (iI (sumI l_x ((t_x 10)).toNat))), (0, .ref f_a0), (1, .ref n_a0), (2, .ref l_a0), (3, .ref d_a0), (4, .ref m_a0), (5, .ref k_a0), (6, .ref t_a0)]) hx hb dL_write_40 hl (by decide) rfl (fun ls hl => ?_)
      obtain ⟨I38, μ39, h40, h41⟩ := h36
      refine zr_loop (G := G) (σ := Int × (Int → Int)) (fun x_37 => (rg x_37.1 ∧ rgA x_37.2) ∧ I38 x_37.1 x_37.2) (fun x_37 => μ39 x_37.1 x_37.2) (fun x_37 => flt [[(f_a0, eI G 60 x_37.2)], [(n_a0, eI G 64 n_x)], [(l_a0, eI G 64 l_x)], [(d_a0, eI G 64 d_x)], [(m_a0, eI G 20 m_x)], [(k_a0, eI G 60 k_x)], [(t_a0, eI G 12 t_x)]]) (fun x_37 => [(9, .int (iI x_37.1)), (8, .int (iI x8_12)), (7, .int (iI (sumI l_x ((t_x 10)).toNat))), (0, .ref f_a0), (1, .ref n_a0), (2, .ref l_a0), (3, .ref d_a0), (4, .ref m_a0), (5, .ref k_a0), (6, .ref t_a0)]) (((sumI l_x ((t_x 10)).toNat) + x8_12, x0_12)) ⟨⟨r35, rx0_12⟩, h40⟩ hP hD hS (lv_sub hl [0, 1, 2, 3, 4, 5, 6, 7, 8, 9] rfl) ?_
      clear hP hD hS hl
      intro x_37 H locs ls ih42 h43 hP hD hS hl
      obtain ⟨x9_37, x0_37⟩ := x_37
      obtain ⟨⟨rx9_37, rx0_37⟩, h43⟩ := h43
      have h44 := h41 x9_37 x0_37 rx9_37 rx0_37 h43
      have hP : va_P G.1 vwCl (flt [[(f_a0, eI G 60 x0_37)], [(n_a0, eI G 64 n_x)], [(l_a0, eI G 64 l_x)], [(d_a0, eI G 64 d_x)], [(m_a0, eI G 20 m_x)], [(k_a0, eI G 60 k_x)], [(t_a0, eI G 12 t_x)]]) H := hP
      have hD : va_D A (flt [[(f_a0, eI G 60 x0_37)], [(n_a0, eI G 64 n_x)], [(l_a0, eI G 64 l_x)], [(d_a0, eI G 64 d_x)], [(m_a0, eI G 20 m_x)], [(k_a0, eI G 60 k_x)], [(t_a0, eI G 12 t_x)]]) := hD
      have hl : lv_has ls 10 [(9, .int (iI x9_37)), (8, .int (iI x8_12)), (7, .int (iI (sumI l_x ((t_x 10)).toNat))), (0, .ref f_a0), (1, .ref n_a0), (2, .ref l_a0), (3, .ref d_a0), (4, .ref m_a0), (5, .ref k_a0), (6, .ref t_a0)] := hl
      refine lv_iload hx hb dL_write_42 (lv_at hl 0 rfl) ?_
      refine lv_iload hx hb dL_write_44 (lv_at hl 2 rfl) ?_
      refine zr_icmp_le (tgt := 84) (x := x9_37) (y := sumI l_x ((t_x 10)).toNat) hx hb rx9_37 r11 dL_write_46 (by decide) (fun c45 => ?_) (fun c45 => ?_)
      · have h48 := h44.2 c45
        refine lv_aload_n hx hb dL_write_84 rfl (lv_at hl 3 rfl) ?_
        refine lv_iload hx hb dL_write_85 (lv_at hl 0 rfl) ?_
        refine lv_aload hx hb dL_write_87 (lv_at hl 7 rfl) ?_
        refine lv_iload hx hb dL_write_89 (lv_at hl 1 rfl) ?_
        obtain ⟨b49, h50⟩ := h48
        refine zr_iald (n := 20) (f := m_x) (i := x8_12) hx hb hK hP 4 rfl rx8_12 b49 dL_write_91 ?_
        obtain ⟨b51, h52⟩ := h50
        refine zr_iast (n := 60) (f := x0_37) (i := x9_37) (x := m_x x8_12) hx hb hK hP hD hS 0 rfl rx9_37 b51 dL_write_92 (fun H locs hP hD hS => ?_)
        have hP : va_P G.1 vwCl (flt [[(f_a0, eI G 60 (uZ x0_37 x9_37 (m_x x8_12)))], [(n_a0, eI G 64 n_x)], [(l_a0, eI G 64 l_x)], [(d_a0, eI G 64 d_x)], [(m_a0, eI G 20 m_x)], [(k_a0, eI G 60 k_x)], [(t_a0, eI G 12 t_x)]]) H := hP
        have hD : va_D A (flt [[(f_a0, eI G 60 (uZ x0_37 x9_37 (m_x x8_12)))], [(n_a0, eI G 64 n_x)], [(l_a0, eI G 64 l_x)], [(d_a0, eI G 64 d_x)], [(m_a0, eI G 20 m_x)], [(k_a0, eI G 60 k_x)], [(t_a0, eI G 12 t_x)]]) := hD
        obtain ⟨r53, h54⟩ := h52
        refine zr_iinc (x := x8_12) (lv' := [(8, .int (iI (x8_12 + 1))), (9, .int (iI x9_37)), (7, .int (iI (sumI l_x ((t_x 10)).toNat))), (0, .ref f_a0), (1, .ref n_a0), (2, .ref l_a0), (3, .ref d_a0), (4, .ref m_a0), (5, .ref k_a0), (6, .ref t_a0)]) hx hb dL_write_93 hl (k := 1) rfl (by decide) rfl (fun ls hl => ?_)
        refine lv_goto (tgt := 25) hx hb dL_write_96 (by decide) ?_
        obtain ⟨h55, h56⟩ := h54
        exact ih17 ((x8_12 + 1, uZ x0_37 x9_37 (m_x x8_12))) _ _ _ ⟨⟨r53, (rgA_u (i := x9_37) rx0_37 (r_m_x x8_12))⟩, h55⟩ h56 hP hD hS (lv_sub hl [0, 2, 3, 4, 5, 6, 7, 8, 9] rfl)
      · have h57 := h44.1 c45
        refine lv_aload hx hb dL_write_49 (lv_at hl 8 rfl) ?_
        refine lv_aload hx hb dL_write_51 (lv_at hl 7 rfl) ?_
        refine lv_iload hx hb dL_write_53 (lv_at hl 1 rfl) ?_
        obtain ⟨b58, h59⟩ := h57
        refine zr_iald (n := 20) (f := m_x) (i := x8_12) hx hb hK hP 4 rfl rx8_12 b58 dL_write_55 ?_
        refine lv_aload_n hx hb dL_write_56 rfl (lv_at hl 3 rfl) ?_
        refine lv_iload hx hb dL_write_57 (lv_at hl 0 rfl) ?_
        refine lv_iconst (v := iI 1) hx hb dL_write_59 rfl ?_
        refine zr_isub (x := x9_37) (y := 1) hx hb dL_write_60 ?_
        obtain ⟨r60, h61⟩ := h59
        obtain ⟨b62, h63⟩ := h61
        refine zr_iald (n := 60) (f := x0_37) (i := x9_37 - 1) hx hb hK hP 0 rfl r60 b62 dL_write_61 ?_
        obtain ⟨b64, h65⟩ := h63
        obtain ⟨b66, h67⟩ := h65
        refine zs_viR (As := [.ref k_a0, .int (iI (m_x x8_12)), .int (iI (x0_37 (x9_37 - 1)))]) (rest := []) (c_L_comes l G k_a0 k_x (m_x x8_12) (x0_37 (x9_37 - 1)) r_k_x (r_m_x x8_12) (rx0_37 (x9_37 - 1)) b64 b66) ⟨hx, hb, hml, hown, hts⟩ (va_cwS 3 hts gL_write_L_comes rfl rfl rfl hdL_comes ⟨Nat.le_of_ble_eq_true rfl, Nat.le_of_ble_eq_true rfl⟩) hK hP hD hS hA [5] rfl rfl rfl hl.1 rfl (Nat.le_of_ble_eq_true rfl) dL_write_62 ⟨Nat.zero_le _, Nat.zero_le _⟩ (fun z69 H locs hw hP hD hS => ?_)
        obtain ⟨rfl, r70⟩ := hw
        have hP : va_P G.1 vwCl (flt [[(f_a0, eI G 60 x0_37)], [(n_a0, eI G 64 n_x)], [(l_a0, eI G 64 l_x)], [(d_a0, eI G 64 d_x)], [(m_a0, eI G 20 m_x)], [(k_a0, eI G 60 k_x)], [(t_a0, eI G 12 t_x)]]) H := hP
        have hD : va_D A (flt [[(f_a0, eI G 60 x0_37)], [(n_a0, eI G 64 n_x)], [(l_a0, eI G 64 l_x)], [(d_a0, eI G 64 d_x)], [(m_a0, eI G 20 m_x)], [(k_a0, eI G 60 k_x)], [(t_a0, eI G 12 t_x)]]) := hD
        refine zr_ifB_eq (tgt := 84)  hx hb dL_write_65 (by decide) (fun c71 => ?_) (fun c71 => ?_)
        · have h74 := h67.2 c71
          refine lv_aload_n hx hb dL_write_84 rfl (lv_at hl 3 rfl) ?_
          refine lv_iload hx hb dL_write_85 (lv_at hl 0 rfl) ?_
          refine lv_aload hx hb dL_write_87 (lv_at hl 7 rfl) ?_
          refine lv_iload hx hb dL_write_89 (lv_at hl 1 rfl) ?_
          refine zr_iald (n := 20) (f := m_x) (i := x8_12) hx hb hK hP 4 rfl rx8_12 b58 dL_write_91 ?_
          obtain ⟨b75, h76⟩ := h74
          refine zr_iast (n := 60) (f := x0_37) (i := x9_37) (x := m_x x8_12) hx hb hK hP hD hS 0 rfl rx9_37 b75 dL_write_92 (fun H locs hP hD hS => ?_)
          have hP : va_P G.1 vwCl (flt [[(f_a0, eI G 60 (uZ x0_37 x9_37 (m_x x8_12)))], [(n_a0, eI G 64 n_x)], [(l_a0, eI G 64 l_x)], [(d_a0, eI G 64 d_x)], [(m_a0, eI G 20 m_x)], [(k_a0, eI G 60 k_x)], [(t_a0, eI G 12 t_x)]]) H := hP
          have hD : va_D A (flt [[(f_a0, eI G 60 (uZ x0_37 x9_37 (m_x x8_12)))], [(n_a0, eI G 64 n_x)], [(l_a0, eI G 64 l_x)], [(d_a0, eI G 64 d_x)], [(m_a0, eI G 20 m_x)], [(k_a0, eI G 60 k_x)], [(t_a0, eI G 12 t_x)]]) := hD
          obtain ⟨r77, h78⟩ := h76
          refine zr_iinc (x := x8_12) (lv' := [(8, .int (iI (x8_12 + 1))), (9, .int (iI x9_37)), (7, .int (iI (sumI l_x ((t_x 10)).toNat))), (0, .ref f_a0), (1, .ref n_a0), (2, .ref l_a0), (3, .ref d_a0), (4, .ref m_a0), (5, .ref k_a0), (6, .ref t_a0)]) hx hb dL_write_93 hl (k := 1) rfl (by decide) rfl (fun ls hl => ?_)
          refine lv_goto (tgt := 25) hx hb dL_write_96 (by decide) ?_
          obtain ⟨h79, h80⟩ := h78
          exact ih17 ((x8_12 + 1, uZ x0_37 x9_37 (m_x x8_12))) _ _ _ ⟨⟨r77, (rgA_u (i := x9_37) rx0_37 (r_m_x x8_12))⟩, h79⟩ h80 hP hD hS (lv_sub hl [0, 2, 3, 4, 5, 6, 7, 8, 9] rfl)
        · have h81 := h67.1 c71
          refine lv_aload_n hx hb dL_write_68 rfl (lv_at hl 3 rfl) ?_
          refine lv_iload hx hb dL_write_69 (lv_at hl 0 rfl) ?_
          refine lv_aload_n hx hb dL_write_71 rfl (lv_at hl 3 rfl) ?_
          refine lv_iload hx hb dL_write_72 (lv_at hl 0 rfl) ?_
          refine lv_iconst (v := iI 1) hx hb dL_write_74 rfl ?_
          refine zr_isub (x := x9_37) (y := 1) hx hb dL_write_75 ?_
          refine zr_iald (n := 60) (f := x0_37) (i := x9_37 - 1) hx hb hK hP 0 rfl r60 b62 dL_write_76 ?_
          obtain ⟨b82, h83⟩ := h81
          refine zr_iast (n := 60) (f := x0_37) (i := x9_37) (x := x0_37 (x9_37 - 1)) hx hb hK hP hD hS 0 rfl rx9_37 b82 dL_write_77 (fun H locs hP hD hS => ?_)
          have hP : va_P G.1 vwCl (flt [[(f_a0, eI G 60 (uZ x0_37 x9_37 (x0_37 (x9_37 - 1))))], [(n_a0, eI G 64 n_x)], [(l_a0, eI G 64 l_x)], [(d_a0, eI G 64 d_x)], [(m_a0, eI G 20 m_x)], [(k_a0, eI G 60 k_x)], [(t_a0, eI G 12 t_x)]]) H := hP
          have hD : va_D A (flt [[(f_a0, eI G 60 (uZ x0_37 x9_37 (x0_37 (x9_37 - 1))))], [(n_a0, eI G 64 n_x)], [(l_a0, eI G 64 l_x)], [(d_a0, eI G 64 d_x)], [(m_a0, eI G 20 m_x)], [(k_a0, eI G 60 k_x)], [(t_a0, eI G 12 t_x)]]) := hD
          obtain ⟨r84, h85⟩ := h83
          refine zr_iinc (x := x9_37) (lv' := [(9, .int (iI (x9_37 + (-1)))), (8, .int (iI x8_12)), (7, .int (iI (sumI l_x ((t_x 10)).toNat))), (0, .ref f_a0), (1, .ref n_a0), (2, .ref l_a0), (3, .ref d_a0), (4, .ref m_a0), (5, .ref k_a0), (6, .ref t_a0)]) hx hb dL_write_78 hl (k := 0) rfl (by decide) rfl (fun ls hl => ?_)
          refine lv_goto (tgt := 42) hx hb dL_write_81 (by decide) ?_
          obtain ⟨h86, h87⟩ := h85
          exact ih42 ((x9_37 + (-1), uZ x0_37 x9_37 (x0_37 (x9_37 - 1)))) _ _ _ ⟨⟨r84, (rgA_u (i := x9_37) rx0_37 (rx0_37 (x9_37 - 1)))⟩, h86⟩ h87 hP hD hS (lv_sub hl [0, 1, 2, 3, 4, 5, 6, 7, 8, 9] rfl)
  · have h88 := hwp.1 c1
    refine lv_bipush (v := iI (-6)) hx hb dL_write_8 (by decide) ?_
    exact zr_iret (z := (-6)) hx hb hr hlocks hK ((f_x, n_x, l_x, d_x, t_x)) hP hD hS dL_write_10 ⟨rg_m6, r_f_x, r_n_x, r_l_x, r_d_x, r_t_x, h88⟩
theorem c_L_write (l : Launch) (G : ZG) (f_a0 : Nat) (n_a0 : Nat) (l_a0 : Nat) (d_a0 : Nat) (m_a0 : Nat) (k_a0 : Nat) (t_a0 : Nat) (f_x : Int → Int) (n_x : Int → Int) (l_x : Int → Int) (d_x : Int → Int) (m_x : Int → Int) (k_x : Int → Int) (t_x : Int → Int)  (z : Int → Int) (r_f_x : rgA f_x) (r_n_x : rgA n_x) (r_l_x : rgA l_x) (r_d_x : rgA d_x) (r_m_x : rgA m_x) (r_k_x : rgA k_x) (r_t_x : rgA t_x)  (p0 : LV f_x n_x l_x d_x m_x k_x t_x z) (p1 : Vb z) (p2 : z 5 = 0 ∧ z 4 + 1 ≤ 900000000 ∧ 0 ≤ z 7 ∧ z 7 + 120 ≤ 2000000000) : ZI l G yL_write wsL_write 1 23 [.ref f_a0, .ref n_a0, .ref l_a0, .ref d_a0, .ref m_a0, .ref k_a0, .ref t_a0] (flt [[(f_a0, eI G 60 f_x)], [(n_a0, eI G 64 n_x)], [(l_a0, eI G 64 l_x)], [(d_a0, eI G 64 d_x)], [(m_a0, eI G 20 m_x)], [(k_a0, eI G 60 k_x)], [(t_a0, eI G 12 t_x)]]) (fun u : (Int → Int) × (Int → Int) × (Int → Int) × (Int → Int) × (Int → Int) => flt [[(f_a0, eI G 60 u.1)], [(n_a0, eI G 64 u.2.1)], [(l_a0, eI G 64 u.2.2.1)], [(d_a0, eI G 64 u.2.2.2.1)], [(m_a0, eI G 20 m_x)], [(k_a0, eI G 60 k_x)], [(t_a0, eI G 12 u.2.2.2.2)]]) (fun (zq : Int) (u : (Int → Int) × (Int → Int) × (Int → Int) × (Int → Int) × (Int → Int)) => rg zq ∧ rgA u.1 ∧ rgA u.2.1 ∧ rgA u.2.2.1 ∧ rgA u.2.2.2.1 ∧ rgA u.2.2.2.2 ∧ (zq = (if rowsAt z 1 = 0 then -6 else z 4) ∧ LV u.1 u.2.1 u.2.2.1 u.2.2.2.1 m_x k_x u.2.2.2.2 (wriZ z))) :=
  c0_L_write l G f_a0 n_a0 l_a0 d_a0 m_a0 k_a0 t_a0 f_x n_x l_x d_x m_x k_x t_x (fun r f_x' n_x' l_x' d_x' t_x' => r = (if rowsAt z 1 = 0 then -6 else z 4) ∧ LV f_x' n_x' l_x' d_x' m_x k_x t_x' (wriZ z)) r_f_x r_n_x r_l_x r_d_x r_m_x r_k_x r_t_x  (sp_L_write f_x n_x l_x d_x m_x k_x t_x z r_f_x r_n_x r_l_x r_d_x r_m_x r_k_x r_t_x  p0 p1 p2)
theorem hdL_add : yL_add.cls ≠ "java/lang/invoke/MethodHandle" ∧ yL_add.cls ≠ "java/lang/invoke/VarHandle" ∧ (parseMethodDescriptor yL_add.desc).map (fun d => d.parameters.length) = some 9 := by decide +kernel
set_option maxRecDepth 100000 in
set_option maxHeartbeats 4000000 in
theorem c0_L_add (l : Launch) (G : ZG) (f_a0 : Nat) (n_a0 : Nat) (l_a0 : Nat) (d_a0 : Nat) (m_a0 : Nat) (k_a0 : Nat) (c_a0 : Nat) (t_a0 : Nat) (f_x : Int → Int) (n_x : Int → Int) (l_x : Int → Int) (d_x : Int → Int) (m_x : Int → Int) (k_x : Int → Int) (c_x : Int → Int) (t_x : Int → Int) (key : Int) (P : (Int → Int) → (Int → Int) → (Int → Int) → (Int → Int) → (Int → Int) → (Int → Int) → (Int → Int) → (Int → Int) → Prop) (r_f_x : rgA f_x) (r_n_x : rgA n_x) (r_l_x : rgA l_x) (r_d_x : rgA d_x) (r_m_x : rgA m_x) (r_k_x : rgA k_x) (r_c_x : rgA c_x) (r_t_x : rgA t_x) (r_key : rg key) (hwp : wp_L_add f_x n_x l_x d_x m_x k_x c_x t_x key P) : ZV l G yL_add wsL_add 2 52 [.ref f_a0, .ref n_a0, .ref l_a0, .ref d_a0, .ref m_a0, .ref k_a0, .ref c_a0, .ref t_a0, .int (iI key)] (flt [[(f_a0, eI G 60 f_x)], [(n_a0, eI G 64 n_x)], [(l_a0, eI G 64 l_x)], [(d_a0, eI G 64 d_x)], [(m_a0, eI G 20 m_x)], [(k_a0, eI G 60 k_x)], [(c_a0, eI G 60 c_x)], [(t_a0, eI G 12 t_x)]]) (fun u : (Int → Int) × (Int → Int) × (Int → Int) × (Int → Int) × (Int → Int) × (Int → Int) × (Int → Int) × (Int → Int) => flt [[(f_a0, eI G 60 u.1)], [(n_a0, eI G 64 u.2.1)], [(l_a0, eI G 64 u.2.2.1)], [(d_a0, eI G 64 u.2.2.2.1)], [(m_a0, eI G 20 u.2.2.2.2.1)], [(k_a0, eI G 60 u.2.2.2.2.2.1)], [(c_a0, eI G 60 u.2.2.2.2.2.2.1)], [(t_a0, eI G 12 u.2.2.2.2.2.2.2)]]) (fun (u : (Int → Int) × (Int → Int) × (Int → Int) × (Int → Int) × (Int → Int) × (Int → Int) × (Int → Int) × (Int → Int)) => rgA u.1 ∧ rgA u.2.1 ∧ rgA u.2.2.1 ∧ rgA u.2.2.2.1 ∧ rgA u.2.2.2.2.1 ∧ rgA u.2.2.2.2.2.1 ∧ rgA u.2.2.2.2.2.2.1 ∧ rgA u.2.2.2.2.2.2.2 ∧ P u.1 u.2.1 u.2.2.1 u.2.2.2.1 u.2.2.2.2.1 u.2.2.2.2.2.1 u.2.2.2.2.2.2.1 u.2.2.2.2.2.2.2) := by
  unfold wp_L_add at hwp
  refine zm_v (cc := cL_add) (maxL := 11) (ret := none) (own := RL) (lvs := [(0, .ref f_a0), (1, .ref n_a0), (2, .ref l_a0), (3, .ref d_a0), (4, .ref m_a0), (5, .ref k_a0), (6, .ref c_a0), (7, .ref t_a0), (8, .int (iI key))]) (by decide) rfl rfl (Nat.le_of_ble_eq_true rfl) rfl ?_
  intro p e sT m args below meth c ls A hx hb hr hml hown hts hlocks hK hP hD hS hA hl
  refine lv_aload hx hb dL_add_0 (lv_at hl 7 rfl) ?_
  refine lv_iconst (v := iI 3) hx hb dL_add_2 rfl ?_
  refine zr_iald (n := 12) (f := t_x) (i := 3) hx hb hK hP 7 rfl rg_3 ⟨by decide, by decide⟩ dL_add_3 ?_
  refine lv_istore (lv' := [(9, .int (iI (t_x 3))), (0, .ref f_a0), (1, .ref n_a0), (2, .ref l_a0), (3, .ref d_a0), (4, .ref m_a0), (5, .ref k_a0), (6, .ref c_a0), (7, .ref t_a0), (8, .int (iI key))]) hx hb dL_add_4 hl (by decide) rfl (fun ls hl => ?_)
  refine lv_aload hx hb dL_add_6 (lv_at hl 8 rfl) ?_
  refine lv_iconst (v := iI 3) hx hb dL_add_8 rfl ?_
  refine lv_dup2_11 hx hb dL_add_9 rfl rfl ?_
  refine zr_iald (n := 12) (f := t_x) (i := 3) hx hb hK hP 7 rfl rg_3 ⟨by decide, by decide⟩ dL_add_10 ?_
  refine lv_iconst (v := iI 1) hx hb dL_add_11 rfl ?_
  refine zr_iadd (x := t_x 3) (y := 1) hx hb dL_add_12 ?_
  obtain ⟨r1, h2⟩ := hwp
  refine zr_iast (n := 12) (f := t_x) (i := 3) (x := (t_x 3) + 1) hx hb hK hP hD hS 7 rfl rg_3 ⟨by decide, by decide⟩ dL_add_13 (fun H locs hP hD hS => ?_)
  have hP : va_P G.1 vwCl (flt [[(f_a0, eI G 60 f_x)], [(n_a0, eI G 64 n_x)], [(l_a0, eI G 64 l_x)], [(d_a0, eI G 64 d_x)], [(m_a0, eI G 20 m_x)], [(k_a0, eI G 60 k_x)], [(c_a0, eI G 60 c_x)], [(t_a0, eI G 12 (uZ t_x 3 ((t_x 3) + 1)))]]) H := hP
  have hD : va_D A (flt [[(f_a0, eI G 60 f_x)], [(n_a0, eI G 64 n_x)], [(l_a0, eI G 64 l_x)], [(d_a0, eI G 64 d_x)], [(m_a0, eI G 20 m_x)], [(k_a0, eI G 60 k_x)], [(c_a0, eI G 60 c_x)], [(t_a0, eI G 12 (uZ t_x 3 ((t_x 3) + 1)))]]) := hD
  refine lv_aload hx hb dL_add_14 (lv_at hl 6 rfl) ?_
  refine lv_iload hx hb dL_add_16 (lv_at hl 0 rfl) ?_
  refine lv_iload hx hb dL_add_18 (lv_at hl 9 rfl) ?_
  obtain ⟨b3, h4⟩ := h2
  refine zr_iast (n := 60) (f := k_x) (i := t_x 3) (x := key) hx hb hK hP hD hS 5 rfl (r_t_x 3) b3 dL_add_20 (fun H locs hP hD hS => ?_)
  have hP : va_P G.1 vwCl (flt [[(f_a0, eI G 60 f_x)], [(n_a0, eI G 64 n_x)], [(l_a0, eI G 64 l_x)], [(d_a0, eI G 64 d_x)], [(m_a0, eI G 20 m_x)], [(k_a0, eI G 60 (uZ k_x (t_x 3) key))], [(c_a0, eI G 60 c_x)], [(t_a0, eI G 12 (uZ t_x 3 ((t_x 3) + 1)))]]) H := hP
  have hD : va_D A (flt [[(f_a0, eI G 60 f_x)], [(n_a0, eI G 64 n_x)], [(l_a0, eI G 64 l_x)], [(d_a0, eI G 64 d_x)], [(m_a0, eI G 20 m_x)], [(k_a0, eI G 60 (uZ k_x (t_x 3) key))], [(c_a0, eI G 60 c_x)], [(t_a0, eI G 12 (uZ t_x 3 ((t_x 3) + 1)))]]) := hD
  refine lv_iconst (v := iI 0) hx hb dL_add_21 rfl ?_
  refine lv_istore (lv' := [(10, .int (iI 0)), (9, .int (iI (t_x 3))), (0, .ref f_a0), (1, .ref n_a0), (2, .ref l_a0), (3, .ref d_a0), (4, .ref m_a0), (5, .ref k_a0), (6, .ref c_a0), (7, .ref t_a0), (8, .int (iI key))]) hx hb dL_add_22 hl (by decide) rfl (fun ls hl => ?_)
  obtain ⟨I6, μ7, h8, h9⟩ := h4
  refine zr_loop (G := G) (σ := Int) (fun x_5 => (rg x_5) ∧ I6 x_5) (fun x_5 => μ7 x_5) (fun x_5 => flt [[(f_a0, eI G 60 f_x)], [(n_a0, eI G 64 n_x)], [(l_a0, eI G 64 l_x)], [(d_a0, eI G 64 d_x)], [(m_a0, eI G 20 m_x)], [(k_a0, eI G 60 (uZ k_x (t_x 3) key))], [(c_a0, eI G 60 c_x)], [(t_a0, eI G 12 (uZ t_x 3 ((t_x 3) + 1)))]]) (fun x_5 => [(10, .int (iI x_5)), (9, .int (iI (t_x 3))), (0, .ref f_a0), (1, .ref n_a0), (2, .ref l_a0), (3, .ref d_a0), (4, .ref m_a0), (5, .ref k_a0), (6, .ref c_a0), (7, .ref t_a0), (8, .int (iI key))]) (0) ⟨rg_0, h8⟩ hP hD hS (lv_sub hl [0, 1, 2, 3, 4, 5, 6, 7, 8, 9, 10] rfl) ?_
  clear hP hD hS hl
  intro x_5 H locs ls ih10 h11 hP hD hS hl
  obtain ⟨x10_5, rfl⟩ : ∃ z, z = x_5 := ⟨_, rfl⟩
  obtain ⟨rx10_5, h11⟩ := h11
  have h12 := h9 x10_5 rx10_5 h11
  have hP : va_P G.1 vwCl (flt [[(f_a0, eI G 60 f_x)], [(n_a0, eI G 64 n_x)], [(l_a0, eI G 64 l_x)], [(d_a0, eI G 64 d_x)], [(m_a0, eI G 20 m_x)], [(k_a0, eI G 60 (uZ k_x (t_x 3) key))], [(c_a0, eI G 60 c_x)], [(t_a0, eI G 12 (uZ t_x 3 ((t_x 3) + 1)))]]) H := hP
  have hD : va_D A (flt [[(f_a0, eI G 60 f_x)], [(n_a0, eI G 64 n_x)], [(l_a0, eI G 64 l_x)], [(d_a0, eI G 64 d_x)], [(m_a0, eI G 20 m_x)], [(k_a0, eI G 60 (uZ k_x (t_x 3) key))], [(c_a0, eI G 60 c_x)], [(t_a0, eI G 12 (uZ t_x 3 ((t_x 3) + 1)))]]) := hD
  have hl : lv_has ls 11 [(10, .int (iI x10_5)), (9, .int (iI (t_x 3))), (0, .ref f_a0), (1, .ref n_a0), (2, .ref l_a0), (3, .ref d_a0), (4, .ref m_a0), (5, .ref k_a0), (6, .ref c_a0), (7, .ref t_a0), (8, .int (iI key))] := hl
  refine lv_iload hx hb dL_add_24 (lv_at hl 0 rfl) ?_
  refine lv_aload hx hb dL_add_26 (lv_at hl 9 rfl) ?_
  refine lv_bipush (v := iI 11) hx hb dL_add_28 (by decide) ?_
  refine zr_iald (n := 12) (f := uZ t_x 3 ((t_x 3) + 1)) (i := 11) hx hb hK hP 7 rfl rg_11 ⟨by decide, by decide⟩ dL_add_30 ?_
  refine W.eq (g2 := F0 m 31 ls (.int (iI (t_x 11)) :: [.int (iI x10_5)])) rfl ?_
  refine zr_icmp_ge (tgt := 80) (x := x10_5) (y := t_x 11) hx hb rx10_5 (r_t_x 11) dL_add_31 (by decide) (fun c13 => ?_) (fun c13 => ?_)
  · have h16 := h12.2 c13
    refine lv_aload hx hb dL_add_80 (lv_at hl 9 rfl) ?_
    refine lv_bipush (v := iI 11) hx hb dL_add_82 (by decide) ?_
    refine zr_iald (n := 12) (f := uZ t_x 3 ((t_x 3) + 1)) (i := 11) hx hb hK hP 7 rfl rg_11 ⟨by decide, by decide⟩ dL_add_84 ?_
    refine W.eq (g2 := F0 m 85 ls (.int (iI (t_x 11)) :: [])) rfl ?_
    refine lv_aload hx hb dL_add_85 (lv_at hl 9 rfl) ?_
    refine lv_iconst (v := iI 0) hx hb dL_add_87 rfl ?_
    refine zr_iald (n := 12) (f := uZ t_x 3 ((t_x 3) + 1)) (i := 0) hx hb hK hP 7 rfl rg_0 ⟨by decide, by decide⟩ dL_add_88 ?_
    refine W.eq (g2 := F0 m 89 ls (.int (iI (t_x 0)) :: [.int (iI (t_x 11))])) rfl ?_
    refine zr_icmp_ne (tgt := 106) (x := t_x 11) (y := t_x 0) hx hb (r_t_x 11) (r_t_x 0) dL_add_89 (by decide) (fun c17 => ?_) (fun c17 => ?_)
    · have h20 := h16.2 c17
      refine lv_aload hx hb dL_add_106 (lv_at hl 8 rfl) ?_
      refine lv_iload hx hb dL_add_108 (lv_at hl 1 rfl) ?_
      refine lv_iconst (v := iI 1) hx hb dL_add_110 rfl ?_
      refine zr_iast (n := 60) (f := c_x) (i := t_x 3) (x := 1) hx hb hK hP hD hS 6 rfl (r_t_x 3) b3 dL_add_111 (fun H locs hP hD hS => ?_)
      have hP : va_P G.1 vwCl (flt [[(f_a0, eI G 60 f_x)], [(n_a0, eI G 64 n_x)], [(l_a0, eI G 64 l_x)], [(d_a0, eI G 64 d_x)], [(m_a0, eI G 20 m_x)], [(k_a0, eI G 60 (uZ k_x (t_x 3) key))], [(c_a0, eI G 60 (uZ c_x (t_x 3) 1))], [(t_a0, eI G 12 (uZ t_x 3 ((t_x 3) + 1)))]]) H := hP
      have hD : va_D A (flt [[(f_a0, eI G 60 f_x)], [(n_a0, eI G 64 n_x)], [(l_a0, eI G 64 l_x)], [(d_a0, eI G 64 d_x)], [(m_a0, eI G 20 m_x)], [(k_a0, eI G 60 (uZ k_x (t_x 3) key))], [(c_a0, eI G 60 (uZ c_x (t_x 3) 1))], [(t_a0, eI G 12 (uZ t_x 3 ((t_x 3) + 1)))]]) := hD
      refine lv_aload hx hb dL_add_112 (lv_at hl 6 rfl) ?_
      refine lv_aload hx hb dL_add_114 (lv_at hl 9 rfl) ?_
      refine lv_bipush (v := iI 11) hx hb dL_add_116 (by decide) ?_
      refine zr_iald (n := 12) (f := uZ t_x 3 ((t_x 3) + 1)) (i := 11) hx hb hK hP 7 rfl rg_11 ⟨by decide, by decide⟩ dL_add_118 ?_
      refine W.eq (g2 := F0 m 119 ls (.int (iI (t_x 11)) :: [.ref m_a0])) rfl ?_
      refine lv_iload hx hb dL_add_119 (lv_at hl 1 rfl) ?_
      obtain ⟨b21, h22⟩ := h20
      refine zr_iast (n := 20) (f := m_x) (i := t_x 11) (x := t_x 3) hx hb hK hP hD hS 4 rfl (r_t_x 11) b21 dL_add_121 (fun H locs hP hD hS => ?_)
      have hP : va_P G.1 vwCl (flt [[(f_a0, eI G 60 f_x)], [(n_a0, eI G 64 n_x)], [(l_a0, eI G 64 l_x)], [(d_a0, eI G 64 d_x)], [(m_a0, eI G 20 (uZ m_x (t_x 11) (t_x 3)))], [(k_a0, eI G 60 (uZ k_x (t_x 3) key))], [(c_a0, eI G 60 (uZ c_x (t_x 3) 1))], [(t_a0, eI G 12 (uZ t_x 3 ((t_x 3) + 1)))]]) H := hP
      have hD : va_D A (flt [[(f_a0, eI G 60 f_x)], [(n_a0, eI G 64 n_x)], [(l_a0, eI G 64 l_x)], [(d_a0, eI G 64 d_x)], [(m_a0, eI G 20 (uZ m_x (t_x 11) (t_x 3)))], [(k_a0, eI G 60 (uZ k_x (t_x 3) key))], [(c_a0, eI G 60 (uZ c_x (t_x 3) 1))], [(t_a0, eI G 12 (uZ t_x 3 ((t_x 3) + 1)))]]) := hD
      refine lv_aload hx hb dL_add_122 (lv_at hl 9 rfl) ?_
      refine lv_bipush (v := iI 11) hx hb dL_add_124 (by decide) ?_
      refine lv_dup2_11 hx hb dL_add_126 rfl rfl ?_
      refine zr_iald (n := 12) (f := uZ t_x 3 ((t_x 3) + 1)) (i := 11) hx hb hK hP 7 rfl rg_11 ⟨by decide, by decide⟩ dL_add_127 ?_
      refine W.eq (g2 := F0 m 128 ls (.int (iI (t_x 11)) :: [.int (iI 11), .ref t_a0])) rfl ?_
      refine lv_iconst (v := iI 1) hx hb dL_add_128 rfl ?_
      refine zr_iadd (x := t_x 11) (y := 1) hx hb dL_add_129 ?_
      obtain ⟨r23, h24⟩ := h22
      refine zr_iast (n := 12) (f := uZ t_x 3 ((t_x 3) + 1)) (i := 11) (x := (t_x 11) + 1) hx hb hK hP hD hS 7 rfl rg_11 ⟨by decide, by decide⟩ dL_add_130 (fun H locs hP hD hS => ?_)
      have hP : va_P G.1 vwCl (flt [[(f_a0, eI G 60 f_x)], [(n_a0, eI G 64 n_x)], [(l_a0, eI G 64 l_x)], [(d_a0, eI G 64 d_x)], [(m_a0, eI G 20 (uZ m_x (t_x 11) (t_x 3)))], [(k_a0, eI G 60 (uZ k_x (t_x 3) key))], [(c_a0, eI G 60 (uZ c_x (t_x 3) 1))], [(t_a0, eI G 12 (uZ (uZ t_x 3 ((t_x 3) + 1)) 11 ((t_x 11) + 1)))]]) H := hP
      have hD : va_D A (flt [[(f_a0, eI G 60 f_x)], [(n_a0, eI G 64 n_x)], [(l_a0, eI G 64 l_x)], [(d_a0, eI G 64 d_x)], [(m_a0, eI G 20 (uZ m_x (t_x 11) (t_x 3)))], [(k_a0, eI G 60 (uZ k_x (t_x 3) key))], [(c_a0, eI G 60 (uZ c_x (t_x 3) 1))], [(t_a0, eI G 12 (uZ (uZ t_x 3 ((t_x 3) + 1)) 11 ((t_x 11) + 1)))]]) := hD
      exact zr_vret hx hb hr hlocks hK ((f_x, n_x, l_x, d_x, uZ m_x (t_x 11) (t_x 3), uZ k_x (t_x 3) key, uZ c_x (t_x 3) 1, uZ (uZ t_x 3 ((t_x 3) + 1)) 11 ((t_x 11) + 1))) hP hD hS dL_add_131 ⟨r_f_x, r_n_x, r_l_x, r_d_x, (rgA_u (i := t_x 11) r_m_x (r_t_x 3)), (rgA_u (i := t_x 3) r_k_x r_key), (rgA_u (i := t_x 3) r_c_x rg_1), (rgA_u (i := 11) (rgA_u (i := 3) r_t_x r1) r23), h24⟩
    · have h25 := h16.1 c17
      refine lv_aload_n hx hb dL_add_92 rfl (lv_at hl 2 rfl) ?_
      refine lv_aload_n hx hb dL_add_93 rfl (lv_at hl 3 rfl) ?_
      refine lv_aload_n hx hb dL_add_94 rfl (lv_at hl 4 rfl) ?_
      refine lv_aload_n hx hb dL_add_95 rfl (lv_at hl 5 rfl) ?_
      refine lv_aload hx hb dL_add_96 (lv_at hl 6 rfl) ?_
      refine lv_aload hx hb dL_add_98 (lv_at hl 7 rfl) ?_
      refine lv_aload hx hb dL_add_100 (lv_at hl 9 rfl) ?_
      obtain ⟨g26, h27⟩ := h25
      obtain ⟨b28, h29⟩ := h27
      obtain ⟨b30, h31⟩ := h29
      obtain ⟨b32, h33⟩ := h31
      refine zs_vi (As := [.ref f_a0, .ref n_a0, .ref l_a0, .ref d_a0, .ref m_a0, .ref k_a0, .ref t_a0]) (rest := []) (L := [[(f_a0, eI G 60 f_x)], [(n_a0, eI G 64 n_x)], [(l_a0, eI G 64 l_x)], [(d_a0, eI G 64 d_x)], [(m_a0, eI G 20 m_x)], [(k_a0, eI G 60 (uZ k_x (t_x 3) key))], [(c_a0, eI G 60 c_x)], [(t_a0, eI G 12 (uZ t_x 3 ((t_x 3) + 1)))]]) (LC := [[(f_a0, eI G 60 f_x)], [(n_a0, eI G 64 n_x)], [(l_a0, eI G 64 l_x)], [(d_a0, eI G 64 d_x)], [(m_a0, eI G 20 m_x)], [(k_a0, eI G 60 (uZ k_x (t_x 3) key))], [(t_a0, eI G 12 (uZ t_x 3 ((t_x 3) + 1)))]]) (LR := [[(c_a0, eI G 60 c_x)]]) (LC1 := fun (u_39 : (Int → Int) × (Int → Int) × (Int → Int) × (Int → Int) × (Int → Int)) => [[(f_a0, eI G 60 u_39.1)], [(n_a0, eI G 64 u_39.2.1)], [(l_a0, eI G 64 u_39.2.2.1)], [(d_a0, eI G 64 u_39.2.2.2.1)], [(m_a0, eI G 20 m_x)], [(k_a0, eI G 60 (uZ k_x (t_x 3) key))], [(t_a0, eI G 12 u_39.2.2.2.2)]]) (L2 := fun (u_39 : (Int → Int) × (Int → Int) × (Int → Int) × (Int → Int) × (Int → Int)) => [[(f_a0, eI G 60 u_39.1)], [(n_a0, eI G 64 u_39.2.1)], [(l_a0, eI G 64 u_39.2.2.1)], [(d_a0, eI G 64 u_39.2.2.2.1)], [(m_a0, eI G 20 m_x)], [(k_a0, eI G 60 (uZ k_x (t_x 3) key))], [(c_a0, eI G 60 c_x)], [(t_a0, eI G 12 u_39.2.2.2.2)]]) (c_L_write l G f_a0 n_a0 l_a0 d_a0 m_a0 k_a0 t_a0 f_x n_x l_x d_x m_x (uZ k_x (t_x 3) key) (uZ t_x 3 ((t_x 3) + 1)) g26 r_f_x r_n_x r_l_x r_d_x r_m_x (rgA_u (i := t_x 3) r_k_x r_key) (rgA_u (i := 3) r_t_x r1) b28 b30 b32) ⟨hx, hb, hml, hown, hts⟩ (va_cwS 7 hts gL_add_L_write rfl rfl rfl hdL_write ⟨Nat.le_of_ble_eq_true rfl, Nat.le_of_ble_eq_true rfl⟩) hK hP hD hS hA [0, 1, 2, 3, 4, 5, 7] [6] [0, 1, 2, 3, 4, 5, 7, 6] rfl rfl 8 rfl (by decide) (fun _ => rfl) (fun _ => rfl) (by decide) rfl hl.1 rfl (Nat.le_of_ble_eq_true rfl) dL_add_102 ⟨Nat.zero_le _, Nat.zero_le _⟩ (fun z40 u_39 H locs hw hP hD hS => ?_)
      obtain ⟨u_f_x34, u_n_x35, u_l_x36, u_d_x37, u_t_x38⟩ := u_39
      obtain ⟨r42, ru_f_x34, ru_n_x35, ru_l_x36, ru_d_x37, ru_t_x38, h41⟩ := hw
      have h43 := h33 z40 u_f_x34 u_n_x35 u_l_x36 u_d_x37 u_t_x38 r42 ru_f_x34 ru_n_x35 ru_l_x36 ru_d_x37 ru_t_x38 h41
      have hP : va_P G.1 vwCl (flt [[(f_a0, eI G 60 u_f_x34)], [(n_a0, eI G 64 u_n_x35)], [(l_a0, eI G 64 u_l_x36)], [(d_a0, eI G 64 u_d_x37)], [(m_a0, eI G 20 m_x)], [(k_a0, eI G 60 (uZ k_x (t_x 3) key))], [(c_a0, eI G 60 c_x)], [(t_a0, eI G 12 u_t_x38)]]) H := hP
      have hD : va_D A (flt [[(f_a0, eI G 60 u_f_x34)], [(n_a0, eI G 64 u_n_x35)], [(l_a0, eI G 64 u_l_x36)], [(d_a0, eI G 64 u_d_x37)], [(m_a0, eI G 20 m_x)], [(k_a0, eI G 60 (uZ k_x (t_x 3) key))], [(c_a0, eI G 60 c_x)], [(t_a0, eI G 12 u_t_x38)]]) := hD
      refine lv_pop hx hb dL_add_105 rfl ?_
      refine lv_aload hx hb dL_add_106 (lv_at hl 8 rfl) ?_
      refine lv_iload hx hb dL_add_108 (lv_at hl 1 rfl) ?_
      refine lv_iconst (v := iI 1) hx hb dL_add_110 rfl ?_
      refine zr_iast (n := 60) (f := c_x) (i := t_x 3) (x := 1) hx hb hK hP hD hS 6 rfl (r_t_x 3) b3 dL_add_111 (fun H locs hP hD hS => ?_)
      have hP : va_P G.1 vwCl (flt [[(f_a0, eI G 60 u_f_x34)], [(n_a0, eI G 64 u_n_x35)], [(l_a0, eI G 64 u_l_x36)], [(d_a0, eI G 64 u_d_x37)], [(m_a0, eI G 20 m_x)], [(k_a0, eI G 60 (uZ k_x (t_x 3) key))], [(c_a0, eI G 60 (uZ c_x (t_x 3) 1))], [(t_a0, eI G 12 u_t_x38)]]) H := hP
      have hD : va_D A (flt [[(f_a0, eI G 60 u_f_x34)], [(n_a0, eI G 64 u_n_x35)], [(l_a0, eI G 64 u_l_x36)], [(d_a0, eI G 64 u_d_x37)], [(m_a0, eI G 20 m_x)], [(k_a0, eI G 60 (uZ k_x (t_x 3) key))], [(c_a0, eI G 60 (uZ c_x (t_x 3) 1))], [(t_a0, eI G 12 u_t_x38)]]) := hD
      refine lv_aload hx hb dL_add_112 (lv_at hl 6 rfl) ?_
      refine lv_aload hx hb dL_add_114 (lv_at hl 9 rfl) ?_
      refine lv_bipush (v := iI 11) hx hb dL_add_116 (by decide) ?_
      refine zr_iald (n := 12) (f := u_t_x38) (i := 11) hx hb hK hP 7 rfl rg_11 ⟨by decide, by decide⟩ dL_add_118 ?_
      refine lv_iload hx hb dL_add_119 (lv_at hl 1 rfl) ?_
      obtain ⟨b44, h45⟩ := h43
      refine zr_iast (n := 20) (f := m_x) (i := u_t_x38 11) (x := t_x 3) hx hb hK hP hD hS 4 rfl (ru_t_x38 11) b44 dL_add_121 (fun H locs hP hD hS => ?_)
      have hP : va_P G.1 vwCl (flt [[(f_a0, eI G 60 u_f_x34)], [(n_a0, eI G 64 u_n_x35)], [(l_a0, eI G 64 u_l_x36)], [(d_a0, eI G 64 u_d_x37)], [(m_a0, eI G 20 (uZ m_x (u_t_x38 11) (t_x 3)))], [(k_a0, eI G 60 (uZ k_x (t_x 3) key))], [(c_a0, eI G 60 (uZ c_x (t_x 3) 1))], [(t_a0, eI G 12 u_t_x38)]]) H := hP
      have hD : va_D A (flt [[(f_a0, eI G 60 u_f_x34)], [(n_a0, eI G 64 u_n_x35)], [(l_a0, eI G 64 u_l_x36)], [(d_a0, eI G 64 u_d_x37)], [(m_a0, eI G 20 (uZ m_x (u_t_x38 11) (t_x 3)))], [(k_a0, eI G 60 (uZ k_x (t_x 3) key))], [(c_a0, eI G 60 (uZ c_x (t_x 3) 1))], [(t_a0, eI G 12 u_t_x38)]]) := hD
      refine lv_aload hx hb dL_add_122 (lv_at hl 9 rfl) ?_
      refine lv_bipush (v := iI 11) hx hb dL_add_124 (by decide) ?_
      refine lv_dup2_11 hx hb dL_add_126 rfl rfl ?_
      refine zr_iald (n := 12) (f := u_t_x38) (i := 11) hx hb hK hP 7 rfl rg_11 ⟨by decide, by decide⟩ dL_add_127 ?_
      refine lv_iconst (v := iI 1) hx hb dL_add_128 rfl ?_
      refine zr_iadd (x := u_t_x38 11) (y := 1) hx hb dL_add_129 ?_
      obtain ⟨r46, h47⟩ := h45
      refine zr_iast (n := 12) (f := u_t_x38) (i := 11) (x := (u_t_x38 11) + 1) hx hb hK hP hD hS 7 rfl rg_11 ⟨by decide, by decide⟩ dL_add_130 (fun H locs hP hD hS => ?_)
      have hP : va_P G.1 vwCl (flt [[(f_a0, eI G 60 u_f_x34)], [(n_a0, eI G 64 u_n_x35)], [(l_a0, eI G 64 u_l_x36)], [(d_a0, eI G 64 u_d_x37)], [(m_a0, eI G 20 (uZ m_x (u_t_x38 11) (t_x 3)))], [(k_a0, eI G 60 (uZ k_x (t_x 3) key))], [(c_a0, eI G 60 (uZ c_x (t_x 3) 1))], [(t_a0, eI G 12 (uZ u_t_x38 11 ((u_t_x38 11) + 1)))]]) H := hP
      have hD : va_D A (flt [[(f_a0, eI G 60 u_f_x34)], [(n_a0, eI G 64 u_n_x35)], [(l_a0, eI G 64 u_l_x36)], [(d_a0, eI G 64 u_d_x37)], [(m_a0, eI G 20 (uZ m_x (u_t_x38 11) (t_x 3)))], [(k_a0, eI G 60 (uZ k_x (t_x 3) key))], [(c_a0, eI G 60 (uZ c_x (t_x 3) 1))], [(t_a0, eI G 12 (uZ u_t_x38 11 ((u_t_x38 11) + 1)))]]) := hD
      exact zr_vret hx hb hr hlocks hK ((u_f_x34, u_n_x35, u_l_x36, u_d_x37, uZ m_x (u_t_x38 11) (t_x 3), uZ k_x (t_x 3) key, uZ c_x (t_x 3) 1, uZ u_t_x38 11 ((u_t_x38 11) + 1))) hP hD hS dL_add_131 ⟨ru_f_x34, ru_n_x35, ru_l_x36, ru_d_x37, (rgA_u (i := u_t_x38 11) r_m_x (r_t_x 3)), (rgA_u (i := t_x 3) r_k_x r_key), (rgA_u (i := t_x 3) r_c_x rg_1), (rgA_u (i := 11) ru_t_x38 r46), h47⟩
  · have h48 := h12.1 c13
    refine lv_aload hx hb dL_add_34 (lv_at hl 9 rfl) ?_
    refine lv_iconst (v := iI 1) hx hb dL_add_36 rfl ?_
    refine zr_iald (n := 12) (f := uZ t_x 3 ((t_x 3) + 1)) (i := 1) hx hb hK hP 7 rfl rg_1 ⟨by decide, by decide⟩ dL_add_37 ?_
    refine W.eq (g2 := F0 m 38 ls (.int (iI (t_x 1)) :: [])) rfl ?_
    refine lv_iconst (v := iI 1) hx hb dL_add_38 rfl ?_
    refine zr_icmp_ne (tgt := 80) (x := t_x 1) (y := 1) hx hb (r_t_x 1) rg_1 dL_add_39 (by decide) (fun c49 => ?_) (fun c49 => ?_)
    · have h52 := h48.2 c49
      refine lv_aload hx hb dL_add_80 (lv_at hl 9 rfl) ?_
      refine lv_bipush (v := iI 11) hx hb dL_add_82 (by decide) ?_
      refine zr_iald (n := 12) (f := uZ t_x 3 ((t_x 3) + 1)) (i := 11) hx hb hK hP 7 rfl rg_11 ⟨by decide, by decide⟩ dL_add_84 ?_
      refine W.eq (g2 := F0 m 85 ls (.int (iI (t_x 11)) :: [])) rfl ?_
      refine lv_aload hx hb dL_add_85 (lv_at hl 9 rfl) ?_
      refine lv_iconst (v := iI 0) hx hb dL_add_87 rfl ?_
      refine zr_iald (n := 12) (f := uZ t_x 3 ((t_x 3) + 1)) (i := 0) hx hb hK hP 7 rfl rg_0 ⟨by decide, by decide⟩ dL_add_88 ?_
      refine W.eq (g2 := F0 m 89 ls (.int (iI (t_x 0)) :: [.int (iI (t_x 11))])) rfl ?_
      refine zr_icmp_ne (tgt := 106) (x := t_x 11) (y := t_x 0) hx hb (r_t_x 11) (r_t_x 0) dL_add_89 (by decide) (fun c53 => ?_) (fun c53 => ?_)
      · have h56 := h52.2 c53
        refine lv_aload hx hb dL_add_106 (lv_at hl 8 rfl) ?_
        refine lv_iload hx hb dL_add_108 (lv_at hl 1 rfl) ?_
        refine lv_iconst (v := iI 1) hx hb dL_add_110 rfl ?_
        refine zr_iast (n := 60) (f := c_x) (i := t_x 3) (x := 1) hx hb hK hP hD hS 6 rfl (r_t_x 3) b3 dL_add_111 (fun H locs hP hD hS => ?_)
        have hP : va_P G.1 vwCl (flt [[(f_a0, eI G 60 f_x)], [(n_a0, eI G 64 n_x)], [(l_a0, eI G 64 l_x)], [(d_a0, eI G 64 d_x)], [(m_a0, eI G 20 m_x)], [(k_a0, eI G 60 (uZ k_x (t_x 3) key))], [(c_a0, eI G 60 (uZ c_x (t_x 3) 1))], [(t_a0, eI G 12 (uZ t_x 3 ((t_x 3) + 1)))]]) H := hP
        have hD : va_D A (flt [[(f_a0, eI G 60 f_x)], [(n_a0, eI G 64 n_x)], [(l_a0, eI G 64 l_x)], [(d_a0, eI G 64 d_x)], [(m_a0, eI G 20 m_x)], [(k_a0, eI G 60 (uZ k_x (t_x 3) key))], [(c_a0, eI G 60 (uZ c_x (t_x 3) 1))], [(t_a0, eI G 12 (uZ t_x 3 ((t_x 3) + 1)))]]) := hD
        refine lv_aload hx hb dL_add_112 (lv_at hl 6 rfl) ?_
        refine lv_aload hx hb dL_add_114 (lv_at hl 9 rfl) ?_
        refine lv_bipush (v := iI 11) hx hb dL_add_116 (by decide) ?_
        refine zr_iald (n := 12) (f := uZ t_x 3 ((t_x 3) + 1)) (i := 11) hx hb hK hP 7 rfl rg_11 ⟨by decide, by decide⟩ dL_add_118 ?_
        refine W.eq (g2 := F0 m 119 ls (.int (iI (t_x 11)) :: [.ref m_a0])) rfl ?_
        refine lv_iload hx hb dL_add_119 (lv_at hl 1 rfl) ?_
        obtain ⟨b57, h58⟩ := h56
        refine zr_iast (n := 20) (f := m_x) (i := t_x 11) (x := t_x 3) hx hb hK hP hD hS 4 rfl (r_t_x 11) b57 dL_add_121 (fun H locs hP hD hS => ?_)
        have hP : va_P G.1 vwCl (flt [[(f_a0, eI G 60 f_x)], [(n_a0, eI G 64 n_x)], [(l_a0, eI G 64 l_x)], [(d_a0, eI G 64 d_x)], [(m_a0, eI G 20 (uZ m_x (t_x 11) (t_x 3)))], [(k_a0, eI G 60 (uZ k_x (t_x 3) key))], [(c_a0, eI G 60 (uZ c_x (t_x 3) 1))], [(t_a0, eI G 12 (uZ t_x 3 ((t_x 3) + 1)))]]) H := hP
        have hD : va_D A (flt [[(f_a0, eI G 60 f_x)], [(n_a0, eI G 64 n_x)], [(l_a0, eI G 64 l_x)], [(d_a0, eI G 64 d_x)], [(m_a0, eI G 20 (uZ m_x (t_x 11) (t_x 3)))], [(k_a0, eI G 60 (uZ k_x (t_x 3) key))], [(c_a0, eI G 60 (uZ c_x (t_x 3) 1))], [(t_a0, eI G 12 (uZ t_x 3 ((t_x 3) + 1)))]]) := hD
        refine lv_aload hx hb dL_add_122 (lv_at hl 9 rfl) ?_
        refine lv_bipush (v := iI 11) hx hb dL_add_124 (by decide) ?_
        refine lv_dup2_11 hx hb dL_add_126 rfl rfl ?_
        refine zr_iald (n := 12) (f := uZ t_x 3 ((t_x 3) + 1)) (i := 11) hx hb hK hP 7 rfl rg_11 ⟨by decide, by decide⟩ dL_add_127 ?_
        refine W.eq (g2 := F0 m 128 ls (.int (iI (t_x 11)) :: [.int (iI 11), .ref t_a0])) rfl ?_
        refine lv_iconst (v := iI 1) hx hb dL_add_128 rfl ?_
        refine zr_iadd (x := t_x 11) (y := 1) hx hb dL_add_129 ?_
        obtain ⟨r59, h60⟩ := h58
        refine zr_iast (n := 12) (f := uZ t_x 3 ((t_x 3) + 1)) (i := 11) (x := (t_x 11) + 1) hx hb hK hP hD hS 7 rfl rg_11 ⟨by decide, by decide⟩ dL_add_130 (fun H locs hP hD hS => ?_)
        have hP : va_P G.1 vwCl (flt [[(f_a0, eI G 60 f_x)], [(n_a0, eI G 64 n_x)], [(l_a0, eI G 64 l_x)], [(d_a0, eI G 64 d_x)], [(m_a0, eI G 20 (uZ m_x (t_x 11) (t_x 3)))], [(k_a0, eI G 60 (uZ k_x (t_x 3) key))], [(c_a0, eI G 60 (uZ c_x (t_x 3) 1))], [(t_a0, eI G 12 (uZ (uZ t_x 3 ((t_x 3) + 1)) 11 ((t_x 11) + 1)))]]) H := hP
        have hD : va_D A (flt [[(f_a0, eI G 60 f_x)], [(n_a0, eI G 64 n_x)], [(l_a0, eI G 64 l_x)], [(d_a0, eI G 64 d_x)], [(m_a0, eI G 20 (uZ m_x (t_x 11) (t_x 3)))], [(k_a0, eI G 60 (uZ k_x (t_x 3) key))], [(c_a0, eI G 60 (uZ c_x (t_x 3) 1))], [(t_a0, eI G 12 (uZ (uZ t_x 3 ((t_x 3) + 1)) 11 ((t_x 11) + 1)))]]) := hD
        exact zr_vret hx hb hr hlocks hK ((f_x, n_x, l_x, d_x, uZ m_x (t_x 11) (t_x 3), uZ k_x (t_x 3) key, uZ c_x (t_x 3) 1, uZ (uZ t_x 3 ((t_x 3) + 1)) 11 ((t_x 11) + 1))) hP hD hS dL_add_131 ⟨r_f_x, r_n_x, r_l_x, r_d_x, (rgA_u (i := t_x 11) r_m_x (r_t_x 3)), (rgA_u (i := t_x 3) r_k_x r_key), (rgA_u (i := t_x 3) r_c_x rg_1), (rgA_u (i := 11) (rgA_u (i := 3) r_t_x r1) r59), h60⟩
      · have h61 := h52.1 c53
        refine lv_aload_n hx hb dL_add_92 rfl (lv_at hl 2 rfl) ?_
        refine lv_aload_n hx hb dL_add_93 rfl (lv_at hl 3 rfl) ?_
        refine lv_aload_n hx hb dL_add_94 rfl (lv_at hl 4 rfl) ?_
        refine lv_aload_n hx hb dL_add_95 rfl (lv_at hl 5 rfl) ?_
        refine lv_aload hx hb dL_add_96 (lv_at hl 6 rfl) ?_
        refine lv_aload hx hb dL_add_98 (lv_at hl 7 rfl) ?_
        refine lv_aload hx hb dL_add_100 (lv_at hl 9 rfl) ?_
        obtain ⟨g62, h63⟩ := h61
        obtain ⟨b64, h65⟩ := h63
        obtain ⟨b66, h67⟩ := h65
        obtain ⟨b68, h69⟩ := h67
        refine zs_vi (As := [.ref f_a0, .ref n_a0, .ref l_a0, .ref d_a0, .ref m_a0, .ref k_a0, .ref t_a0]) (rest := []) (L := [[(f_a0, eI G 60 f_x)], [(n_a0, eI G 64 n_x)], [(l_a0, eI G 64 l_x)], [(d_a0, eI G 64 d_x)], [(m_a0, eI G 20 m_x)], [(k_a0, eI G 60 (uZ k_x (t_x 3) key))], [(c_a0, eI G 60 c_x)], [(t_a0, eI G 12 (uZ t_x 3 ((t_x 3) + 1)))]]) (LC := [[(f_a0, eI G 60 f_x)], [(n_a0, eI G 64 n_x)], [(l_a0, eI G 64 l_x)], [(d_a0, eI G 64 d_x)], [(m_a0, eI G 20 m_x)], [(k_a0, eI G 60 (uZ k_x (t_x 3) key))], [(t_a0, eI G 12 (uZ t_x 3 ((t_x 3) + 1)))]]) (LR := [[(c_a0, eI G 60 c_x)]]) (LC1 := fun (u_75 : (Int → Int) × (Int → Int) × (Int → Int) × (Int → Int) × (Int → Int)) => [[(f_a0, eI G 60 u_75.1)], [(n_a0, eI G 64 u_75.2.1)], [(l_a0, eI G 64 u_75.2.2.1)], [(d_a0, eI G 64 u_75.2.2.2.1)], [(m_a0, eI G 20 m_x)], [(k_a0, eI G 60 (uZ k_x (t_x 3) key))], [(t_a0, eI G 12 u_75.2.2.2.2)]]) (L2 := fun (u_75 : (Int → Int) × (Int → Int) × (Int → Int) × (Int → Int) × (Int → Int)) => [[(f_a0, eI G 60 u_75.1)], [(n_a0, eI G 64 u_75.2.1)], [(l_a0, eI G 64 u_75.2.2.1)], [(d_a0, eI G 64 u_75.2.2.2.1)], [(m_a0, eI G 20 m_x)], [(k_a0, eI G 60 (uZ k_x (t_x 3) key))], [(c_a0, eI G 60 c_x)], [(t_a0, eI G 12 u_75.2.2.2.2)]]) (c_L_write l G f_a0 n_a0 l_a0 d_a0 m_a0 k_a0 t_a0 f_x n_x l_x d_x m_x (uZ k_x (t_x 3) key) (uZ t_x 3 ((t_x 3) + 1)) g62 r_f_x r_n_x r_l_x r_d_x r_m_x (rgA_u (i := t_x 3) r_k_x r_key) (rgA_u (i := 3) r_t_x r1) b64 b66 b68) ⟨hx, hb, hml, hown, hts⟩ (va_cwS 7 hts gL_add_L_write rfl rfl rfl hdL_write ⟨Nat.le_of_ble_eq_true rfl, Nat.le_of_ble_eq_true rfl⟩) hK hP hD hS hA [0, 1, 2, 3, 4, 5, 7] [6] [0, 1, 2, 3, 4, 5, 7, 6] rfl rfl 8 rfl (by decide) (fun _ => rfl) (fun _ => rfl) (by decide) rfl hl.1 rfl (Nat.le_of_ble_eq_true rfl) dL_add_102 ⟨Nat.zero_le _, Nat.zero_le _⟩ (fun z76 u_75 H locs hw hP hD hS => ?_)
        obtain ⟨u_f_x70, u_n_x71, u_l_x72, u_d_x73, u_t_x74⟩ := u_75
        obtain ⟨r78, ru_f_x70, ru_n_x71, ru_l_x72, ru_d_x73, ru_t_x74, h77⟩ := hw
        have h79 := h69 z76 u_f_x70 u_n_x71 u_l_x72 u_d_x73 u_t_x74 r78 ru_f_x70 ru_n_x71 ru_l_x72 ru_d_x73 ru_t_x74 h77
        have hP : va_P G.1 vwCl (flt [[(f_a0, eI G 60 u_f_x70)], [(n_a0, eI G 64 u_n_x71)], [(l_a0, eI G 64 u_l_x72)], [(d_a0, eI G 64 u_d_x73)], [(m_a0, eI G 20 m_x)], [(k_a0, eI G 60 (uZ k_x (t_x 3) key))], [(c_a0, eI G 60 c_x)], [(t_a0, eI G 12 u_t_x74)]]) H := hP
        have hD : va_D A (flt [[(f_a0, eI G 60 u_f_x70)], [(n_a0, eI G 64 u_n_x71)], [(l_a0, eI G 64 u_l_x72)], [(d_a0, eI G 64 u_d_x73)], [(m_a0, eI G 20 m_x)], [(k_a0, eI G 60 (uZ k_x (t_x 3) key))], [(c_a0, eI G 60 c_x)], [(t_a0, eI G 12 u_t_x74)]]) := hD
        refine lv_pop hx hb dL_add_105 rfl ?_
        refine lv_aload hx hb dL_add_106 (lv_at hl 8 rfl) ?_
        refine lv_iload hx hb dL_add_108 (lv_at hl 1 rfl) ?_
        refine lv_iconst (v := iI 1) hx hb dL_add_110 rfl ?_
        refine zr_iast (n := 60) (f := c_x) (i := t_x 3) (x := 1) hx hb hK hP hD hS 6 rfl (r_t_x 3) b3 dL_add_111 (fun H locs hP hD hS => ?_)
        have hP : va_P G.1 vwCl (flt [[(f_a0, eI G 60 u_f_x70)], [(n_a0, eI G 64 u_n_x71)], [(l_a0, eI G 64 u_l_x72)], [(d_a0, eI G 64 u_d_x73)], [(m_a0, eI G 20 m_x)], [(k_a0, eI G 60 (uZ k_x (t_x 3) key))], [(c_a0, eI G 60 (uZ c_x (t_x 3) 1))], [(t_a0, eI G 12 u_t_x74)]]) H := hP
        have hD : va_D A (flt [[(f_a0, eI G 60 u_f_x70)], [(n_a0, eI G 64 u_n_x71)], [(l_a0, eI G 64 u_l_x72)], [(d_a0, eI G 64 u_d_x73)], [(m_a0, eI G 20 m_x)], [(k_a0, eI G 60 (uZ k_x (t_x 3) key))], [(c_a0, eI G 60 (uZ c_x (t_x 3) 1))], [(t_a0, eI G 12 u_t_x74)]]) := hD
        refine lv_aload hx hb dL_add_112 (lv_at hl 6 rfl) ?_
        refine lv_aload hx hb dL_add_114 (lv_at hl 9 rfl) ?_
        refine lv_bipush (v := iI 11) hx hb dL_add_116 (by decide) ?_
        refine zr_iald (n := 12) (f := u_t_x74) (i := 11) hx hb hK hP 7 rfl rg_11 ⟨by decide, by decide⟩ dL_add_118 ?_
        refine lv_iload hx hb dL_add_119 (lv_at hl 1 rfl) ?_
        obtain ⟨b80, h81⟩ := h79
        refine zr_iast (n := 20) (f := m_x) (i := u_t_x74 11) (x := t_x 3) hx hb hK hP hD hS 4 rfl (ru_t_x74 11) b80 dL_add_121 (fun H locs hP hD hS => ?_)
        have hP : va_P G.1 vwCl (flt [[(f_a0, eI G 60 u_f_x70)], [(n_a0, eI G 64 u_n_x71)], [(l_a0, eI G 64 u_l_x72)], [(d_a0, eI G 64 u_d_x73)], [(m_a0, eI G 20 (uZ m_x (u_t_x74 11) (t_x 3)))], [(k_a0, eI G 60 (uZ k_x (t_x 3) key))], [(c_a0, eI G 60 (uZ c_x (t_x 3) 1))], [(t_a0, eI G 12 u_t_x74)]]) H := hP
        have hD : va_D A (flt [[(f_a0, eI G 60 u_f_x70)], [(n_a0, eI G 64 u_n_x71)], [(l_a0, eI G 64 u_l_x72)], [(d_a0, eI G 64 u_d_x73)], [(m_a0, eI G 20 (uZ m_x (u_t_x74 11) (t_x 3)))], [(k_a0, eI G 60 (uZ k_x (t_x 3) key))], [(c_a0, eI G 60 (uZ c_x (t_x 3) 1))], [(t_a0, eI G 12 u_t_x74)]]) := hD
        refine lv_aload hx hb dL_add_122 (lv_at hl 9 rfl) ?_
        refine lv_bipush (v := iI 11) hx hb dL_add_124 (by decide) ?_
        refine lv_dup2_11 hx hb dL_add_126 rfl rfl ?_
        refine zr_iald (n := 12) (f := u_t_x74) (i := 11) hx hb hK hP 7 rfl rg_11 ⟨by decide, by decide⟩ dL_add_127 ?_
        refine lv_iconst (v := iI 1) hx hb dL_add_128 rfl ?_
        refine zr_iadd (x := u_t_x74 11) (y := 1) hx hb dL_add_129 ?_
        obtain ⟨r82, h83⟩ := h81
        refine zr_iast (n := 12) (f := u_t_x74) (i := 11) (x := (u_t_x74 11) + 1) hx hb hK hP hD hS 7 rfl rg_11 ⟨by decide, by decide⟩ dL_add_130 (fun H locs hP hD hS => ?_)
        have hP : va_P G.1 vwCl (flt [[(f_a0, eI G 60 u_f_x70)], [(n_a0, eI G 64 u_n_x71)], [(l_a0, eI G 64 u_l_x72)], [(d_a0, eI G 64 u_d_x73)], [(m_a0, eI G 20 (uZ m_x (u_t_x74 11) (t_x 3)))], [(k_a0, eI G 60 (uZ k_x (t_x 3) key))], [(c_a0, eI G 60 (uZ c_x (t_x 3) 1))], [(t_a0, eI G 12 (uZ u_t_x74 11 ((u_t_x74 11) + 1)))]]) H := hP
        have hD : va_D A (flt [[(f_a0, eI G 60 u_f_x70)], [(n_a0, eI G 64 u_n_x71)], [(l_a0, eI G 64 u_l_x72)], [(d_a0, eI G 64 u_d_x73)], [(m_a0, eI G 20 (uZ m_x (u_t_x74 11) (t_x 3)))], [(k_a0, eI G 60 (uZ k_x (t_x 3) key))], [(c_a0, eI G 60 (uZ c_x (t_x 3) 1))], [(t_a0, eI G 12 (uZ u_t_x74 11 ((u_t_x74 11) + 1)))]]) := hD
        exact zr_vret hx hb hr hlocks hK ((u_f_x70, u_n_x71, u_l_x72, u_d_x73, uZ m_x (u_t_x74 11) (t_x 3), uZ k_x (t_x 3) key, uZ c_x (t_x 3) 1, uZ u_t_x74 11 ((u_t_x74 11) + 1))) hP hD hS dL_add_131 ⟨ru_f_x70, ru_n_x71, ru_l_x72, ru_d_x73, (rgA_u (i := u_t_x74 11) r_m_x (r_t_x 3)), (rgA_u (i := t_x 3) r_k_x r_key), (rgA_u (i := t_x 3) r_c_x rg_1), (rgA_u (i := 11) ru_t_x74 r82), h83⟩
    · have h84 := h48.1 c49
      refine lv_aload hx hb dL_add_42 (lv_at hl 7 rfl) ?_
      refine lv_aload hx hb dL_add_44 (lv_at hl 6 rfl) ?_
      refine lv_iload hx hb dL_add_46 (lv_at hl 0 rfl) ?_
      obtain ⟨b85, h86⟩ := h84
      refine zr_iald (n := 20) (f := m_x) (i := x10_5) hx hb hK hP 4 rfl rx10_5 b85 dL_add_48 ?_
      obtain ⟨b87, h88⟩ := h86
      refine zr_iald (n := 60) (f := uZ k_x (t_x 3) key) (i := m_x x10_5) hx hb hK hP 5 rfl (r_m_x x10_5) b87 dL_add_49 ?_
      refine lv_iload hx hb dL_add_50 (lv_at hl 10 rfl) ?_
      refine zr_icmp_ne (tgt := 74) (x := (uZ k_x (t_x 3) key) (m_x x10_5)) (y := key) hx hb ((rgA_u (i := t_x 3) r_k_x r_key) (m_x x10_5)) r_key dL_add_52 (by decide) (fun c89 => ?_) (fun c89 => ?_)
      · have h92 := h88.2 c89
        obtain ⟨r93, h94⟩ := h92
        refine zr_iinc (x := x10_5) (lv' := [(10, .int (iI (x10_5 + 1))), (9, .int (iI (t_x 3))), (0, .ref f_a0), (1, .ref n_a0), (2, .ref l_a0), (3, .ref d_a0), (4, .ref m_a0), (5, .ref k_a0), (6, .ref c_a0), (7, .ref t_a0), (8, .int (iI key))]) hx hb dL_add_74 hl (k := 0) rfl (by decide) rfl (fun ls hl => ?_)
        refine lv_goto (tgt := 24) hx hb dL_add_77 (by decide) ?_
        obtain ⟨h95, h96⟩ := h94
        exact ih10 (x10_5 + 1) _ _ _ ⟨r93, h95⟩ h96 hP hD hS (lv_sub hl [0, 1, 2, 3, 4, 5, 6, 7, 8, 9, 10] rfl)
      · have h97 := h88.1 c89
        refine lv_aload hx hb dL_add_55 (lv_at hl 8 rfl) ?_
        refine lv_aload hx hb dL_add_57 (lv_at hl 6 rfl) ?_
        refine lv_iload hx hb dL_add_59 (lv_at hl 0 rfl) ?_
        refine zr_iald (n := 20) (f := m_x) (i := x10_5) hx hb hK hP 4 rfl rx10_5 b85 dL_add_61 ?_
        refine lv_dup2_11 hx hb dL_add_62 rfl rfl ?_
        refine zr_iald (n := 60) (f := c_x) (i := m_x x10_5) hx hb hK hP 6 rfl (r_m_x x10_5) b87 dL_add_63 ?_
        refine lv_iconst (v := iI 1) hx hb dL_add_64 rfl ?_
        refine zr_iadd (x := c_x (m_x x10_5)) (y := 1) hx hb dL_add_65 ?_
        obtain ⟨r98, h99⟩ := h97
        refine zr_iast (n := 60) (f := c_x) (i := m_x x10_5) (x := (c_x (m_x x10_5)) + 1) hx hb hK hP hD hS 6 rfl (r_m_x x10_5) b87 dL_add_66 (fun H locs hP hD hS => ?_)
        have hP : va_P G.1 vwCl (flt [[(f_a0, eI G 60 f_x)], [(n_a0, eI G 64 n_x)], [(l_a0, eI G 64 l_x)], [(d_a0, eI G 64 d_x)], [(m_a0, eI G 20 m_x)], [(k_a0, eI G 60 (uZ k_x (t_x 3) key))], [(c_a0, eI G 60 (uZ c_x (m_x x10_5) ((c_x (m_x x10_5)) + 1)))], [(t_a0, eI G 12 (uZ t_x 3 ((t_x 3) + 1)))]]) H := hP
        have hD : va_D A (flt [[(f_a0, eI G 60 f_x)], [(n_a0, eI G 64 n_x)], [(l_a0, eI G 64 l_x)], [(d_a0, eI G 64 d_x)], [(m_a0, eI G 20 m_x)], [(k_a0, eI G 60 (uZ k_x (t_x 3) key))], [(c_a0, eI G 60 (uZ c_x (m_x x10_5) ((c_x (m_x x10_5)) + 1)))], [(t_a0, eI G 12 (uZ t_x 3 ((t_x 3) + 1)))]]) := hD
        refine lv_aload hx hb dL_add_67 (lv_at hl 8 rfl) ?_
        refine lv_iload hx hb dL_add_69 (lv_at hl 1 rfl) ?_
        refine lv_iconst (v := iI 0) hx hb dL_add_71 rfl ?_
        refine zr_iast (n := 60) (f := uZ c_x (m_x x10_5) ((c_x (m_x x10_5)) + 1)) (i := t_x 3) (x := 0) hx hb hK hP hD hS 6 rfl (r_t_x 3) b3 dL_add_72 (fun H locs hP hD hS => ?_)
        have hP : va_P G.1 vwCl (flt [[(f_a0, eI G 60 f_x)], [(n_a0, eI G 64 n_x)], [(l_a0, eI G 64 l_x)], [(d_a0, eI G 64 d_x)], [(m_a0, eI G 20 m_x)], [(k_a0, eI G 60 (uZ k_x (t_x 3) key))], [(c_a0, eI G 60 (uZ (uZ c_x (m_x x10_5) ((c_x (m_x x10_5)) + 1)) (t_x 3) 0))], [(t_a0, eI G 12 (uZ t_x 3 ((t_x 3) + 1)))]]) H := hP
        have hD : va_D A (flt [[(f_a0, eI G 60 f_x)], [(n_a0, eI G 64 n_x)], [(l_a0, eI G 64 l_x)], [(d_a0, eI G 64 d_x)], [(m_a0, eI G 20 m_x)], [(k_a0, eI G 60 (uZ k_x (t_x 3) key))], [(c_a0, eI G 60 (uZ (uZ c_x (m_x x10_5) ((c_x (m_x x10_5)) + 1)) (t_x 3) 0))], [(t_a0, eI G 12 (uZ t_x 3 ((t_x 3) + 1)))]]) := hD
        exact zr_vret hx hb hr hlocks hK ((f_x, n_x, l_x, d_x, m_x, uZ k_x (t_x 3) key, uZ (uZ c_x (m_x x10_5) ((c_x (m_x x10_5)) + 1)) (t_x 3) 0, uZ t_x 3 ((t_x 3) + 1))) hP hD hS dL_add_73 ⟨r_f_x, r_n_x, r_l_x, r_d_x, r_m_x, (rgA_u (i := t_x 3) r_k_x r_key), (rgA_u (i := t_x 3) (rgA_u (i := m_x x10_5) r_c_x r98) rg_0), (rgA_u (i := 3) r_t_x r1), h99⟩
theorem c_L_add (l : Launch) (G : ZG) (f_a0 : Nat) (n_a0 : Nat) (l_a0 : Nat) (d_a0 : Nat) (m_a0 : Nat) (k_a0 : Nat) (c_a0 : Nat) (t_a0 : Nat) (f_x : Int → Int) (n_x : Int → Int) (l_x : Int → Int) (d_x : Int → Int) (m_x : Int → Int) (k_x : Int → Int) (c_x : Int → Int) (t_x : Int → Int) (key : Int) (z : Int → Int) (r_f_x : rgA f_x) (r_n_x : rgA n_x) (r_l_x : rgA l_x) (r_d_x : rgA d_x) (r_m_x : rgA m_x) (r_k_x : rgA k_x) (r_c_x : rgA c_x) (r_t_x : rgA t_x) (r_key : rg key) (p0 : LV f_x n_x l_x d_x m_x k_x t_x z) (p1 : LC c_x z) (p2 : Vz z) (p3 : (z 2 = 1 ∧ z 3 < 56) ∧ z 4 + 1 ≤ 900000000 ∧ z 7 + 120 ≤ 2000000000) (p4 : 0 ≤ key ∧ key ≤ 999) : ZV l G yL_add wsL_add 2 52 [.ref f_a0, .ref n_a0, .ref l_a0, .ref d_a0, .ref m_a0, .ref k_a0, .ref c_a0, .ref t_a0, .int (iI key)] (flt [[(f_a0, eI G 60 f_x)], [(n_a0, eI G 64 n_x)], [(l_a0, eI G 64 l_x)], [(d_a0, eI G 64 d_x)], [(m_a0, eI G 20 m_x)], [(k_a0, eI G 60 k_x)], [(c_a0, eI G 60 c_x)], [(t_a0, eI G 12 t_x)]]) (fun u : (Int → Int) × (Int → Int) × (Int → Int) × (Int → Int) × (Int → Int) × (Int → Int) × (Int → Int) × (Int → Int) => flt [[(f_a0, eI G 60 u.1)], [(n_a0, eI G 64 u.2.1)], [(l_a0, eI G 64 u.2.2.1)], [(d_a0, eI G 64 u.2.2.2.1)], [(m_a0, eI G 20 u.2.2.2.2.1)], [(k_a0, eI G 60 u.2.2.2.2.2.1)], [(c_a0, eI G 60 u.2.2.2.2.2.2.1)], [(t_a0, eI G 12 u.2.2.2.2.2.2.2)]]) (fun (u : (Int → Int) × (Int → Int) × (Int → Int) × (Int → Int) × (Int → Int) × (Int → Int) × (Int → Int) × (Int → Int)) => rgA u.1 ∧ rgA u.2.1 ∧ rgA u.2.2.1 ∧ rgA u.2.2.2.1 ∧ rgA u.2.2.2.2.1 ∧ rgA u.2.2.2.2.2.1 ∧ rgA u.2.2.2.2.2.2.1 ∧ rgA u.2.2.2.2.2.2.2 ∧ (LV u.1 u.2.1 u.2.2.1 u.2.2.2.1 u.2.2.2.2.1 u.2.2.2.2.2.1 u.2.2.2.2.2.2.2 (addZ z key) ∧ LC u.2.2.2.2.2.2.1 (addZ z key))) :=
  c0_L_add l G f_a0 n_a0 l_a0 d_a0 m_a0 k_a0 c_a0 t_a0 f_x n_x l_x d_x m_x k_x c_x t_x key (fun f_x' n_x' l_x' d_x' m_x' k_x' c_x' t_x' => LV f_x' n_x' l_x' d_x' m_x' k_x' t_x' (addZ z key) ∧ LC c_x' (addZ z key)) r_f_x r_n_x r_l_x r_d_x r_m_x r_k_x r_c_x r_t_x r_key (sp_L_add f_x n_x l_x d_x m_x k_x c_x t_x key z r_f_x r_n_x r_l_x r_d_x r_m_x r_k_x r_c_x r_t_x r_key p0 p1 p2 p3 p4)
