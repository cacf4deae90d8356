theorem imX1_remember_X1 : ∀ w ∈ wsX10, w ∈ wsX1_remember := fun _ h => (List.mem_cons_of_mem _ (List.mem_append_left _ (List.mem_append_left _ (List.mem_append_left _ (List.mem_append_right _ h)))))
theorem hdX1_remember : yX1_remember.cls = RX1 ∧ yX1_remember.cls ≠ "java/lang/invoke/MethodHandle" ∧ yX1_remember.cls ≠ "java/lang/invoke/VarHandle" ∧ (parseMethodDescriptor yX1_remember.desc).map (fun d => d.parameters.length) = some 1 := by decide +kernel
set_option maxRecDepth 100000 in
set_option maxHeartbeats 4000000 in
theorem c0_X1_remember (l : Launch) (G : ZG) (a0 : Nat) (a1 : Nat) (a2 : Nat → Nat) (a3 : Nat → Nat) (a4 : Nat → Nat) (a5 : Nat → Nat) (o_a : Nat → Nat) (ol : Int) (tt : Int) (s0 : SS) (s1 : SS) (s2 : SS) (s3 : SS) (o_s : SS)  (P : Int → Int → SS → SS → SS → SS → Prop) (r_ol : rg ol) (r_tt : rg tt) (r_s0 : RG s0) (r_s1 : RG s1) (r_s2 : RG s2) (r_s3 : RG s3) (r_o_s : RG o_s)  (hwp : wp_X1_remember ol tt s0 s1 s2 s3 o_s P) : ZV l G yX1_remember wsX1_remember 3 82 [.ref a0, .ref (o_a 0)] (flt [W1h G a0 a1 a2 a3 a4 a5 ol tt, W5 G a2 s0, W5 G a3 s1, W5 G a4 s2, W5 G a5 s3, W5 G o_a o_s]) (fun u : Int × Int × SS × SS × SS × SS => flt [W1h G a0 a1 a2 a3 a4 a5 u.1 u.2.1, W5 G a2 u.2.2.1, W5 G a3 u.2.2.2.1, W5 G a4 u.2.2.2.2.1, W5 G a5 u.2.2.2.2.2, W5 G o_a o_s]) (fun (u : Int × Int × SS × SS × SS × SS) => rg u.1 ∧ rg u.2.1 ∧ RG u.2.2.1 ∧ RG u.2.2.2.1 ∧ RG u.2.2.2.2.1 ∧ RG u.2.2.2.2.2 ∧ P u.1 u.2.1 u.2.2.1 u.2.2.2.1 u.2.2.2.2.1 u.2.2.2.2.2) := by
  unfold wp_X1_remember at hwp
  refine zm_v (cc := cX1_remember) (maxL := 3) (ret := none) (own := RX1) (lvs := [(0, .ref a0), (1, .ref (o_a 0))]) (by decide) rfl rfl (Nat.le_of_ble_eq_true rfl) rfl ?_
  intro p e sT m args below meth c ls A hx hb hr hml hown hts hlocks hK hP hD hS hA hl
  have k1 := hts (.fieldLink RX1 18 "GrantedSort$History" "total" "I") (List.mem_of_getElem? (i := 1) rfl)
  have k2 := hts (.fieldLink RX1 22 "GrantedSort$History" "oldest" "I") (List.mem_of_getElem? (i := 2) rfl)
  refine lv_aload_n hx hb dX1_remember_0 rfl (lv_at hl 0 rfl) ?_
  refine va_get (v := .int (iI tt)) (ci := 1) (C := RX1) (T := TX1) (N := 3) hx hb hts imX1_remember_X1 hown hK hP 0 rfl rfl 2 (by decide) k1 (fun _ h9 => h9) rfl dX1_remember_1 ?_
  refine lv_iconst (v := iI 4) hx hb dX1_remember_4 rfl ?_
  refine zr_icmp_ne (tgt := 30) (x := tt) (y := 4) hx hb r_tt rg_4 dX1_remember_5 (by decide) (fun c1 => ?_) (fun c1 => ?_)
  · have h4 := hwp.2 c1
    refine lv_aload_n hx hb dX1_remember_30 rfl (lv_at hl 0 rfl) ?_
    refine lv_aload_n hx hb dX1_remember_31 rfl (lv_at hl 0 rfl) ?_
    refine va_get (v := .int (iI tt)) (ci := 1) (C := RX1) (T := TX1) (N := 3) hx hb hts imX1_remember_X1 hown hK hP 0 rfl rfl 2 (by decide) k1 (fun _ h9 => h9) rfl dX1_remember_32 ?_
    obtain ⟨b5, h6⟩ := h4
    refine zq_vrR (As := [.int (iI tt)]) (rest := []) (c_X1_stateAt l G a0 a1 a2 a3 a4 a5 ol tt tt r_ol r_tt b5) ⟨hx, hb, hml, hown, hts⟩ (cwV 1 hts gX1_remember_X1_stateAt rfl rfl rfl hdX1_stateAt ⟨Nat.le_of_ble_eq_true rfl, Nat.le_of_ble_eq_true rfl⟩) hK hP hD hS hA rfl rfl [0, 1] rfl rfl rfl hl.1 rfl (Nat.le_of_ble_eq_true rfl) dX1_remember_35 ⟨Nat.zero_le _, Nat.zero_le _⟩ (fun H locs hP hD hS => ?_)
    have hP : va_P G.1 vwCl (flt [W1h G a0 a1 a2 a3 a4 a5 ol tt, W5 G a2 s0, W5 G a3 s1, W5 G a4 s2, W5 G a5 s3, W5 G o_a o_s]) H := hP
    have hD : va_D A (flt [W1h G a0 a1 a2 a3 a4 a5 ol tt, W5 G a2 s0, W5 G a3 s1, W5 G a4 s2, W5 G a5 s3, W5 G o_a o_s]) := hD
    rcases (show ((ol + tt) % 4) = 0 ∨ ((ol + tt) % 4) = 1 ∨ ((ol + tt) % 4) = 2 ∨ ((ol + tt) % 4) = 3 by omega) with c7 | c7 | c7 | c7
    · have h8 := h6.1 c7
      have ea : adS a2 a3 a4 a5 ((ol + tt) % 4) = a2 0 := by rw [c7]; rfl
      rw [ea]
      refine lv_astore_n (lv' := [(2, .ref (a2 0)), (0, .ref a0), (1, .ref (o_a 0))]) hx hb dX1_remember_38 rfl hl (by decide) rfl (fun ls hl => ?_)
      refine lv_aload_n hx hb dX1_remember_39 rfl (lv_at hl 0 rfl) ?_
      refine lv_ifnull hx hb dX1_remember_40 ?_
      refine lv_aload_n hx hb dX1_remember_43 rfl (lv_at hl 0 rfl) ?_
      refine lv_aload_n hx hb dX1_remember_44 rfl (lv_at hl 2 rfl) ?_
      obtain ⟨b9, h10⟩ := h8
      refine zq_vv (As := [.ref (o_a 0)]) (rest := []) (L := [W1h G a0 a1 a2 a3 a4 a5 ol tt, W5 G a2 s0, W5 G a3 s1, W5 G a4 s2, W5 G a5 s3, W5 G o_a o_s]) (LC := [W5 G a2 s0, W5 G o_a o_s]) (LR := [W1h G a0 a1 a2 a3 a4 a5 ol tt, W5 G a3 s1, W5 G a4 s2, W5 G a5 s3]) (LC1 := fun (u_12 : Unit) => [W5 G a2 o_s, W5 G o_a o_s]) (L2 := fun (u_12 : Unit) => [W1h G a0 a1 a2 a3 a4 a5 ol tt, W5 G a2 o_s, W5 G a3 s1, W5 G a4 s2, W5 G a5 s3, W5 G o_a o_s]) (c_X5_copyFrom l G a2 o_a s0 o_s r_s0 r_o_s b9) ⟨hx, hb, hml, hown, hts⟩ (cwV 1 hts gX1_remember_X5_copyFrom rfl rfl rfl hdX5_copyFrom ⟨Nat.le_of_ble_eq_true rfl, Nat.le_of_ble_eq_true rfl⟩) hK hP hD hS hA rfl rfl [1, 5] [0, 2, 3, 4] [2, 0, 3, 4, 5, 1] rfl rfl 6 rfl (by decide) (fun _ => rfl) (fun _ => rfl) (by decide) rfl hl.1 rfl (Nat.le_of_ble_eq_true rfl) dX1_remember_45 ⟨Nat.zero_le _, Nat.zero_le _⟩ (fun u_12 H locs hw hP hD hS => ?_)
      have r11 := hw
      have hP : va_P G.1 vwCl (flt [W1h G a0 a1 a2 a3 a4 a5 ol tt, W5 G a2 o_s, W5 G a3 s1, W5 G a4 s2, W5 G a5 s3, W5 G o_a o_s]) H := hP
      have hD : va_D A (flt [W1h G a0 a1 a2 a3 a4 a5 ol tt, W5 G a2 o_s, W5 G a3 s1, W5 G a4 s2, W5 G a5 s3, W5 G o_a o_s]) := hD
      refine lv_aload_n hx hb dX1_remember_48 rfl (lv_at hl 1 rfl) ?_
      refine lv_dup hx hb dX1_remember_49 rfl ?_
      refine va_get (v := .int (iI tt)) (ci := 1) (C := RX1) (T := TX1) (N := 3) hx hb hts imX1_remember_X1 hown hK hP 0 rfl rfl 2 (by decide) k1 (fun _ h9 => h9) rfl dX1_remember_50 ?_
      refine lv_iconst (v := iI 1) hx hb dX1_remember_53 rfl ?_
      refine zr_iadd (x := tt) (y := 1) hx hb dX1_remember_54 ?_
      obtain ⟨r14, h15⟩ := h10
      refine va_put (v := .int (iI (tt + 1))) (ty := .int) (ci := 1) (C := RX1) (T := TX1) (N := 3) hx hb hts imX1_remember_X1 tyX1 tyX1_ok nmX1 hown hK hP hD hS 0 rfl rfl 2 (by decide) k1 (fun _ h9 => h9) rfl (tyX1_ok 2 (by decide)) rfl rfl (Nat.le_of_ble_eq_true rfl) dX1_remember_55 (fun H locs hP hD hS => ?_)
      have hP : va_P G.1 vwCl (flt [W1h G a0 a1 a2 a3 a4 a5 ol (tt + 1), W5 G a2 o_s, W5 G a3 s1, W5 G a4 s2, W5 G a5 s3, W5 G o_a o_s]) H := hP
      have hD : va_D A (flt [W1h G a0 a1 a2 a3 a4 a5 ol (tt + 1), W5 G a2 o_s, W5 G a3 s1, W5 G a4 s2, W5 G a5 s3, W5 G o_a o_s]) := hD
      exact zr_vret hx hb hr hlocks hK ((ol, tt + 1, o_s, s1, s2, s3)) hP hD hS dX1_remember_58 ⟨r_ol, r14, r11, r_s1, r_s2, r_s3, h15⟩
    · have h16 := h6.2.1 c7
      have ea : adS a2 a3 a4 a5 ((ol + tt) % 4) = a3 0 := by rw [c7]; rfl
      rw [ea]
      refine lv_astore_n (lv' := [(2, .ref (a3 0)), (0, .ref a0), (1, .ref (o_a 0))]) hx hb dX1_remember_38 rfl hl (by decide) rfl (fun ls hl => ?_)
      refine lv_aload_n hx hb dX1_remember_39 rfl (lv_at hl 0 rfl) ?_
      refine lv_ifnull hx hb dX1_remember_40 ?_
      refine lv_aload_n hx hb dX1_remember_43 rfl (lv_at hl 0 rfl) ?_
      refine lv_aload_n hx hb dX1_remember_44 rfl (lv_at hl 2 rfl) ?_
      obtain ⟨b17, h18⟩ := h16
      refine zq_vv (As := [.ref (o_a 0)]) (rest := []) (L := [W1h G a0 a1 a2 a3 a4 a5 ol tt, W5 G a2 s0, W5 G a3 s1, W5 G a4 s2, W5 G a5 s3, W5 G o_a o_s]) (LC := [W5 G a3 s1, W5 G o_a o_s]) (LR := [W1h G a0 a1 a2 a3 a4 a5 ol tt, W5 G a2 s0, W5 G a4 s2, W5 G a5 s3]) (LC1 := fun (u_20 : Unit) => [W5 G a3 o_s, W5 G o_a o_s]) (L2 := fun (u_20 : Unit) => [W1h G a0 a1 a2 a3 a4 a5 ol tt, W5 G a2 s0, W5 G a3 o_s, W5 G a4 s2, W5 G a5 s3, W5 G o_a o_s]) (c_X5_copyFrom l G a3 o_a s1 o_s r_s1 r_o_s b17) ⟨hx, hb, hml, hown, hts⟩ (cwV 1 hts gX1_remember_X5_copyFrom rfl rfl rfl hdX5_copyFrom ⟨Nat.le_of_ble_eq_true rfl, Nat.le_of_ble_eq_true rfl⟩) hK hP hD hS hA rfl rfl [2, 5] [0, 1, 3, 4] [2, 3, 0, 4, 5, 1] rfl rfl 6 rfl (by decide) (fun _ => rfl) (fun _ => rfl) (by decide) rfl hl.1 rfl (Nat.le_of_ble_eq_true rfl) dX1_remember_45 ⟨Nat.zero_le _, Nat.zero_le _⟩ (fun u_20 H locs hw hP hD hS => ?_)
      have r19 := hw
      have hP : va_P G.1 vwCl (flt [W1h G a0 a1 a2 a3 a4 a5 ol tt, W5 G a2 s0, W5 G a3 o_s, W5 G a4 s2, W5 G a5 s3, W5 G o_a o_s]) H := hP
      have hD : va_D A (flt [W1h G a0 a1 a2 a3 a4 a5 ol tt, W5 G a2 s0, W5 G a3 o_s, W5 G a4 s2, W5 G a5 s3, W5 G o_a o_s]) := hD
      refine lv_aload_n hx hb dX1_remember_48 rfl (lv_at hl 1 rfl) ?_
      refine lv_dup hx hb dX1_remember_49 rfl ?_
      refine va_get (v := .int (iI tt)) (ci := 1) (C := RX1) (T := TX1) (N := 3) hx hb hts imX1_remember_X1 hown hK hP 0 rfl rfl 2 (by decide) k1 (fun _ h9 => h9) rfl dX1_remember_50 ?_
      refine lv_iconst (v := iI 1) hx hb dX1_remember_53 rfl ?_
      refine zr_iadd (x := tt) (y := 1) hx hb dX1_remember_54 ?_
      obtain ⟨r22, h23⟩ := h18
      refine va_put (v := .int (iI (tt + 1))) (ty := .int) (ci := 1) (C := RX1) (T := TX1) (N := 3) hx hb hts imX1_remember_X1 tyX1 tyX1_ok nmX1 hown hK hP hD hS 0 rfl rfl 2 (by decide) k1 (fun _ h9 => h9) rfl (tyX1_ok 2 (by decide)) rfl rfl (Nat.le_of_ble_eq_true rfl) dX1_remember_55 (fun H locs hP hD hS => ?_)
      have hP : va_P G.1 vwCl (flt [W1h G a0 a1 a2 a3 a4 a5 ol (tt + 1), W5 G a2 s0, W5 G a3 o_s, W5 G a4 s2, W5 G a5 s3, W5 G o_a o_s]) H := hP
      have hD : va_D A (flt [W1h G a0 a1 a2 a3 a4 a5 ol (tt + 1), W5 G a2 s0, W5 G a3 o_s, W5 G a4 s2, W5 G a5 s3, W5 G o_a o_s]) := hD
      exact zr_vret hx hb hr hlocks hK ((ol, tt + 1, s0, o_s, s2, s3)) hP hD hS dX1_remember_58 ⟨r_ol, r22, r_s0, r19, r_s2, r_s3, h23⟩
    · have h24 := h6.2.2.1 c7
      have ea : adS a2 a3 a4 a5 ((ol + tt) % 4) = a4 0 := by rw [c7]; rfl
      rw [ea]
      refine lv_astore_n (lv' := [(2, .ref (a4 0)), (0, .ref a0), (1, .ref (o_a 0))]) hx hb dX1_remember_38 rfl hl (by decide) rfl (fun ls hl => ?_)
      refine lv_aload_n hx hb dX1_remember_39 rfl (lv_at hl 0 rfl) ?_
      refine lv_ifnull hx hb dX1_remember_40 ?_
      refine lv_aload_n hx hb dX1_remember_43 rfl (lv_at hl 0 rfl) ?_
      refine lv_aload_n hx hb dX1_remember_44 rfl (lv_at hl 2 rfl) ?_
      obtain ⟨b25, h26⟩ := h24
      refine zq_vv (As := [.ref (o_a 0)]) (rest := []) (L := [W1h G a0 a1 a2 a3 a4 a5 ol tt, W5 G a2 s0, W5 G a3 s1, W5 G a4 s2, W5 G a5 s3, W5 G o_a o_s]) (LC := [W5 G a4 s2, W5 G o_a o_s]) (LR := [W1h G a0 a1 a2 a3 a4 a5 ol tt, W5 G a2 s0, W5 G a3 s1, W5 G a5 s3]) (LC1 := fun (u_28 : Unit) => [W5 G a4 o_s, W5 G o_a o_s]) (L2 := fun (u_28 : Unit) => [W1h G a0 a1 a2 a3 a4 a5 ol tt, W5 G a2 s0, W5 G a3 s1, W5 G a4 o_s, W5 G a5 s3, W5 G o_a o_s]) (c_X5_copyFrom l G a4 o_a s2 o_s r_s2 r_o_s b25) ⟨hx, hb, hml, hown, hts⟩ (cwV 1 hts gX1_remember_X5_copyFrom rfl rfl rfl hdX5_copyFrom ⟨Nat.le_of_ble_eq_true rfl, Nat.le_of_ble_eq_true rfl⟩) hK hP hD hS hA rfl rfl [3, 5] [0, 1, 2, 4] [2, 3, 4, 0, 5, 1] rfl rfl 6 rfl (by decide) (fun _ => rfl) (fun _ => rfl) (by decide) rfl hl.1 rfl (Nat.le_of_ble_eq_true rfl) dX1_remember_45 ⟨Nat.zero_le _, Nat.zero_le _⟩ (fun u_28 H locs hw hP hD hS => ?_)
      have r27 := hw
      have hP : va_P G.1 vwCl (flt [W1h G a0 a1 a2 a3 a4 a5 ol tt, W5 G a2 s0, W5 G a3 s1, W5 G a4 o_s, W5 G a5 s3, W5 G o_a o_s]) H := hP
      have hD : va_D A (flt [W1h G a0 a1 a2 a3 a4 a5 ol tt, W5 G a2 s0, W5 G a3 s1, W5 G a4 o_s, W5 G a5 s3, W5 G o_a o_s]) := hD
      refine lv_aload_n hx hb dX1_remember_48 rfl (lv_at hl 1 rfl) ?_
      refine lv_dup hx hb dX1_remember_49 rfl ?_
      refine va_get (v := .int (iI tt)) (ci := 1) (C := RX1) (T := TX1) (N := 3) hx hb hts imX1_remember_X1 hown hK hP 0 rfl rfl 2 (by decide) k1 (fun _ h9 => h9) rfl dX1_remember_50 ?_
      refine lv_iconst (v := iI 1) hx hb dX1_remember_53 rfl ?_
      refine zr_iadd (x := tt) (y := 1) hx hb dX1_remember_54 ?_
      obtain ⟨r30, h31⟩ := h26
      refine va_put (v := .int (iI (tt + 1))) (ty := .int) (ci := 1) (C := RX1) (T := TX1) (N := 3) hx hb hts imX1_remember_X1 tyX1 tyX1_ok nmX1 hown hK hP hD hS 0 rfl rfl 2 (by decide) k1 (fun _ h9 => h9) rfl (tyX1_ok 2 (by decide)) rfl rfl (Nat.le_of_ble_eq_true rfl) dX1_remember_55 (fun H locs hP hD hS => ?_)
      have hP : va_P G.1 vwCl (flt [W1h G a0 a1 a2 a3 a4 a5 ol (tt + 1), W5 G a2 s0, W5 G a3 s1, W5 G a4 o_s, W5 G a5 s3, W5 G o_a o_s]) H := hP
      have hD : va_D A (flt [W1h G a0 a1 a2 a3 a4 a5 ol (tt + 1), W5 G a2 s0, W5 G a3 s1, W5 G a4 o_s, W5 G a5 s3, W5 G o_a o_s]) := hD
      exact zr_vret hx hb hr hlocks hK ((ol, tt + 1, s0, s1, o_s, s3)) hP hD hS dX1_remember_58 ⟨r_ol, r30, r_s0, r_s1, r27, r_s3, h31⟩
    · have h32 := h6.2.2.2 c7
      have ea : adS a2 a3 a4 a5 ((ol + tt) % 4) = a5 0 := by rw [c7]; rfl
      rw [ea]
      refine lv_astore_n (lv' := [(2, .ref (a5 0)), (0, .ref a0), (1, .ref (o_a 0))]) hx hb dX1_remember_38 rfl hl (by decide) rfl (fun ls hl => ?_)
      refine lv_aload_n hx hb dX1_remember_39 rfl (lv_at hl 0 rfl) ?_
      refine lv_ifnull hx hb dX1_remember_40 ?_
      refine lv_aload_n hx hb dX1_remember_43 rfl (lv_at hl 0 rfl) ?_
      refine lv_aload_n hx hb dX1_remember_44 rfl (lv_at hl 2 rfl) ?_
      obtain ⟨b33, h34⟩ := h32
      refine zq_vv (As := [.ref (o_a 0)]) (rest := []) (L := [W1h G a0 a1 a2 a3 a4 a5 ol tt, W5 G a2 s0, W5 G a3 s1, W5 G a4 s2, W5 G a5 s3, W5 G o_a o_s]) (LC := [W5 G a5 s3, W5 G o_a o_s]) (LR := [W1h G a0 a1 a2 a3 a4 a5 ol tt, W5 G a2 s0, W5 G a3 s1, W5 G a4 s2]) (LC1 := fun (u_36 : Unit) => [W5 G a5 o_s, W5 G o_a o_s]) (L2 := fun (u_36 : Unit) => [W1h G a0 a1 a2 a3 a4 a5 ol tt, W5 G a2 s0, W5 G a3 s1, W5 G a4 s2, W5 G a5 o_s, W5 G o_a o_s]) (c_X5_copyFrom l G a5 o_a s3 o_s r_s3 r_o_s b33) ⟨hx, hb, hml, hown, hts⟩ (cwV 1 hts gX1_remember_X5_copyFrom rfl rfl rfl hdX5_copyFrom ⟨Nat.le_of_ble_eq_true rfl, Nat.le_of_ble_eq_true rfl⟩) hK hP hD hS hA rfl rfl [4, 5] [0, 1, 2, 3] [2, 3, 4, 5, 0, 1] rfl rfl 6 rfl (by decide) (fun _ => rfl) (fun _ => rfl) (by decide) rfl hl.1 rfl (Nat.le_of_ble_eq_true rfl) dX1_remember_45 ⟨Nat.zero_le _, Nat.zero_le _⟩ (fun u_36 H locs hw hP hD hS => ?_)
      have r35 := hw
      have hP : va_P G.1 vwCl (flt [W1h G a0 a1 a2 a3 a4 a5 ol tt, W5 G a2 s0, W5 G a3 s1, W5 G a4 s2, W5 G a5 o_s, W5 G o_a o_s]) H := hP
      have hD : va_D A (flt [W1h G a0 a1 a2 a3 a4 a5 ol tt, W5 G a2 s0, W5 G a3 s1, W5 G a4 s2, W5 G a5 o_s, W5 G o_a o_s]) := hD
      refine lv_aload_n hx hb dX1_remember_48 rfl (lv_at hl 1 rfl) ?_
      refine lv_dup hx hb dX1_remember_49 rfl ?_
      refine va_get (v := .int (iI tt)) (ci := 1) (C := RX1) (T := TX1) (N := 3) hx hb hts imX1_remember_X1 hown hK hP 0 rfl rfl 2 (by decide) k1 (fun _ h9 => h9) rfl dX1_remember_50 ?_
      refine lv_iconst (v := iI 1) hx hb dX1_remember_53 rfl ?_
      refine zr_iadd (x := tt) (y := 1) hx hb dX1_remember_54 ?_
      obtain ⟨r38, h39⟩ := h34
      refine va_put (v := .int (iI (tt + 1))) (ty := .int) (ci := 1) (C := RX1) (T := TX1) (N := 3) hx hb hts imX1_remember_X1 tyX1 tyX1_ok nmX1 hown hK hP hD hS 0 rfl rfl 2 (by decide) k1 (fun _ h9 => h9) rfl (tyX1_ok 2 (by decide)) rfl rfl (Nat.le_of_ble_eq_true rfl) dX1_remember_55 (fun H locs hP hD hS => ?_)
      have hP : va_P G.1 vwCl (flt [W1h G a0 a1 a2 a3 a4 a5 ol (tt + 1), W5 G a2 s0, W5 G a3 s1, W5 G a4 s2, W5 G a5 o_s, W5 G o_a o_s]) H := hP
      have hD : va_D A (flt [W1h G a0 a1 a2 a3 a4 a5 ol (tt + 1), W5 G a2 s0, W5 G a3 s1, W5 G a4 s2, W5 G a5 o_s, W5 G o_a o_s]) := hD
      exact zr_vret hx hb hr hlocks hK ((ol, tt + 1, s0, s1, s2, o_s)) hP hD hS dX1_remember_58 ⟨r_ol, r38, r_s0, r_s1, r_s2, r35, h39⟩
  · have h40 := hwp.1 c1
    refine lv_aload_n hx hb dX1_remember_8 rfl (lv_at hl 0 rfl) ?_
    refine lv_aload_n hx hb dX1_remember_9 rfl (lv_at hl 0 rfl) ?_
    refine va_get (v := .int (iI ol)) (ci := 1) (C := RX1) (T := TX1) (N := 3) hx hb hts imX1_remember_X1 hown hK hP 0 rfl rfl 1 (by decide) k2 (fun _ h9 => h9) rfl dX1_remember_10 ?_
    refine lv_iconst (v := iI 1) hx hb dX1_remember_13 rfl ?_
    refine zr_iadd (x := ol) (y := 1) hx hb dX1_remember_14 ?_
    obtain ⟨r41, h42⟩ := h40
    refine lv_iconst (v := iI 4) hx hb dX1_remember_15 rfl ?_
    obtain ⟨r43, h44⟩ := h42
    refine zr_irem (x := ol + 1) (y := 4) hx hb r41 (by decide) (by decide) r43 dX1_remember_16 ?_
    refine va_put (v := .int (iI ((ol + 1) % 4))) (ty := .int) (ci := 1) (C := RX1) (T := TX1) (N := 3) hx hb hts imX1_remember_X1 tyX1 tyX1_ok nmX1 hown hK hP hD hS 0 rfl rfl 1 (by decide) k2 (fun _ h9 => h9) rfl (tyX1_ok 1 (by decide)) rfl rfl (Nat.le_of_ble_eq_true rfl) dX1_remember_17 (fun H locs hP hD hS => ?_)
    have hP : va_P G.1 vwCl (flt [W1h G a0 a1 a2 a3 a4 a5 ((ol + 1) % 4) tt, W5 G a2 s0, W5 G a3 s1, W5 G a4 s2, W5 G a5 s3, W5 G o_a o_s]) H := hP
    have hD : va_D A (flt [W1h G a0 a1 a2 a3 a4 a5 ((ol + 1) % 4) tt, W5 G a2 s0, W5 G a3 s1, W5 G a4 s2, W5 G a5 s3, W5 G o_a o_s]) := hD
    refine lv_aload_n hx hb dX1_remember_20 rfl (lv_at hl 0 rfl) ?_
    refine lv_dup hx hb dX1_remember_21 rfl ?_
    refine va_get (v := .int (iI tt)) (ci := 1) (C := RX1) (T := TX1) (N := 3) hx hb hts imX1_remember_X1 hown hK hP 0 rfl rfl 2 (by decide) k1 (fun _ h9 => h9) rfl dX1_remember_22 ?_
    refine lv_iconst (v := iI 1) hx hb dX1_remember_25 rfl ?_
    refine zr_isub (x := tt) (y := 1) hx hb dX1_remember_26 ?_
    obtain ⟨r45, h46⟩ := h44
    refine va_put (v := .int (iI (tt - 1))) (ty := .int) (ci := 1) (C := RX1) (T := TX1) (N := 3) hx hb hts imX1_remember_X1 tyX1 tyX1_ok nmX1 hown hK hP hD hS 0 rfl rfl 2 (by decide) k1 (fun _ h9 => h9) rfl (tyX1_ok 2 (by decide)) rfl rfl (Nat.le_of_ble_eq_true rfl) dX1_remember_27 (fun H locs hP hD hS => ?_)
    have hP : va_P G.1 vwCl (flt [W1h G a0 a1 a2 a3 a4 a5 ((ol + 1) % 4) (tt - 1), W5 G a2 s0, W5 G a3 s1, W5 G a4 s2, W5 G a5 s3, W5 G o_a o_s]) H := hP
    have hD : va_D A (flt [W1h G a0 a1 a2 a3 a4 a5 ((ol + 1) % 4) (tt - 1), W5 G a2 s0, W5 G a3 s1, W5 G a4 s2, W5 G a5 s3, W5 G o_a o_s]) := hD
    refine lv_aload_n hx hb dX1_remember_30 rfl (lv_at hl 0 rfl) ?_
    refine lv_aload_n hx hb dX1_remember_31 rfl (lv_at hl 0 rfl) ?_
    refine va_get (v := .int (iI (tt - 1))) (ci := 1) (C := RX1) (T := TX1) (N := 3) hx hb hts imX1_remember_X1 hown hK hP 0 rfl rfl 2 (by decide) k1 (fun _ h9 => h9) rfl dX1_remember_32 ?_
    obtain ⟨b47, h48⟩ := h46
    refine zq_vrR (As := [.int (iI (tt - 1))]) (rest := []) (c_X1_stateAt l G a0 a1 a2 a3 a4 a5 ((ol + 1) % 4) (tt - 1) (tt - 1) (rg_mod r41 r43 (by decide)) r45 b47) ⟨hx, hb, hml, hown, hts⟩ (cwV 1 hts gX1_remember_X1_stateAt rfl rfl rfl hdX1_stateAt ⟨Nat.le_of_ble_eq_true rfl, Nat.le_of_ble_eq_true rfl⟩) hK hP hD hS hA rfl rfl [0, 1] rfl rfl rfl hl.1 rfl (Nat.le_of_ble_eq_true rfl) dX1_remember_35 ⟨Nat.zero_le _, Nat.zero_le _⟩ (fun H locs hP hD hS => ?_)
    have hP : va_P G.1 vwCl (flt [W1h G a0 a1 a2 a3 a4 a5 ((ol + 1) % 4) (tt - 1), W5 G a2 s0, W5 G a3 s1, W5 G a4 s2, W5 G a5 s3, W5 G o_a o_s]) H := hP
    have hD : va_D A (flt [W1h G a0 a1 a2 a3 a4 a5 ((ol + 1) % 4) (tt - 1), W5 G a2 s0, W5 G a3 s1, W5 G a4 s2, W5 G a5 s3, W5 G o_a o_s]) := hD
    rcases (show ((((ol + 1) % 4) + (tt - 1)) % 4) = 0 ∨ ((((ol + 1) % 4) + (tt - 1)) % 4) = 1 ∨ ((((ol + 1) % 4) + (tt - 1)) % 4) = 2 ∨ ((((ol + 1) % 4) + (tt - 1)) % 4) = 3 by omega) with c49 | c49 | c49 | c49
    · have h50 := h48.1 c49
      have ea : adS a2 a3 a4 a5 ((((ol + 1) % 4) + (tt - 1)) % 4) = a2 0 := by rw [c49]; rfl
      rw [ea]
      refine lv_astore_n (lv' := [(2, .ref (a2 0)), (0, .ref a0), (1, .ref (o_a 0))]) hx hb dX1_remember_38 rfl hl (by decide) rfl (fun ls hl => ?_)
      refine lv_aload_n hx hb dX1_remember_39 rfl (lv_at hl 0 rfl) ?_
      refine lv_ifnull hx hb dX1_remember_40 ?_
      refine lv_aload_n hx hb dX1_remember_43 rfl (lv_at hl 0 rfl) ?_
      refine lv_aload_n hx hb dX1_remember_44 rfl (lv_at hl 2 rfl) ?_
      obtain ⟨b51, h52⟩ := h50
      refine zq_vv (As := [.ref (o_a 0)]) (rest := []) (L := [W1h G a0 a1 a2 a3 a4 a5 ((ol + 1) % 4) (tt - 1), W5 G a2 s0, W5 G a3 s1, W5 G a4 s2, W5 G a5 s3, W5 G o_a o_s]) (LC := [W5 G a2 s0, W5 G o_a o_s]) (LR := [W1h G a0 a1 a2 a3 a4 a5 ((ol + 1) % 4) (tt - 1), W5 G a3 s1, W5 G a4 s2, W5 G a5 s3]) (LC1 := fun (u_54 : Unit) => [W5 G a2 o_s, W5 G o_a o_s]) (L2 := fun (u_54 : Unit) => [W1h G a0 a1 a2 a3 a4 a5 ((ol + 1) % 4) (tt - 1), W5 G a2 o_s, W5 G a3 s1, W5 G a4 s2, W5 G a5 s3, W5 G o_a o_s]) (c_X5_copyFrom l G a2 o_a s0 o_s r_s0 r_o_s b51) ⟨hx, hb, hml, hown, hts⟩ (cwV 1 hts gX1_remember_X5_copyFrom rfl rfl rfl hdX5_copyFrom ⟨Nat.le_of_ble_eq_true rfl, Nat.le_of_ble_eq_true rfl⟩) hK hP hD hS hA rfl rfl [1, 5] [0, 2, 3, 4] [2, 0, 3, 4, 5, 1] rfl rfl 6 rfl (by decide) (fun _ => rfl) (fun _ => rfl) (by decide) rfl hl.1 rfl (Nat.le_of_ble_eq_true rfl) dX1_remember_45 ⟨Nat.zero_le _, Nat.zero_le _⟩ (fun u_54 H locs hw hP hD hS => ?_)
      have r53 := hw
      have hP : va_P G.1 vwCl (flt [W1h G a0 a1 a2 a3 a4 a5 ((ol + 1) % 4) (tt - 1), W5 G a2 o_s, W5 G a3 s1, W5 G a4 s2, W5 G a5 s3, W5 G o_a o_s]) H := hP
      have hD : va_D A (flt [W1h G a0 a1 a2 a3 a4 a5 ((ol + 1) % 4) (tt - 1), W5 G a2 o_s, W5 G a3 s1, W5 G a4 s2, W5 G a5 s3, W5 G o_a o_s]) := hD
      refine lv_aload_n hx hb dX1_remember_48 rfl (lv_at hl 1 rfl) ?_
      refine lv_dup hx hb dX1_remember_49 rfl ?_
      refine va_get (v := .int (iI (tt - 1))) (ci := 1) (C := RX1) (T := TX1) (N := 3) hx hb hts imX1_remember_X1 hown hK hP 0 rfl rfl 2 (by decide) k1 (fun _ h9 => h9) rfl dX1_remember_50 ?_
      refine lv_iconst (v := iI 1) hx hb dX1_remember_53 rfl ?_
      refine zr_iadd (x := tt - 1) (y := 1) hx hb dX1_remember_54 ?_
      obtain ⟨r56, h57⟩ := h52
      refine va_put (v := .int (iI ((tt - 1) + 1))) (ty := .int) (ci := 1) (C := RX1) (T := TX1) (N := 3) hx hb hts imX1_remember_X1 tyX1 tyX1_ok nmX1 hown hK hP hD hS 0 rfl rfl 2 (by decide) k1 (fun _ h9 => h9) rfl (tyX1_ok 2 (by decide)) rfl rfl (Nat.le_of_ble_eq_true rfl) dX1_remember_55 (fun H locs hP hD hS => ?_)
      have hP : va_P G.1 vwCl (flt [W1h G a0 a1 a2 a3 a4 a5 ((ol + 1) % 4) ((tt - 1) + 1), W5 G a2 o_s, W5 G a3 s1, W5 G a4 s2, W5 G a5 s3, W5 G o_a o_s]) H := hP
      have hD : va_D A (flt [W1h G a0 a1 a2 a3 a4 a5 ((ol + 1) % 4) ((tt - 1) + 1), W5 G a2 o_s, W5 G a3 s1, W5 G a4 s2, W5 G a5 s3, W5 G o_a o_s]) := hD
      exact zr_vret hx hb hr hlocks hK (((ol + 1) % 4, (tt - 1) + 1, o_s, s1, s2, s3)) hP hD hS dX1_remember_58 ⟨(rg_mod r41 r43 (by decide)), r56, r53, r_s1, r_s2, r_s3, h57⟩
    · have h58 := h48.2.1 c49
      have ea : adS a2 a3 a4 a5 ((((ol + 1) % 4) + (tt - 1)) % 4) = a3 0 := by rw [c49]; rfl
      rw [ea]
      refine lv_astore_n (lv' := [(2, .ref (a3 0)), (0, .ref a0), (1, .ref (o_a 0))]) hx hb dX1_remember_38 rfl hl (by decide) rfl (fun ls hl => ?_)
      refine lv_aload_n hx hb dX1_remember_39 rfl (lv_at hl 0 rfl) ?_
      refine lv_ifnull hx hb dX1_remember_40 ?_
      refine lv_aload_n hx hb dX1_remember_43 rfl (lv_at hl 0 rfl) ?_
      refine lv_aload_n hx hb dX1_remember_44 rfl (lv_at hl 2 rfl) ?_
      obtain ⟨b59, h60⟩ := h58
      refine zq_vv (As := [.ref (o_a 0)]) (rest := []) (L := [W1h G a0 a1 a2 a3 a4 a5 ((ol + 1) % 4) (tt - 1), W5 G a2 s0, W5 G a3 s1, W5 G a4 s2, W5 G a5 s3, W5 G o_a o_s]) (LC := [W5 G a3 s1, W5 G o_a o_s]) (LR := [W1h G a0 a1 a2 a3 a4 a5 ((ol + 1) % 4) (tt - 1), W5 G a2 s0, W5 G a4 s2, W5 G a5 s3]) (LC1 := fun (u_62 : Unit) => [W5 G a3 o_s, W5 G o_a o_s]) (L2 := fun (u_62 : Unit) => [W1h G a0 a1 a2 a3 a4 a5 ((ol + 1) % 4) (tt - 1), W5 G a2 s0, W5 G a3 o_s, W5 G a4 s2, W5 G a5 s3, W5 G o_a o_s]) (c_X5_copyFrom l G a3 o_a s1 o_s r_s1 r_o_s b59) ⟨hx, hb, hml, hown, hts⟩ (cwV 1 hts gX1_remember_X5_copyFrom rfl rfl rfl hdX5_copyFrom ⟨Nat.le_of_ble_eq_true rfl, Nat.le_of_ble_eq_true rfl⟩) hK hP hD hS hA rfl rfl [2, 5] [0, 1, 3, 4] [2, 3, 0, 4, 5, 1] rfl rfl 6 rfl (by decide) (fun _ => rfl) (fun _ => rfl) (by decide) rfl hl.1 rfl (Nat.le_of_ble_eq_true rfl) dX1_remember_45 ⟨Nat.zero_le _, Nat.zero_le _⟩ (fun u_62 H locs hw hP hD hS => ?_)
      have r61 := hw
      have hP : va_P G.1 vwCl (flt [W1h G a0 a1 a2 a3 a4 a5 ((ol + 1) % 4) (tt - 1), W5 G a2 s0, W5 G a3 o_s, W5 G a4 s2, W5 G a5 s3, W5 G o_a o_s]) H := hP
      have hD : va_D A (flt [W1h G a0 a1 a2 a3 a4 a5 ((ol + 1) % 4) (tt - 1), W5 G a2 s0, W5 G a3 o_s, W5 G a4 s2, W5 G a5 s3, W5 G o_a o_s]) := hD
      refine lv_aload_n hx hb dX1_remember_48 rfl (lv_at hl 1 rfl) ?_
      refine lv_dup hx hb dX1_remember_49 rfl ?_
      refine va_get (v := .int (iI (tt - 1))) (ci := 1) (C := RX1) (T := TX1) (N := 3) hx hb hts imX1_remember_X1 hown hK hP 0 rfl rfl 2 (by decide) k1 (fun _ h9 => h9) rfl dX1_remember_50 ?_
      refine lv_iconst (v := iI 1) hx hb dX1_remember_53 rfl ?_
      refine zr_iadd (x := tt - 1) (y := 1) hx hb dX1_remember_54 ?_
      obtain ⟨r64, h65⟩ := h60
      refine va_put (v := .int (iI ((tt - 1) + 1))) (ty := .int) (ci := 1) (C := RX1) (T := TX1) (N := 3) hx hb hts imX1_remember_X1 tyX1 tyX1_ok nmX1 hown hK hP hD hS 0 rfl rfl 2 (by decide) k1 (fun _ h9 => h9) rfl (tyX1_ok 2 (by decide)) rfl rfl (Nat.le_of_ble_eq_true rfl) dX1_remember_55 (fun H locs hP hD hS => ?_)
      have hP : va_P G.1 vwCl (flt [W1h G a0 a1 a2 a3 a4 a5 ((ol + 1) % 4) ((tt - 1) + 1), W5 G a2 s0, W5 G a3 o_s, W5 G a4 s2, W5 G a5 s3, W5 G o_a o_s]) H := hP
      have hD : va_D A (flt [W1h G a0 a1 a2 a3 a4 a5 ((ol + 1) % 4) ((tt - 1) + 1), W5 G a2 s0, W5 G a3 o_s, W5 G a4 s2, W5 G a5 s3, W5 G o_a o_s]) := hD
      exact zr_vret hx hb hr hlocks hK (((ol + 1) % 4, (tt - 1) + 1, s0, o_s, s2, s3)) hP hD hS dX1_remember_58 ⟨(rg_mod r41 r43 (by decide)), r64, r_s0, r61, r_s2, r_s3, h65⟩
    · have h66 := h48.2.2.1 c49
      have ea : adS a2 a3 a4 a5 ((((ol + 1) % 4) + (tt - 1)) % 4) = a4 0 := by rw [c49]; rfl
      rw [ea]
      refine lv_astore_n (lv' := [(2, .ref (a4 0)), (0, .ref a0), (1, .ref (o_a 0))]) hx hb dX1_remember_38 rfl hl (by decide) rfl (fun ls hl => ?_)
      refine lv_aload_n hx hb dX1_remember_39 rfl (lv_at hl 0 rfl) ?_
      refine lv_ifnull hx hb dX1_remember_40 ?_
      refine lv_aload_n hx hb dX1_remember_43 rfl (lv_at hl 0 rfl) ?_
      refine lv_aload_n hx hb dX1_remember_44 rfl (lv_at hl 2 rfl) ?_
      obtain ⟨b67, h68⟩ := h66
      refine zq_vv (As := [.ref (o_a 0)]) (rest := []) (L := [W1h G a0 a1 a2 a3 a4 a5 ((ol + 1) % 4) (tt - 1), W5 G a2 s0, W5 G a3 s1, W5 G a4 s2, W5 G a5 s3, W5 G o_a o_s]) (LC := [W5 G a4 s2, W5 G o_a o_s]) (LR := [W1h G a0 a1 a2 a3 a4 a5 ((ol + 1) % 4) (tt - 1), W5 G a2 s0, W5 G a3 s1, W5 G a5 s3]) (LC1 := fun (u_70 : Unit) => [W5 G a4 o_s, W5 G o_a o_s]) (L2 := fun (u_70 : Unit) => [W1h G a0 a1 a2 a3 a4 a5 ((ol + 1) % 4) (tt - 1), W5 G a2 s0, W5 G a3 s1, W5 G a4 o_s, W5 G a5 s3, W5 G o_a o_s]) (c_X5_copyFrom l G a4 o_a s2 o_s r_s2 r_o_s b67) ⟨hx, hb, hml, hown, hts⟩ (cwV 1 hts gX1_remember_X5_copyFrom rfl rfl rfl hdX5_copyFrom ⟨Nat.le_of_ble_eq_true rfl, Nat.le_of_ble_eq_true rfl⟩) hK hP hD hS hA rfl rfl [3, 5] [0, 1, 2, 4] [2, 3, 4, 0, 5, 1] rfl rfl 6 rfl (by decide) (fun _ => rfl) (fun _ => rfl) (by decide) rfl hl.1 rfl (Nat.le_of_ble_eq_true rfl) dX1_remember_45 ⟨Nat.zero_le _, Nat.zero_le _⟩ (fun u_70 H locs hw hP hD hS => ?_)
      have r69 := hw
      have hP : va_P G.1 vwCl (flt [W1h G a0 a1 a2 a3 a4 a5 ((ol + 1) % 4) (tt - 1), W5 G a2 s0, W5 G a3 s1, W5 G a4 o_s, W5 G a5 s3, W5 G o_a o_s]) H := hP
      have hD : va_D A (flt [W1h G a0 a1 a2 a3 a4 a5 ((ol + 1) % 4) (tt - 1), W5 G a2 s0, W5 G a3 s1, W5 G a4 o_s, W5 G a5 s3, W5 G o_a o_s]) := hD
      refine lv_aload_n hx hb dX1_remember_48 rfl (lv_at hl 1 rfl) ?_
      refine lv_dup hx hb dX1_remember_49 rfl ?_
      refine va_get (v := .int (iI (tt - 1))) (ci := 1) (C := RX1) (T := TX1) (N := 3) hx hb hts imX1_remember_X1 hown hK hP 0 rfl rfl 2 (by decide) k1 (fun _ h9 => h9) rfl dX1_remember_50 ?_
      refine lv_iconst (v := iI 1) hx hb dX1_remember_53 rfl ?_
      refine zr_iadd (x := tt - 1) (y := 1) hx hb dX1_remember_54 ?_
      obtain ⟨r72, h73⟩ := h68
      refine va_put (v := .int (iI ((tt - 1) + 1))) (ty := .int) (ci := 1) (C := RX1) (T := TX1) (N := 3) hx hb hts imX1_remember_X1 tyX1 tyX1_ok nmX1 hown hK hP hD hS 0 rfl rfl 2 (by decide) k1 (fun _ h9 => h9) rfl (tyX1_ok 2 (by decide)) rfl rfl (Nat.le_of_ble_eq_true rfl) dX1_remember_55 (fun H locs hP hD hS => ?_)
      have hP : va_P G.1 vwCl (flt [W1h G a0 a1 a2 a3 a4 a5 ((ol + 1) % 4) ((tt - 1) + 1), W5 G a2 s0, W5 G a3 s1, W5 G a4 o_s, W5 G a5 s3, W5 G o_a o_s]) H := hP
      have hD : va_D A (flt [W1h G a0 a1 a2 a3 a4 a5 ((ol + 1) % 4) ((tt - 1) + 1), W5 G a2 s0, W5 G a3 s1, W5 G a4 o_s, W5 G a5 s3, W5 G o_a o_s]) := hD
      exact zr_vret hx hb hr hlocks hK (((ol + 1) % 4, (tt - 1) + 1, s0, s1, o_s, s3)) hP hD hS dX1_remember_58 ⟨(rg_mod r41 r43 (by decide)), r72, r_s0, r_s1, r69, r_s3, h73⟩
    · have h74 := h48.2.2.2 c49
      have ea : adS a2 a3 a4 a5 ((((ol + 1) % 4) + (tt - 1)) % 4) = a5 0 := by rw [c49]; rfl
      rw [ea]
      refine lv_astore_n (lv' := [(2, .ref (a5 0)), (0, .ref a0), (1, .ref (o_a 0))]) hx hb dX1_remember_38 rfl hl (by decide) rfl (fun ls hl => ?_)
      refine lv_aload_n hx hb dX1_remember_39 rfl (lv_at hl 0 rfl) ?_
      refine lv_ifnull hx hb dX1_remember_40 ?_
      refine lv_aload_n hx hb dX1_remember_43 rfl (lv_at hl 0 rfl) ?_
      refine lv_aload_n hx hb dX1_remember_44 rfl (lv_at hl 2 rfl) ?_
      obtain ⟨b75, h76⟩ := h74
      refine zq_vv (As := [.ref (o_a 0)]) (rest := []) (L := [W1h G a0 a1 a2 a3 a4 a5 ((ol + 1) % 4) (tt - 1), W5 G a2 s0, W5 G a3 s1, W5 G a4 s2, W5 G a5 s3, W5 G o_a o_s]) (LC := [W5 G a5 s3, W5 G o_a o_s]) (LR := [W1h G a0 a1 a2 a3 a4 a5 ((ol + 1) % 4) (tt - 1), W5 G a2 s0, W5 G a3 s1, W5 G a4 s2]) (LC1 := fun (u_78 : Unit) => [W5 G a5 o_s, W5 G o_a o_s]) (L2 := fun (u_78 : Unit) => [W1h G a0 a1 a2 a3 a4 a5 ((ol + 1) % 4) (tt - 1), W5 G a2 s0, W5 G a3 s1, W5 G a4 s2, W5 G a5 o_s, W5 G o_a o_s]) (c_X5_copyFrom l G a5 o_a s3 o_s r_s3 r_o_s b75) ⟨hx, hb, hml, hown, hts⟩ (cwV 1 hts gX1_remember_X5_copyFrom rfl rfl rfl hdX5_copyFrom ⟨Nat.le_of_ble_eq_true rfl, Nat.le_of_ble_eq_true rfl⟩) hK hP hD hS hA rfl rfl [4, 5] [0, 1, 2, 3] [2, 3, 4, 5, 0, 1] rfl rfl 6 rfl (by decide) (fun _ => rfl) (fun _ => rfl) (by decide) rfl hl.1 rfl (Nat.le_of_ble_eq_true rfl) dX1_remember_45 ⟨Nat.zero_le _, Nat.zero_le _⟩ (fun u_78 H locs hw hP hD hS => ?_)
      have r77 := hw
      have hP : va_P G.1 vwCl (flt [W1h G a0 a1 a2 a3 a4 a5 ((ol + 1) % 4) (tt - 1), W5 G a2 s0, W5 G a3 s1, W5 G a4 s2, W5 G a5 o_s, W5 G o_a o_s]) H := hP
      have hD : va_D A (flt [W1h G a0 a1 a2 a3 a4 a5 ((ol + 1) % 4) (tt - 1), W5 G a2 s0, W5 G a3 s1, W5 G a4 s2, W5 G a5 o_s, W5 G o_a o_s]) := hD
      refine lv_aload_n hx hb dX1_remember_48 rfl (lv_at hl 1 rfl) ?_
      refine lv_dup hx hb dX1_remember_49 rfl ?_
      refine va_get (v := .int (iI (tt - 1))) (ci := 1) (C := RX1) (T := TX1) (N := 3) hx hb hts imX1_remember_X1 hown hK hP 0 rfl rfl 2 (by decide) k1 (fun _ h9 => h9) rfl dX1_remember_50 ?_
      refine lv_iconst (v := iI 1) hx hb dX1_remember_53 rfl ?_
      refine zr_iadd (x := tt - 1) (y := 1) hx hb dX1_remember_54 ?_
      obtain ⟨r80, h81⟩ := h76
      refine va_put (v := .int (iI ((tt - 1) + 1))) (ty := .int) (ci := 1) (C := RX1) (T := TX1) (N := 3) hx hb hts imX1_remember_X1 tyX1 tyX1_ok nmX1 hown hK hP hD hS 0 rfl rfl 2 (by decide) k1 (fun _ h9 => h9) rfl (tyX1_ok 2 (by decide)) rfl rfl (Nat.le_of_ble_eq_true rfl) dX1_remember_55 (fun H locs hP hD hS => ?_)
      have hP : va_P G.1 vwCl (flt [W1h G a0 a1 a2 a3 a4 a5 ((ol + 1) % 4) ((tt - 1) + 1), W5 G a2 s0, W5 G a3 s1, W5 G a4 s2, W5 G a5 o_s, W5 G o_a o_s]) H := hP
      have hD : va_D A (flt [W1h G a0 a1 a2 a3 a4 a5 ((ol + 1) % 4) ((tt - 1) + 1), W5 G a2 s0, W5 G a3 s1, W5 G a4 s2, W5 G a5 o_s, W5 G o_a o_s]) := hD
      exact zr_vret hx hb hr hlocks hK (((ol + 1) % 4, (tt - 1) + 1, s0, s1, s2, o_s)) hP hD hS dX1_remember_58 ⟨(rg_mod r41 r43 (by decide)), r80, r_s0, r_s1, r_s2, r77, h81⟩
theorem c_X1_remember (l : Launch) (G : ZG) (a0 : Nat) (a1 : Nat) (a2 : Nat → Nat) (a3 : Nat → Nat) (a4 : Nat → Nat) (a5 : Nat → Nat) (o_a : Nat → Nat) (ol : Int) (tt : Int) (s0 : SS) (s1 : SS) (s2 : SS) (s3 : SS) (o_s : SS)   (r_ol : rg ol) (r_tt : rg tt) (r_s0 : RG s0) (r_s1 : RG s1) (r_s2 : RG s2) (r_s3 : RG s3) (r_o_s : RG o_s)  (p0 : 0 ≤ ol ∧ ol < 4 ∧ 0 ≤ tt ∧ tt ≤ 4) (p1 : B01 o_s) : ZV l G yX1_remember wsX1_remember 3 82 [.ref a0, .ref (o_a 0)] (flt [W1h G a0 a1 a2 a3 a4 a5 ol tt, W5 G a2 s0, W5 G a3 s1, W5 G a4 s2, W5 G a5 s3, W5 G o_a o_s]) (fun _ : Unit => flt [W1h G a0 a1 a2 a3 a4 a5 (rmO ol tt) (recN tt + 1), W5 G a2 (rmS 0 ol tt o_s s0), W5 G a3 (rmS 1 ol tt o_s s1), W5 G a4 (rmS 2 ol tt o_s s2), W5 G a5 (rmS 3 ol tt o_s s3), W5 G o_a o_s]) (fun (_ : Unit) => rg (rmO ol tt) ∧ rg (recN tt + 1) ∧ RG (rmS 0 ol tt o_s s0) ∧ RG (rmS 1 ol tt o_s s1) ∧ RG (rmS 2 ol tt o_s s2) ∧ RG (rmS 3 ol tt o_s s3)) := by
  refine ZV.fn (w1 := fun u : Int × Int × SS × SS × SS × SS => flt [W1h G a0 a1 a2 a3 a4 a5 u.1 u.2.1, W5 G a2 u.2.2.1, W5 G a3 u.2.2.2.1, W5 G a4 u.2.2.2.2.1, W5 G a5 u.2.2.2.2.2, W5 G o_a o_s]) (fun  u hq => ?_) (c0_X1_remember l G a0 a1 a2 a3 a4 a5 o_a ol tt s0 s1 s2 s3 o_s (fun o0 o1 o2 o3 o4 o5 => o0 = (rmO ol tt) ∧ o1 = (recN tt + 1) ∧ o2 = (rmS 0 ol tt o_s s0) ∧ o3 = (rmS 1 ol tt o_s s1) ∧ o4 = (rmS 2 ol tt o_s s2) ∧ o5 = (rmS 3 ol tt o_s s3)) r_ol r_tt r_s0 r_s1 r_s2 r_s3 r_o_s  (sp_X1_remember ol tt s0 s1 s2 s3 o_s r_ol r_tt r_s0 r_s1 r_s2 r_s3 r_o_s  p0 p1))
  obtain ⟨ro0, ro1, ro2, ro3, ro4, ro5, ⟨eo0, eo1, eo2, eo3, eo4, eo5⟩⟩ := hq
  exact ⟨by rw [eo0, eo1, eo2, eo3, eo4, eo5], ⟨(by rw [← eo0]; exact ro0), (by rw [← eo1]; exact ro1), (by rw [← eo2]; exact ro2), (by rw [← eo3]; exact ro3), (by rw [← eo4]; exact ro4), (by rw [← eo5]; exact ro5)⟩⟩
