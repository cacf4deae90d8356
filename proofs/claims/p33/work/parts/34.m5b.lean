theorem imX5_closeOutput_X5 : ∀ w ∈ wsX50, w ∈ wsX5_closeOutput := fun _ h => (List.mem_cons_of_mem _ (List.mem_append_left _ (List.mem_append_right _ h)))
theorem hdX5_closeOutput : yX5_closeOutput.cls = RX5 ∧ yX5_closeOutput.cls ≠ "java/lang/invoke/MethodHandle" ∧ yX5_closeOutput.cls ≠ "java/lang/invoke/VarHandle" ∧ (parseMethodDescriptor yX5_closeOutput.desc).map (fun d => d.parameters.length) = some 0 := by decide +kernel
set_option maxRecDepth 100000 in
set_option maxHeartbeats 4000000 in
theorem c0_X5_closeOutput (l : Launch) (G : ZG) (a : Nat → Nat) (s : SS)  (P : SS → Prop) (r_s : RG s)  (hwp : wp_X5_closeOutput s P) : ZV l G yX5_closeOutput wsX5_closeOutput 2 47 [.ref (a 0)] (W5 G a s) (fun u : SS => W5 G a u) (fun (u : SS) => RG u ∧ P u) := by
  unfold wp_X5_closeOutput at hwp
  refine zm_v (cc := cX5_closeOutput) (maxL := 1) (ret := none) (own := RX5) (lvs := [(0, .ref (a 0))]) (by decide) rfl rfl (Nat.le_of_ble_eq_true rfl) rfl ?_
  intro p e sT m args below meth c ls A hx hb hr hml hown hts hlocks hK hP hD hS hA hl
  have k1 := hts (.fieldLink RX5 68 "GrantedSort$SortState" "outputLength" "I") (List.mem_of_getElem? (i := 1) rfl)
  have k2 := hts (.fieldLink RX5 62 "GrantedSort$SortState" "outputFirst" "I") (List.mem_of_getElem? (i := 2) rfl)
  refine lv_aload_n hx hb dX5_closeOutput_0 rfl (lv_at hl 0 rfl) ?_
  refine va_get (v := .int (iI (s.1 11))) (ci := 5) (C := RX5) (T := TX5) (N := 16) hx hb hts imX5_closeOutput_X5 hown hK hP 0 rfl rfl 11 (by decide) k1 (fun _ h9 => h9) rfl dX5_closeOutput_1 ?_
  refine zr_if_le (tgt := 20) (x := (s.1 11)) hx hb (r_s.1 11) dX5_closeOutput_4 (by decide) (fun c1 => ?_) (fun c1 => ?_)
  · have h4 := hwp.2 c1
    refine lv_aload_n hx hb dX5_closeOutput_20 rfl (lv_at hl 0 rfl) ?_
    refine lv_iconst (v := iI 0) hx hb dX5_closeOutput_21 rfl ?_
    refine va_put (v := .int (iI 0)) (ty := .int) (ci := 5) (C := RX5) (T := TX5) (N := 16) hx hb hts imX5_closeOutput_X5 tyX5 tyX5_ok nmX5 hown hK hP hD hS 0 rfl rfl 11 (by decide) k1 (fun _ h9 => h9) rfl (tyX5_ok 11 (by decide)) rfl rfl (Nat.le_of_ble_eq_true rfl) dX5_closeOutput_22 (fun H locs hP hD hS => ?_)
    have hP : va_P G.1 vwCl (W5 G a (sS s 11 0)) H := hP
    have hD : va_D A (W5 G a (sS s 11 0)) := hD
    exact zr_vret hx hb hr hlocks hK (sS s 11 0) hP hD hS dX5_closeOutput_25 ⟨(RG_S r_s rg_0), h4⟩
  · have h5 := hwp.1 c1
    refine lv_aload_n hx hb dX5_closeOutput_7 rfl (lv_at hl 0 rfl) ?_
    refine lv_aload_n hx hb dX5_closeOutput_8 rfl (lv_at hl 0 rfl) ?_
    refine va_get (v := .int (iI (s.1 9))) (ci := 5) (C := RX5) (T := TX5) (N := 16) hx hb hts imX5_closeOutput_X5 hown hK hP 0 rfl rfl 9 (by decide) k2 (fun _ h9 => h9) rfl dX5_closeOutput_9 ?_
    refine lv_aload_n hx hb dX5_closeOutput_12 rfl (lv_at hl 0 rfl) ?_
    refine va_get (v := .int (iI (s.1 11))) (ci := 5) (C := RX5) (T := TX5) (N := 16) hx hb hts imX5_closeOutput_X5 hown hK hP 0 rfl rfl 11 (by decide) k1 (fun _ h9 => h9) rfl dX5_closeOutput_13 ?_
    obtain ⟨b6, h7⟩ := h5
    obtain ⟨b8, h9⟩ := h7
    obtain ⟨b10, h11⟩ := h9
    refine zc_vi (As := [.int (iI (s.1 9)), .int (iI (s.1 11))]) (rest := []) (w2 := fun u_13 => W5 G a u_13) (c_X5_makeRun l G a s (s.1 9) (s.1 11) r_s (r_s.1 9) (r_s.1 11) b6 b8 b10) ⟨hx, hb, hml, hown, hts⟩ (cwV 2 hts gX5_closeOutput_X5_makeRun rfl rfl rfl hdX5_makeRun ⟨Nat.le_of_ble_eq_true rfl, Nat.le_of_ble_eq_true rfl⟩) hK hP hD hS hA (q0 := 0) rfl rfl [0, 1, 2, 3, 4, 5, 6, 7, 8, 9, 10, 11, 12, 13] [] [0, 1, 2, 3, 4, 5, 6, 7, 8, 9, 10, 11, 12, 13] rfl rfl rfl rfl (by decide) (fun _ => rfl) rfl rfl hl.1 rfl (Nat.le_of_ble_eq_true rfl) dX5_closeOutput_16 ⟨Nat.zero_le _, Nat.zero_le _⟩ (fun z14 u_13 H locs hw hP hD hS => ?_)
    obtain ⟨u_s12, rfl⟩ : ∃ q, q = u_13 := ⟨_, rfl⟩
    obtain ⟨r16, ru_s12, h15⟩ := hw
    have h17 := h11 z14 u_s12 r16 ru_s12 h15
    have hP : va_P G.1 vwCl (W5 G a u_s12) H := hP
    have hD : va_D A (W5 G a u_s12) := hD
    refine lv_pop hx hb dX5_closeOutput_19 rfl ?_
    refine lv_aload_n hx hb dX5_closeOutput_20 rfl (lv_at hl 0 rfl) ?_
    refine lv_iconst (v := iI 0) hx hb dX5_closeOutput_21 rfl ?_
    refine va_put (v := .int (iI 0)) (ty := .int) (ci := 5) (C := RX5) (T := TX5) (N := 16) hx hb hts imX5_closeOutput_X5 tyX5 tyX5_ok nmX5 hown hK hP hD hS 0 rfl rfl 11 (by decide) k1 (fun _ h9 => h9) rfl (tyX5_ok 11 (by decide)) rfl rfl (Nat.le_of_ble_eq_true rfl) dX5_closeOutput_22 (fun H locs hP hD hS => ?_)
    have hP : va_P G.1 vwCl (W5 G a (sS u_s12 11 0)) H := hP
    have hD : va_D A (W5 G a (sS u_s12 11 0)) := hD
    exact zr_vret hx hb hr hlocks hK (sS u_s12 11 0) hP hD hS dX5_closeOutput_25 ⟨(RG_S ru_s12 rg_0), h17⟩
theorem c_X5_closeOutput (l : Launch) (G : ZG) (a : Nat → Nat) (s : SS)  (z : Int → Int) (r_s : RG s)  (p0 : Rep s z) (p1 : Vb z ∧ z 4 + 1 ≤ 900000000) : ZV l G yX5_closeOutput wsX5_closeOutput 2 47 [.ref (a 0)] (W5 G a s) (fun u : SS => W5 G a u) (fun (u : SS) => RG u ∧ (Rep u (if 0 < rowsAt z 2 then becm z 2 else z))) :=
  c0_X5_closeOutput l G a s (fun s' => Rep s' (if 0 < rowsAt z 2 then becm z 2 else z)) r_s  (sp_X5_closeOutput s z r_s  p0 p1)
