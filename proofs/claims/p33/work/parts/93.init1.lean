theorem imX3_init_X3 : ∀ w ∈ wsX30, w ∈ wsX3_init := fun _ h => (List.mem_cons_of_mem _ (List.mem_append_right _ h))
theorem hdX3_init : yX3_init.cls ≠ "java/lang/invoke/MethodHandle" ∧ yX3_init.cls ≠ "java/lang/invoke/VarHandle" ∧ (parseMethodDescriptor yX3_init.desc).map (fun d => d.parameters.length) = some 0 := by decide +kernel
set_option maxRecDepth 100000 in
set_option maxHeartbeats 4000000 in
theorem c_X3_init (l : Launch) (G : ZG) : ZN l G yX3_init wsX3_init 1 12 3 360 (.inr (3, [.null, .null, .null, .int (iI 0)])) (S := Nat × Nat × Nat) (fun q u => W3 G q u.1 u.2.1 u.2.2 (fun _ => 0) (fun _ => 0) (fun _ => 0) 0) := by
  refine zm_n (cc := cX3_init) (maxL := 1) (own := RX3) (by decide) rfl rfl rfl (Nat.le_of_ble_eq_true rfl) ?_
  intro q p e sT m args below meth c ls A hx hb hr hml hown hts hlocks hin hK hP hD hS hA hN hl
  refine lv_aload_n hx hb dX3_init_0 rfl (lv_at hl 0 rfl) ?_
  refine W.objInit hx hb hown (hts (.methodLink RX3 3 objectInit) (List.mem_of_getElem? (i := 1) rfl)) (hts (.instanceMethod objectInit) (List.mem_of_getElem? (i := 2) rfl)) (hts (.code objectInit ⟨#[0xb1]⟩ 1 none) (List.mem_of_getElem? (i := 3) rfl)) rfl (by rw [hml]; exact hl.1) rfl dX3_init_1 (Nat.le_of_ble_eq_true rfl) (Nat.le_of_ble_eq_true rfl) ?_
  refine W.eq (g2 := F0 m 4 ls []) rfl ?_
  refine lv_aload_n hx hb dX3_init_4 rfl (lv_at hl 0 rfl) ?_
  refine lv_bipush (v := iI 120) hx hb dX3_init_5 (by decide) ?_
  refine zn_iarr (n := iI 120) hx hb (hts (.arrayClass .int) (List.mem_of_getElem? (i := 4) rfl)) hK hP hD hS hA 120 (by decide) (by decide) (Nat.le_of_ble_eq_true rfl) (Nat.le_of_ble_eq_true rfl) (Nat.le_of_ble_eq_true rfl) dX3_init_7 (fun a1 H hP hD hS => ?_)
  have hP : va_P G.1 vwCl ([(q, .inr (3, [.null, .null, .null, .int (iI 0)]))] ++ [(a1, eI G 120 (fun _ => 0))]) H := hP
  have hD : va_D A ([(q, .inr (3, [.null, .null, .null, .int (iI 0)]))] ++ [(a1, eI G 120 (fun _ => 0))]) := hD
  refine va_putF (v := .ref a1) (ty := .array .int) (ci := 3) (C := RX3) (T := TX3) (N := 4) hx hb hts imX3_init_X3 tyX3 tyX3_ok nmX3 hown hK hP hD hS 0 rfl rfl 0 (by decide) (hts (.fieldLink RX3 9 "GrantedSort$RowTable" "keys" "[I") (List.mem_of_getElem? (i := 5) rfl)) (fun _ h9 => h9) rfl hin rfl (tyX3_ok 0 (by decide)) rfl rfl (Nat.le_of_ble_eq_true rfl) dX3_init_9 (fun H locs hP hD hS => ?_)
  have hP : va_P G.1 vwCl ([(q, .inr (3, [.ref a1, .null, .null, .int (iI 0)]))] ++ [(a1, eI G 120 (fun _ => 0))]) H := hP
  have hD : va_D A ([(q, .inr (3, [.ref a1, .null, .null, .int (iI 0)]))] ++ [(a1, eI G 120 (fun _ => 0))]) := hD
  refine lv_aload_n hx hb dX3_init_12 rfl (lv_at hl 0 rfl) ?_
  refine lv_bipush (v := iI 120) hx hb dX3_init_13 (by decide) ?_
  refine zn_iarr (n := iI 120) hx hb (hts (.arrayClass .int) (List.mem_of_getElem? (i := 4) rfl)) hK hP hD hS hA 120 (by decide) (by decide) (Nat.le_of_ble_eq_true rfl) (Nat.le_of_ble_eq_true rfl) (Nat.le_of_ble_eq_true rfl) dX3_init_15 (fun a2 H hP hD hS => ?_)
  have hP : va_P G.1 vwCl (([(q, .inr (3, [.ref a1, .null, .null, .int (iI 0)]))] ++ [(a1, eI G 120 (fun _ => 0))]) ++ [(a2, eI G 120 (fun _ => 0))]) H := hP
  have hD : va_D A (([(q, .inr (3, [.ref a1, .null, .null, .int (iI 0)]))] ++ [(a1, eI G 120 (fun _ => 0))]) ++ [(a2, eI G 120 (fun _ => 0))]) := hD
  refine va_putF (v := .ref a2) (ty := .array .int) (ci := 3) (C := RX3) (T := TX3) (N := 4) hx hb hts imX3_init_X3 tyX3 tyX3_ok nmX3 hown hK hP hD hS 0 rfl rfl 1 (by decide) (hts (.fieldLink RX3 15 "GrantedSort$RowTable" "counts" "[I") (List.mem_of_getElem? (i := 6) rfl)) (fun _ h9 => h9) rfl hin rfl (tyX3_ok 1 (by decide)) rfl rfl (Nat.le_of_ble_eq_true rfl) dX3_init_17 (fun H locs hP hD hS => ?_)
  have hP : va_P G.1 vwCl (([(q, .inr (3, [.ref a1, .ref a2, .null, .int (iI 0)]))] ++ [(a1, eI G 120 (fun _ => 0))]) ++ [(a2, eI G 120 (fun _ => 0))]) H := hP
  have hD : va_D A (([(q, .inr (3, [.ref a1, .ref a2, .null, .int (iI 0)]))] ++ [(a1, eI G 120 (fun _ => 0))]) ++ [(a2, eI G 120 (fun _ => 0))]) := hD
  refine lv_aload_n hx hb dX3_init_20 rfl (lv_at hl 0 rfl) ?_
  refine lv_bipush (v := iI 120) hx hb dX3_init_21 (by decide) ?_
  refine zn_iarr (n := iI 120) hx hb (hts (.arrayClass .int) (List.mem_of_getElem? (i := 4) rfl)) hK hP hD hS hA 120 (by decide) (by decide) (Nat.le_of_ble_eq_true rfl) (Nat.le_of_ble_eq_true rfl) (Nat.le_of_ble_eq_true rfl) dX3_init_23 (fun a3 H hP hD hS => ?_)
  have hP : va_P G.1 vwCl ((([(q, .inr (3, [.ref a1, .ref a2, .null, .int (iI 0)]))] ++ [(a1, eI G 120 (fun _ => 0))]) ++ [(a2, eI G 120 (fun _ => 0))]) ++ [(a3, eI G 120 (fun _ => 0))]) H := hP
  have hD : va_D A ((([(q, .inr (3, [.ref a1, .ref a2, .null, .int (iI 0)]))] ++ [(a1, eI G 120 (fun _ => 0))]) ++ [(a2, eI G 120 (fun _ => 0))]) ++ [(a3, eI G 120 (fun _ => 0))]) := hD
  refine va_putF (v := .ref a3) (ty := .array .int) (ci := 3) (C := RX3) (T := TX3) (N := 4) hx hb hts imX3_init_X3 tyX3 tyX3_ok nmX3 hown hK hP hD hS 0 rfl rfl 2 (by decide) (hts (.fieldLink RX3 18 "GrantedSort$RowTable" "nexts" "[I") (List.mem_of_getElem? (i := 7) rfl)) (fun _ h9 => h9) rfl hin rfl (tyX3_ok 2 (by decide)) rfl rfl (Nat.le_of_ble_eq_true rfl) dX3_init_25 (fun H locs hP hD hS => ?_)
  have hP : va_P G.1 vwCl ((([(q, .inr (3, [.ref a1, .ref a2, .ref a3, .int (iI 0)]))] ++ [(a1, eI G 120 (fun _ => 0))]) ++ [(a2, eI G 120 (fun _ => 0))]) ++ [(a3, eI G 120 (fun _ => 0))]) H := hP
  have hD : va_D A ((([(q, .inr (3, [.ref a1, .ref a2, .ref a3, .int (iI 0)]))] ++ [(a1, eI G 120 (fun _ => 0))]) ++ [(a2, eI G 120 (fun _ => 0))]) ++ [(a3, eI G 120 (fun _ => 0))]) := hD
  refine W.widen (k := 3) (n := 360) (Nat.le_of_ble_eq_true rfl) (Nat.le_of_ble_eq_true rfl) ?_
  exact zn_ret hx hb hr hlocks hK (a1, a2, a3) hP hD hS dX3_init_28
theorem imX4_init_X4 : ∀ w ∈ wsX40, w ∈ wsX4_init := fun _ h => (List.mem_cons_of_mem _ (List.mem_append_right _ h))
theorem hdX4_init : yX4_init.cls ≠ "java/lang/invoke/MethodHandle" ∧ yX4_init.cls ≠ "java/lang/invoke/VarHandle" ∧ (parseMethodDescriptor yX4_init.desc).map (fun d => d.parameters.length) = some 0 := by decide +kernel
set_option maxRecDepth 100000 in
set_option maxHeartbeats 4000000 in
theorem c_X4_init (l : Launch) (G : ZG) : ZN l G yX4_init wsX4_init 1 12 3 360 (.inr (4, [.null, .null, .null, .int (iI 0)])) (S := Nat × Nat × Nat) (fun q u => W4 G q u.1 u.2.1 u.2.2 (fun _ => 0) (fun _ => 0) (fun _ => 0) 0) := by
  refine zm_n (cc := cX4_init) (maxL := 1) (own := RX4) (by decide) rfl rfl rfl (Nat.le_of_ble_eq_true rfl) ?_
  intro q p e sT m args below meth c ls A hx hb hr hml hown hts hlocks hin hK hP hD hS hA hN hl
  refine lv_aload_n hx hb dX4_init_0 rfl (lv_at hl 0 rfl) ?_
  refine W.objInit hx hb hown (hts (.methodLink RX4 3 objectInit) (List.mem_of_getElem? (i := 1) rfl)) (hts (.instanceMethod objectInit) (List.mem_of_getElem? (i := 2) rfl)) (hts (.code objectInit ⟨#[0xb1]⟩ 1 none) (List.mem_of_getElem? (i := 3) rfl)) rfl (by rw [hml]; exact hl.1) rfl dX4_init_1 (Nat.le_of_ble_eq_true rfl) (Nat.le_of_ble_eq_true rfl) ?_
  refine W.eq (g2 := F0 m 4 ls []) rfl ?_
  refine lv_aload_n hx hb dX4_init_4 rfl (lv_at hl 0 rfl) ?_
  refine lv_bipush (v := iI 120) hx hb dX4_init_5 (by decide) ?_
  refine zn_iarr (n := iI 120) hx hb (hts (.arrayClass .int) (List.mem_of_getElem? (i := 4) rfl)) hK hP hD hS hA 120 (by decide) (by decide) (Nat.le_of_ble_eq_true rfl) (Nat.le_of_ble_eq_true rfl) (Nat.le_of_ble_eq_true rfl) dX4_init_7 (fun a1 H hP hD hS => ?_)
  have hP : va_P G.1 vwCl ([(q, .inr (4, [.null, .null, .null, .int (iI 0)]))] ++ [(a1, eI G 120 (fun _ => 0))]) H := hP
  have hD : va_D A ([(q, .inr (4, [.null, .null, .null, .int (iI 0)]))] ++ [(a1, eI G 120 (fun _ => 0))]) := hD
  refine va_putF (v := .ref a1) (ty := .array .int) (ci := 4) (C := RX4) (T := TX4) (N := 4) hx hb hts imX4_init_X4 tyX4 tyX4_ok nmX4 hown hK hP hD hS 0 rfl rfl 0 (by decide) (hts (.fieldLink RX4 9 "GrantedSort$RunList" "numbers" "[I") (List.mem_of_getElem? (i := 5) rfl)) (fun _ h9 => h9) rfl hin rfl (tyX4_ok 0 (by decide)) rfl rfl (Nat.le_of_ble_eq_true rfl) dX4_init_9 (fun H locs hP hD hS => ?_)
  have hP : va_P G.1 vwCl ([(q, .inr (4, [.ref a1, .null, .null, .int (iI 0)]))] ++ [(a1, eI G 120 (fun _ => 0))]) H := hP
  have hD : va_D A ([(q, .inr (4, [.ref a1, .null, .null, .int (iI 0)]))] ++ [(a1, eI G 120 (fun _ => 0))]) := hD
  refine lv_aload_n hx hb dX4_init_12 rfl (lv_at hl 0 rfl) ?_
  refine lv_bipush (v := iI 120) hx hb dX4_init_13 (by decide) ?_
  refine zn_iarr (n := iI 120) hx hb (hts (.arrayClass .int) (List.mem_of_getElem? (i := 4) rfl)) hK hP hD hS hA 120 (by decide) (by decide) (Nat.le_of_ble_eq_true rfl) (Nat.le_of_ble_eq_true rfl) (Nat.le_of_ble_eq_true rfl) dX4_init_15 (fun a2 H hP hD hS => ?_)
  have hP : va_P G.1 vwCl (([(q, .inr (4, [.ref a1, .null, .null, .int (iI 0)]))] ++ [(a1, eI G 120 (fun _ => 0))]) ++ [(a2, eI G 120 (fun _ => 0))]) H := hP
  have hD : va_D A (([(q, .inr (4, [.ref a1, .null, .null, .int (iI 0)]))] ++ [(a1, eI G 120 (fun _ => 0))]) ++ [(a2, eI G 120 (fun _ => 0))]) := hD
  refine va_putF (v := .ref a2) (ty := .array .int) (ci := 4) (C := RX4) (T := TX4) (N := 4) hx hb hts imX4_init_X4 tyX4 tyX4_ok nmX4 hown hK hP hD hS 0 rfl rfl 1 (by decide) (hts (.fieldLink RX4 15 "GrantedSort$RunList" "firsts" "[I") (List.mem_of_getElem? (i := 6) rfl)) (fun _ h9 => h9) rfl hin rfl (tyX4_ok 1 (by decide)) rfl rfl (Nat.le_of_ble_eq_true rfl) dX4_init_17 (fun H locs hP hD hS => ?_)
  have hP : va_P G.1 vwCl (([(q, .inr (4, [.ref a1, .ref a2, .null, .int (iI 0)]))] ++ [(a1, eI G 120 (fun _ => 0))]) ++ [(a2, eI G 120 (fun _ => 0))]) H := hP
  have hD : va_D A (([(q, .inr (4, [.ref a1, .ref a2, .null, .int (iI 0)]))] ++ [(a1, eI G 120 (fun _ => 0))]) ++ [(a2, eI G 120 (fun _ => 0))]) := hD
  refine lv_aload_n hx hb dX4_init_20 rfl (lv_at hl 0 rfl) ?_
  refine lv_bipush (v := iI 120) hx hb dX4_init_21 (by decide) ?_
  refine zn_iarr (n := iI 120) hx hb (hts (.arrayClass .int) (List.mem_of_getElem? (i := 4) rfl)) hK hP hD hS hA 120 (by decide) (by decide) (Nat.le_of_ble_eq_true rfl) (Nat.le_of_ble_eq_true rfl) (Nat.le_of_ble_eq_true rfl) dX4_init_23 (fun a3 H hP hD hS => ?_)
  have hP : va_P G.1 vwCl ((([(q, .inr (4, [.ref a1, .ref a2, .null, .int (iI 0)]))] ++ [(a1, eI G 120 (fun _ => 0))]) ++ [(a2, eI G 120 (fun _ => 0))]) ++ [(a3, eI G 120 (fun _ => 0))]) H := hP
  have hD : va_D A ((([(q, .inr (4, [.ref a1, .ref a2, .null, .int (iI 0)]))] ++ [(a1, eI G 120 (fun _ => 0))]) ++ [(a2, eI G 120 (fun _ => 0))]) ++ [(a3, eI G 120 (fun _ => 0))]) := hD
  refine va_putF (v := .ref a3) (ty := .array .int) (ci := 4) (C := RX4) (T := TX4) (N := 4) hx hb hts imX4_init_X4 tyX4 tyX4_ok nmX4 hown hK hP hD hS 0 rfl rfl 2 (by decide) (hts (.fieldLink RX4 18 "GrantedSort$RunList" "lengths" "[I") (List.mem_of_getElem? (i := 7) rfl)) (fun _ h9 => h9) rfl hin rfl (tyX4_ok 2 (by decide)) rfl rfl (Nat.le_of_ble_eq_true rfl) dX4_init_25 (fun H locs hP hD hS => ?_)
  have hP : va_P G.1 vwCl ((([(q, .inr (4, [.ref a1, .ref a2, .ref a3, .int (iI 0)]))] ++ [(a1, eI G 120 (fun _ => 0))]) ++ [(a2, eI G 120 (fun _ => 0))]) ++ [(a3, eI G 120 (fun _ => 0))]) H := hP
  have hD : va_D A ((([(q, .inr (4, [.ref a1, .ref a2, .ref a3, .int (iI 0)]))] ++ [(a1, eI G 120 (fun _ => 0))]) ++ [(a2, eI G 120 (fun _ => 0))]) ++ [(a3, eI G 120 (fun _ => 0))]) := hD
  refine W.widen (k := 3) (n := 360) (Nat.le_of_ble_eq_true rfl) (Nat.le_of_ble_eq_true rfl) ?_
  exact zn_ret hx hb hr hlocks hK (a1, a2, a3) hP hD hS dX4_init_28
theorem hdX2_init : yX2_init.cls ≠ "java/lang/invoke/MethodHandle" ∧ yX2_init.cls ≠ "java/lang/invoke/VarHandle" ∧ (parseMethodDescriptor yX2_init.desc).map (fun d => d.parameters.length) = some 0 := by decide +kernel
set_option maxRecDepth 100000 in
set_option maxHeartbeats 4000000 in
theorem c_X2_init (l : Launch) (G : ZG) : ZN l G yX2_init wsX2_init 1 12 0 0 (.inr (2, [.int (iI 0), .int (iI 0), .int (iI 0), .int (iI 0), .int (iI 0), .int (iI 0)])) (S := Unit) (fun q _ => W2 G q 0 0 0 0 0 0) := by
  refine zm_n (cc := cX2_init) (maxL := 1) (own := RX2) (by decide) rfl rfl rfl (Nat.le_of_ble_eq_true rfl) ?_
  intro q p e sT m args below meth c ls A hx hb hr hml hown hts hlocks hin hK hP hD hS hA hN hl
  refine lv_aload_n hx hb dX2_init_0 rfl (lv_at hl 0 rfl) ?_
  refine W.objInit hx hb hown (hts (.methodLink RX2 3 objectInit) (List.mem_of_getElem? (i := 1) rfl)) (hts (.instanceMethod objectInit) (List.mem_of_getElem? (i := 2) rfl)) (hts (.code objectInit ⟨#[0xb1]⟩ 1 none) (List.mem_of_getElem? (i := 3) rfl)) rfl (by rw [hml]; exact hl.1) rfl dX2_init_1 (Nat.le_of_ble_eq_true rfl) (Nat.le_of_ble_eq_true rfl) ?_
  refine W.eq (g2 := F0 m 4 ls []) rfl ?_
  refine W.widen (k := 0) (n := 0) (Nat.le_of_ble_eq_true rfl) (Nat.le_of_ble_eq_true rfl) ?_
  exact zn_ret hx hb hr hlocks hK () hP hD hS dX2_init_4
theorem imX0_init_X0 : ∀ w ∈ wsX00, w ∈ wsX0_init := fun _ h => (List.mem_cons_of_mem _ (List.mem_append_right _ h))
theorem hdX0_init : yX0_init.cls ≠ "java/lang/invoke/MethodHandle" ∧ yX0_init.cls ≠ "java/lang/invoke/VarHandle" ∧ (parseMethodDescriptor yX0_init.desc).map (fun d => d.parameters.length) = some 0 := by decide +kernel
set_option maxRecDepth 100000 in
set_option maxHeartbeats 4000000 in
theorem c_X0_init (l : Launch) (G : ZG) : ZN l G yX0_init wsX0_init 1 12 1 80 (.inr (0, [.null, .int (iI 0)])) (S := Nat) (fun q u => W0 G q u (fun _ => 0) 0) := by
  refine zm_n (cc := cX0_init) (maxL := 1) (own := RX0) (by decide) rfl rfl rfl (Nat.le_of_ble_eq_true rfl) ?_
  intro q p e sT m args below meth c ls A hx hb hr hml hown hts hlocks hin hK hP hD hS hA hN hl
  refine lv_aload_n hx hb dX0_init_0 rfl (lv_at hl 0 rfl) ?_
  refine W.objInit hx hb hown (hts (.methodLink RX0 3 objectInit) (List.mem_of_getElem? (i := 1) rfl)) (hts (.instanceMethod objectInit) (List.mem_of_getElem? (i := 2) rfl)) (hts (.code objectInit ⟨#[0xb1]⟩ 1 none) (List.mem_of_getElem? (i := 3) rfl)) rfl (by rw [hml]; exact hl.1) rfl dX0_init_1 (Nat.le_of_ble_eq_true rfl) (Nat.le_of_ble_eq_true rfl) ?_
  refine W.eq (g2 := F0 m 4 ls []) rfl ?_
  refine lv_aload_n hx hb dX0_init_4 rfl (lv_at hl 0 rfl) ?_
  refine lv_bipush (v := iI 80) hx hb dX0_init_5 (by decide) ?_
  refine zn_iarr (n := iI 80) hx hb (hts (.arrayClass .int) (List.mem_of_getElem? (i := 4) rfl)) hK hP hD hS hA 80 (by decide) (by decide) (Nat.le_of_ble_eq_true rfl) (Nat.le_of_ble_eq_true rfl) (Nat.le_of_ble_eq_true rfl) dX0_init_7 (fun a1 H hP hD hS => ?_)
  have hP : va_P G.1 vwCl ([(q, .inr (0, [.null, .int (iI 0)]))] ++ [(a1, eI G 80 (fun _ => 0))]) H := hP
  have hD : va_D A ([(q, .inr (0, [.null, .int (iI 0)]))] ++ [(a1, eI G 80 (fun _ => 0))]) := hD
  refine va_putF (v := .ref a1) (ty := .array .int) (ci := 0) (C := RX0) (T := TX0) (N := 2) hx hb hts imX0_init_X0 tyX0 tyX0_ok nmX0 hown hK hP hD hS 0 rfl rfl 0 (by decide) (hts (.fieldLink RX0 9 "GrantedSort$CharacterBuffer" "codes" "[I") (List.mem_of_getElem? (i := 5) rfl)) (fun _ h9 => h9) rfl hin rfl (tyX0_ok 0 (by decide)) rfl rfl (Nat.le_of_ble_eq_true rfl) dX0_init_9 (fun H locs hP hD hS => ?_)
  have hP : va_P G.1 vwCl ([(q, .inr (0, [.ref a1, .int (iI 0)]))] ++ [(a1, eI G 80 (fun _ => 0))]) H := hP
  have hD : va_D A ([(q, .inr (0, [.ref a1, .int (iI 0)]))] ++ [(a1, eI G 80 (fun _ => 0))]) := hD
  refine W.widen (k := 1) (n := 80) (Nat.le_of_ble_eq_true rfl) (Nat.le_of_ble_eq_true rfl) ?_
  exact zn_ret hx hb hr hlocks hK a1 hP hD hS dX0_init_12
theorem imX5_init_X3 : ∀ w ∈ wsX30, w ∈ wsX5_init := fun _ h => (List.mem_cons_of_mem _ (List.mem_append_left _ (List.mem_append_left _ (List.mem_append_right _ h))))
theorem imX5_init_X4 : ∀ w ∈ wsX40, w ∈ wsX5_init := fun _ h => (List.mem_cons_of_mem _ (List.mem_append_right _ h))
theorem imX5_init_X5 : ∀ w ∈ wsX50, w ∈ wsX5_init := fun _ h => (List.mem_cons_of_mem _ (List.mem_append_left _ (List.mem_append_right _ h)))
theorem hdX5_init : yX5_init.cls ≠ "java/lang/invoke/MethodHandle" ∧ yX5_init.cls ≠ "java/lang/invoke/VarHandle" ∧ (parseMethodDescriptor yX5_init.desc).map (fun d => d.parameters.length) = some 0 := by decide +kernel
set_option maxRecDepth 100000 in
set_option maxHeartbeats 4000000 in
theorem c_X5_init (l : Launch) (G : ZG) : ZN l G yX5_init wsX5_init 2 32 13 1112 (.inr (5, [.null, .null, .int (iI 0), .int (iI 0), .int (iI 0), .null, .int (iI 0), .null, .int (iI 0), .int (iI 0), .int (iI 0), .int (iI 0), .int (iI 0), .int (iI 0), .int (iI 0), .int (iI 0)])) (S := (Nat → Nat)) (fun q u => W5 G (adr q u) init0) := by
  refine zm_n (cc := cX5_init) (maxL := 1) (own := RX5) (by decide) rfl rfl rfl (Nat.le_of_ble_eq_true rfl) ?_
  intro q p e sT m args below meth c ls A hx hb hr hml hown hts hlocks hin hK hP hD hS hA hN hl
  refine lv_aload_n hx hb dX5_init_0 rfl (lv_at hl 0 rfl) ?_
  refine W.objInit hx hb hown (hts (.methodLink RX5 3 objectInit) (List.mem_of_getElem? (i := 1) rfl)) (hts (.instanceMethod objectInit) (List.mem_of_getElem? (i := 2) rfl)) (hts (.code objectInit ⟨#[0xb1]⟩ 1 none) (List.mem_of_getElem? (i := 3) rfl)) rfl (by rw [hml]; exact hl.1) rfl dX5_init_1 (Nat.le_of_ble_eq_true rfl) (Nat.le_of_ble_eq_true rfl) ?_
  refine W.eq (g2 := F0 m 4 ls []) rfl ?_
  refine lv_aload_n hx hb dX5_init_4 rfl (lv_at hl 0 rfl) ?_
  refine va_new (ci := 3) (fs := [.null, .null, .null, .int (iI 0)]) (C := RX3) (T := TX3) (N := 4) hx hb hts imX5_init_X3 tyX3 tyX3_ok hown (hts (.classLink RX5 9 RX3) (List.mem_of_getElem? (i := 4) rfl)) (hts (.instantiable RX3 4) (List.mem_of_getElem? (i := 5) rfl)) (hts (.initialized RX3) (List.mem_of_getElem? (i := 6) rfl)) hK hP hD hS hA rfl (fun j hj => by rcases (show j = 0 ∨ j = 1 ∨ j = 2 ∨ j = 3 by omega) with rfl | rfl | rfl | rfl <;> rfl) (Nat.le_of_ble_eq_true rfl) (Nat.le_of_ble_eq_true rfl) dX5_init_5 (fun q1 H hP hD hS => ?_)
  refine lv_dup hx hb dX5_init_8 rfl ?_
  refine zn_nest (c_X3_init l G) ⟨hx, hb, hml, hown, hts⟩ ⟨va_cnB 0 hts gX5_init_X3_init_n11 rfl rfl rfl hN.2.1 (hts (.initialized RX3) (List.mem_of_getElem? (i := 6) rfl)) hdX3_init ⟨(Nat.le_of_ble_eq_true rfl), (Nat.le_of_ble_eq_true rfl)⟩, rfl, (hts (.instanceMethod yX3_init) (List.mem_of_getElem? (i := 17) rfl))⟩ hK hN hP hD hS hA hl.1 (Nat.le_of_ble_eq_true rfl) dX5_init_9 ⟨(Nat.le_of_ble_eq_true rfl), (Nat.le_of_ble_eq_true rfl)⟩ (fun u2 H locs hP hD hS => ?_)
  have hP : va_P G.1 vwCl ([(q, .inr (5, [.null, .null, .int (iI 0), .int (iI 0), .int (iI 0), .null, .int (iI 0), .null, .int (iI 0), .int (iI 0), .int (iI 0), .int (iI 0), .int (iI 0), .int (iI 0), .int (iI 0), .int (iI 0)]))] ++ (W3 G q1 u2.1 u2.2.1 u2.2.2 (fun _ => 0) (fun _ => 0) (fun _ => 0) 0)) H := hP
  have hD : va_D A ([(q, .inr (5, [.null, .null, .int (iI 0), .int (iI 0), .int (iI 0), .null, .int (iI 0), .null, .int (iI 0), .int (iI 0), .int (iI 0), .int (iI 0), .int (iI 0), .int (iI 0), .int (iI 0), .int (iI 0)]))] ++ (W3 G q1 u2.1 u2.2.1 u2.2.2 (fun _ => 0) (fun _ => 0) (fun _ => 0) 0)) := hD
  refine va_putF (v := .ref q1) (ty := .object "GrantedSort$RowTable") (ci := 5) (C := RX5) (T := TX5) (N := 16) hx hb hts imX5_init_X5 tyX5 tyX5_ok nmX5 hown hK hP hD hS 0 rfl rfl 0 (by decide) (hts (.fieldLink RX5 12 "GrantedSort$SortState" "table" "LGrantedSort$RowTable;") (List.mem_of_getElem? (i := 7) rfl)) (fun _ h9 => h9) rfl hin rfl (tyX5_ok 0 (by decide)) rfl rfl (Nat.le_of_ble_eq_true rfl) dX5_init_12 (fun H locs hP hD hS => ?_)
  have hP : va_P G.1 vwCl ([(q, .inr (5, [.ref q1, .null, .int (iI 0), .int (iI 0), .int (iI 0), .null, .int (iI 0), .null, .int (iI 0), .int (iI 0), .int (iI 0), .int (iI 0), .int (iI 0), .int (iI 0), .int (iI 0), .int (iI 0)]))] ++ (W3 G q1 u2.1 u2.2.1 u2.2.2 (fun _ => 0) (fun _ => 0) (fun _ => 0) 0)) H := hP
  have hD : va_D A ([(q, .inr (5, [.ref q1, .null, .int (iI 0), .int (iI 0), .int (iI 0), .null, .int (iI 0), .null, .int (iI 0), .int (iI 0), .int (iI 0), .int (iI 0), .int (iI 0), .int (iI 0), .int (iI 0), .int (iI 0)]))] ++ (W3 G q1 u2.1 u2.2.1 u2.2.2 (fun _ => 0) (fun _ => 0) (fun _ => 0) 0)) := hD
  refine lv_aload_n hx hb dX5_init_15 rfl (lv_at hl 0 rfl) ?_
  refine va_new (ci := 4) (fs := [.null, .null, .null, .int (iI 0)]) (C := RX4) (T := TX4) (N := 4) hx hb hts imX5_init_X4 tyX4 tyX4_ok hown (hts (.classLink RX5 18 RX4) (List.mem_of_getElem? (i := 8) rfl)) (hts (.instantiable RX4 4) (List.mem_of_getElem? (i := 9) rfl)) (hts (.initialized RX4) (List.mem_of_getElem? (i := 10) rfl)) hK hP hD hS hA rfl (fun j hj => by rcases (show j = 0 ∨ j = 1 ∨ j = 2 ∨ j = 3 by omega) with rfl | rfl | rfl | rfl <;> rfl) (Nat.le_of_ble_eq_true rfl) (Nat.le_of_ble_eq_true rfl) dX5_init_16 (fun q3 H hP hD hS => ?_)
  refine lv_dup hx hb dX5_init_19 rfl ?_
  refine zn_nest (c_X4_init l G) ⟨hx, hb, hml, hown, hts⟩ ⟨va_cnB 0 hts gX5_init_X4_init_n20 rfl rfl rfl hN.2.2.1 (hts (.initialized RX4) (List.mem_of_getElem? (i := 10) rfl)) hdX4_init ⟨(Nat.le_of_ble_eq_true rfl), (Nat.le_of_ble_eq_true rfl)⟩, rfl, (hts (.instanceMethod yX4_init) (List.mem_of_getElem? (i := 23) rfl))⟩ hK hN hP hD hS hA hl.1 (Nat.le_of_ble_eq_true rfl) dX5_init_20 ⟨(Nat.le_of_ble_eq_true rfl), (Nat.le_of_ble_eq_true rfl)⟩ (fun u4 H locs hP hD hS => ?_)
  have hP : va_P G.1 vwCl (([(q, .inr (5, [.ref q1, .null, .int (iI 0), .int (iI 0), .int (iI 0), .null, .int (iI 0), .null, .int (iI 0), .int (iI 0), .int (iI 0), .int (iI 0), .int (iI 0), .int (iI 0), .int (iI 0), .int (iI 0)]))] ++ (W3 G q1 u2.1 u2.2.1 u2.2.2 (fun _ => 0) (fun _ => 0) (fun _ => 0) 0)) ++ (W4 G q3 u4.1 u4.2.1 u4.2.2 (fun _ => 0) (fun _ => 0) (fun _ => 0) 0)) H := hP
  have hD : va_D A (([(q, .inr (5, [.ref q1, .null, .int (iI 0), .int (iI 0), .int (iI 0), .null, .int (iI 0), .null, .int (iI 0), .int (iI 0), .int (iI 0), .int (iI 0), .int (iI 0), .int (iI 0), .int (iI 0), .int (iI 0)]))] ++ (W3 G q1 u2.1 u2.2.1 u2.2.2 (fun _ => 0) (fun _ => 0) (fun _ => 0) 0)) ++ (W4 G q3 u4.1 u4.2.1 u4.2.2 (fun _ => 0) (fun _ => 0) (fun _ => 0) 0)) := hD
  refine va_putF (v := .ref q3) (ty := .object "GrantedSort$RunList") (ci := 5) (C := RX5) (T := TX5) (N := 16) hx hb hts imX5_init_X5 tyX5 tyX5_ok nmX5 hown hK hP hD hS 0 rfl rfl 1 (by decide) (hts (.fieldLink RX5 21 "GrantedSort$SortState" "disk" "LGrantedSort$RunList;") (List.mem_of_getElem? (i := 11) rfl)) (fun _ h9 => h9) rfl hin rfl (tyX5_ok 1 (by decide)) rfl rfl (Nat.le_of_ble_eq_true rfl) dX5_init_23 (fun H locs hP hD hS => ?_)
  have hP : va_P G.1 vwCl (([(q, .inr (5, [.ref q1, .ref q3, .int (iI 0), .int (iI 0), .int (iI 0), .null, .int (iI 0), .null, .int (iI 0), .int (iI 0), .int (iI 0), .int (iI 0), .int (iI 0), .int (iI 0), .int (iI 0), .int (iI 0)]))] ++ (W3 G q1 u2.1 u2.2.1 u2.2.2 (fun _ => 0) (fun _ => 0) (fun _ => 0) 0)) ++ (W4 G q3 u4.1 u4.2.1 u4.2.2 (fun _ => 0) (fun _ => 0) (fun _ => 0) 0)) H := hP
  have hD : va_D A (([(q, .inr (5, [.ref q1, .ref q3, .int (iI 0), .int (iI 0), .int (iI 0), .null, .int (iI 0), .null, .int (iI 0), .int (iI 0), .int (iI 0), .int (iI 0), .int (iI 0), .int (iI 0), .int (iI 0), .int (iI 0)]))] ++ (W3 G q1 u2.1 u2.2.1 u2.2.2 (fun _ => 0) (fun _ => 0) (fun _ => 0) 0)) ++ (W4 G q3 u4.1 u4.2.1 u4.2.2 (fun _ => 0) (fun _ => 0) (fun _ => 0) 0)) := hD
  refine lv_aload_n hx hb dX5_init_26 rfl (lv_at hl 0 rfl) ?_
  refine lv_iconst (v := iI 1) hx hb dX5_init_27 rfl ?_
  refine va_put (v := .int (iI 1)) (ty := .boolean) (ci := 5) (C := RX5) (T := TX5) (N := 16) hx hb hts imX5_init_X5 tyX5 tyX5_ok nmX5 hown hK hP hD hS 0 rfl rfl 3 (by decide) (hts (.fieldLink RX5 25 "GrantedSort$SortState" "isCollecting" "Z") (List.mem_of_getElem? (i := 12) rfl)) (fun _ h9 => h9) rfl (tyX5_ok 3 (by decide)) rfl rfl (Nat.le_of_ble_eq_true rfl) dX5_init_28 (fun H locs hP hD hS => ?_)
  have hP : va_P G.1 vwCl (([(q, .inr (5, [.ref q1, .ref q3, .int (iI 0), .int (iI 1), .int (iI 0), .null, .int (iI 0), .null, .int (iI 0), .int (iI 0), .int (iI 0), .int (iI 0), .int (iI 0), .int (iI 0), .int (iI 0), .int (iI 0)]))] ++ (W3 G q1 u2.1 u2.2.1 u2.2.2 (fun _ => 0) (fun _ => 0) (fun _ => 0) 0)) ++ (W4 G q3 u4.1 u4.2.1 u4.2.2 (fun _ => 0) (fun _ => 0) (fun _ => 0) 0)) H := hP
  have hD : va_D A (([(q, .inr (5, [.ref q1, .ref q3, .int (iI 0), .int (iI 1), .int (iI 0), .null, .int (iI 0), .null, .int (iI 0), .int (iI 0), .int (iI 0), .int (iI 0), .int (iI 0), .int (iI 0), .int (iI 0), .int (iI 0)]))] ++ (W3 G q1 u2.1 u2.2.1 u2.2.2 (fun _ => 0) (fun _ => 0) (fun _ => 0) 0)) ++ (W4 G q3 u4.1 u4.2.1 u4.2.2 (fun _ => 0) (fun _ => 0) (fun _ => 0) 0)) := hD
  refine lv_aload_n hx hb dX5_init_31 rfl (lv_at hl 0 rfl) ?_
  refine lv_bipush (v := iI 6) hx hb dX5_init_32 (by decide) ?_
  refine va_put (v := .int (iI 6)) (ty := .int) (ci := 5) (C := RX5) (T := TX5) (N := 16) hx hb hts imX5_init_X5 tyX5 tyX5_ok nmX5 hown hK hP hD hS 0 rfl rfl 4 (by decide) (hts (.fieldLink RX5 29 "GrantedSort$SortState" "memorySize" "I") (List.mem_of_getElem? (i := 13) rfl)) (fun _ h9 => h9) rfl (tyX5_ok 4 (by decide)) rfl rfl (Nat.le_of_ble_eq_true rfl) dX5_init_34 (fun H locs hP hD hS => ?_)
  have hP : va_P G.1 vwCl (([(q, .inr (5, [.ref q1, .ref q3, .int (iI 0), .int (iI 1), .int (iI 6), .null, .int (iI 0), .null, .int (iI 0), .int (iI 0), .int (iI 0), .int (iI 0), .int (iI 0), .int (iI 0), .int (iI 0), .int (iI 0)]))] ++ (W3 G q1 u2.1 u2.2.1 u2.2.2 (fun _ => 0) (fun _ => 0) (fun _ => 0) 0)) ++ (W4 G q3 u4.1 u4.2.1 u4.2.2 (fun _ => 0) (fun _ => 0) (fun _ => 0) 0)) H := hP
  have hD : va_D A (([(q, .inr (5, [.ref q1, .ref q3, .int (iI 0), .int (iI 1), .int (iI 6), .null, .int (iI 0), .null, .int (iI 0), .int (iI 0), .int (iI 0), .int (iI 0), .int (iI 0), .int (iI 0), .int (iI 0), .int (iI 0)]))] ++ (W3 G q1 u2.1 u2.2.1 u2.2.2 (fun _ => 0) (fun _ => 0) (fun _ => 0) 0)) ++ (W4 G q3 u4.1 u4.2.1 u4.2.2 (fun _ => 0) (fun _ => 0) (fun _ => 0) 0)) := hD
  refine lv_aload_n hx hb dX5_init_37 rfl (lv_at hl 0 rfl) ?_
  refine lv_bipush (v := iI 20) hx hb dX5_init_38 (by decide) ?_
  refine zn_iarr (n := iI 20) hx hb (hts (.arrayClass .int) (List.mem_of_getElem? (i := 14) rfl)) hK hP hD hS hA 20 (by decide) (by decide) (Nat.le_of_ble_eq_true rfl) (Nat.le_of_ble_eq_true rfl) (Nat.le_of_ble_eq_true rfl) dX5_init_40 (fun a5 H hP hD hS => ?_)
  have hP : va_P G.1 vwCl ((([(q, .inr (5, [.ref q1, .ref q3, .int (iI 0), .int (iI 1), .int (iI 6), .null, .int (iI 0), .null, .int (iI 0), .int (iI 0), .int (iI 0), .int (iI 0), .int (iI 0), .int (iI 0), .int (iI 0), .int (iI 0)]))] ++ (W3 G q1 u2.1 u2.2.1 u2.2.2 (fun _ => 0) (fun _ => 0) (fun _ => 0) 0)) ++ (W4 G q3 u4.1 u4.2.1 u4.2.2 (fun _ => 0) (fun _ => 0) (fun _ => 0) 0)) ++ [(a5, eI G 20 (fun _ => 0))]) H := hP
  have hD : va_D A ((([(q, .inr (5, [.ref q1, .ref q3, .int (iI 0), .int (iI 1), .int (iI 6), .null, .int (iI 0), .null, .int (iI 0), .int (iI 0), .int (iI 0), .int (iI 0), .int (iI 0), .int (iI 0), .int (iI 0), .int (iI 0)]))] ++ (W3 G q1 u2.1 u2.2.1 u2.2.2 (fun _ => 0) (fun _ => 0) (fun _ => 0) 0)) ++ (W4 G q3 u4.1 u4.2.1 u4.2.2 (fun _ => 0) (fun _ => 0) (fun _ => 0) 0)) ++ [(a5, eI G 20 (fun _ => 0))]) := hD
  refine va_putF (v := .ref a5) (ty := .array .int) (ci := 5) (C := RX5) (T := TX5) (N := 16) hx hb hts imX5_init_X5 tyX5 tyX5_ok nmX5 hown hK hP hD hS 0 rfl rfl 5 (by decide) (hts (.fieldLink RX5 33 "GrantedSort$SortState" "memoryRows" "[I") (List.mem_of_getElem? (i := 15) rfl)) (fun _ h9 => h9) rfl hin rfl (tyX5_ok 5 (by decide)) rfl rfl (Nat.le_of_ble_eq_true rfl) dX5_init_42 (fun H locs hP hD hS => ?_)
  have hP : va_P G.1 vwCl ((([(q, .inr (5, [.ref q1, .ref q3, .int (iI 0), .int (iI 1), .int (iI 6), .ref a5, .int (iI 0), .null, .int (iI 0), .int (iI 0), .int (iI 0), .int (iI 0), .int (iI 0), .int (iI 0), .int (iI 0), .int (iI 0)]))] ++ (W3 G q1 u2.1 u2.2.1 u2.2.2 (fun _ => 0) (fun _ => 0) (fun _ => 0) 0)) ++ (W4 G q3 u4.1 u4.2.1 u4.2.2 (fun _ => 0) (fun _ => 0) (fun _ => 0) 0)) ++ [(a5, eI G 20 (fun _ => 0))]) H := hP
  have hD : va_D A ((([(q, .inr (5, [.ref q1, .ref q3, .int (iI 0), .int (iI 1), .int (iI 6), .ref a5, .int (iI 0), .null, .int (iI 0), .int (iI 0), .int (iI 0), .int (iI 0), .int (iI 0), .int (iI 0), .int (iI 0), .int (iI 0)]))] ++ (W3 G q1 u2.1 u2.2.1 u2.2.2 (fun _ => 0) (fun _ => 0) (fun _ => 0) 0)) ++ (W4 G q3 u4.1 u4.2.1 u4.2.2 (fun _ => 0) (fun _ => 0) (fun _ => 0) 0)) ++ [(a5, eI G 20 (fun _ => 0))]) := hD
  refine lv_aload_n hx hb dX5_init_45 rfl (lv_at hl 0 rfl) ?_
  refine va_new (ci := 4) (fs := [.null, .null, .null, .int (iI 0)]) (C := RX4) (T := TX4) (N := 4) hx hb hts imX5_init_X4 tyX4 tyX4_ok hown (hts (.classLink RX5 18 RX4) (List.mem_of_getElem? (i := 8) rfl)) (hts (.instantiable RX4 4) (List.mem_of_getElem? (i := 9) rfl)) (hts (.initialized RX4) (List.mem_of_getElem? (i := 10) rfl)) hK hP hD hS hA rfl (fun j hj => by rcases (show j = 0 ∨ j = 1 ∨ j = 2 ∨ j = 3 by omega) with rfl | rfl | rfl | rfl <;> rfl) (Nat.le_of_ble_eq_true rfl) (Nat.le_of_ble_eq_true rfl) dX5_init_46 (fun q6 H hP hD hS => ?_)
  refine lv_dup hx hb dX5_init_49 rfl ?_
  refine zn_nest (c_X4_init l G) ⟨hx, hb, hml, hown, hts⟩ ⟨va_cnB 0 hts gX5_init_X4_init_n20 rfl rfl rfl hN.2.2.1 (hts (.initialized RX4) (List.mem_of_getElem? (i := 10) rfl)) hdX4_init ⟨(Nat.le_of_ble_eq_true rfl), (Nat.le_of_ble_eq_true rfl)⟩, rfl, (hts (.instanceMethod yX4_init) (List.mem_of_getElem? (i := 23) rfl))⟩ hK hN hP hD hS hA hl.1 (Nat.le_of_ble_eq_true rfl) dX5_init_50 ⟨(Nat.le_of_ble_eq_true rfl), (Nat.le_of_ble_eq_true rfl)⟩ (fun u7 H locs hP hD hS => ?_)
  have hP : va_P G.1 vwCl (((([(q, .inr (5, [.ref q1, .ref q3, .int (iI 0), .int (iI 1), .int (iI 6), .ref a5, .int (iI 0), .null, .int (iI 0), .int (iI 0), .int (iI 0), .int (iI 0), .int (iI 0), .int (iI 0), .int (iI 0), .int (iI 0)]))] ++ (W3 G q1 u2.1 u2.2.1 u2.2.2 (fun _ => 0) (fun _ => 0) (fun _ => 0) 0)) ++ (W4 G q3 u4.1 u4.2.1 u4.2.2 (fun _ => 0) (fun _ => 0) (fun _ => 0) 0)) ++ [(a5, eI G 20 (fun _ => 0))]) ++ (W4 G q6 u7.1 u7.2.1 u7.2.2 (fun _ => 0) (fun _ => 0) (fun _ => 0) 0)) H := hP
  have hD : va_D A (((([(q, .inr (5, [.ref q1, .ref q3, .int (iI 0), .int (iI 1), .int (iI 6), .ref a5, .int (iI 0), .null, .int (iI 0), .int (iI 0), .int (iI 0), .int (iI 0), .int (iI 0), .int (iI 0), .int (iI 0), .int (iI 0)]))] ++ (W3 G q1 u2.1 u2.2.1 u2.2.2 (fun _ => 0) (fun _ => 0) (fun _ => 0) 0)) ++ (W4 G q3 u4.1 u4.2.1 u4.2.2 (fun _ => 0) (fun _ => 0) (fun _ => 0) 0)) ++ [(a5, eI G 20 (fun _ => 0))]) ++ (W4 G q6 u7.1 u7.2.1 u7.2.2 (fun _ => 0) (fun _ => 0) (fun _ => 0) 0)) := hD
  refine va_putF (v := .ref q6) (ty := .object "GrantedSort$RunList") (ci := 5) (C := RX5) (T := TX5) (N := 16) hx hb hts imX5_init_X5 tyX5 tyX5_ok nmX5 hown hK hP hD hS 0 rfl rfl 7 (by decide) (hts (.fieldLink RX5 37 "GrantedSort$SortState" "inputs" "LGrantedSort$RunList;") (List.mem_of_getElem? (i := 16) rfl)) (fun _ h9 => h9) rfl hin rfl (tyX5_ok 7 (by decide)) rfl rfl (Nat.le_of_ble_eq_true rfl) dX5_init_53 (fun H locs hP hD hS => ?_)
  have hP : va_P G.1 vwCl (((([(q, .inr (5, [.ref q1, .ref q3, .int (iI 0), .int (iI 1), .int (iI 6), .ref a5, .int (iI 0), .ref q6, .int (iI 0), .int (iI 0), .int (iI 0), .int (iI 0), .int (iI 0), .int (iI 0), .int (iI 0), .int (iI 0)]))] ++ (W3 G q1 u2.1 u2.2.1 u2.2.2 (fun _ => 0) (fun _ => 0) (fun _ => 0) 0)) ++ (W4 G q3 u4.1 u4.2.1 u4.2.2 (fun _ => 0) (fun _ => 0) (fun _ => 0) 0)) ++ [(a5, eI G 20 (fun _ => 0))]) ++ (W4 G q6 u7.1 u7.2.1 u7.2.2 (fun _ => 0) (fun _ => 0) (fun _ => 0) 0)) H := hP
  have hD : va_D A (((([(q, .inr (5, [.ref q1, .ref q3, .int (iI 0), .int (iI 1), .int (iI 6), .ref a5, .int (iI 0), .ref q6, .int (iI 0), .int (iI 0), .int (iI 0), .int (iI 0), .int (iI 0), .int (iI 0), .int (iI 0), .int (iI 0)]))] ++ (W3 G q1 u2.1 u2.2.1 u2.2.2 (fun _ => 0) (fun _ => 0) (fun _ => 0) 0)) ++ (W4 G q3 u4.1 u4.2.1 u4.2.2 (fun _ => 0) (fun _ => 0) (fun _ => 0) 0)) ++ [(a5, eI G 20 (fun _ => 0))]) ++ (W4 G q6 u7.1 u7.2.1 u7.2.2 (fun _ => 0) (fun _ => 0) (fun _ => 0) 0)) := hD
  refine W.widen (k := 13) (n := 1112) (Nat.le_of_ble_eq_true rfl) (Nat.le_of_ble_eq_true rfl) ?_
  exact zn_ret hx hb hr hlocks hK (fun k => [q, q1, u2.1, u2.2.1, u2.2.2, q3, u4.1, u4.2.1, u4.2.2, a5, q6, u7.1, u7.2.1, u7.2.2].getD k 0) hP hD hS dX5_init_56
