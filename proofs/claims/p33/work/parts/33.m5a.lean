theorem imX5_isInMemory_X5 : ∀ w ∈ wsX50, w ∈ wsX5_isInMemory := fun _ h => (List.mem_cons_of_mem _ (List.mem_append_right _ h))
theorem hdX5_isInMemory : yX5_isInMemory.cls = RX5 ∧ yX5_isInMemory.cls ≠ "java/lang/invoke/MethodHandle" ∧ yX5_isInMemory.cls ≠ "java/lang/invoke/VarHandle" ∧ (parseMethodDescriptor yX5_isInMemory.desc).map (fun d => d.parameters.length) = some 1 := by decide +kernel
set_option maxRecDepth 100000 in
set_option maxHeartbeats 4000000 in
theorem c0_X5_isInMemory (l : Launch) (G : ZG) (a : Nat → Nat) (s : SS) (index : Int) (P : Int → Prop) (r_s : RG s) (r_index : rg index) (hwp : wp_X5_isInMemory s index P) : ZI l G yX5_isInMemory wsX5_isInMemory 0 0 [.ref (a 0), .int (iI index)] (W5 G a s) (fun u : Unit => W5 G a s) (fun (z : Int) (u : Unit) => rg z ∧ P z) := by
  unfold wp_X5_isInMemory at hwp
  refine zm_i (cc := cX5_isInMemory) (maxL := 2) (ret := some .boolean) (own := RX5) (lvs := [(0, .ref (a 0)), (1, .int (iI index))]) (by decide) rfl rfl (Nat.le_of_ble_eq_true rfl) rfl ?_
  intro p e sT m args below meth c ls A hx hb hr hml hown hts hlocks hK hP hD hS hA hl
  have k1 := hts (.fieldLink RX5 56 "GrantedSort$SortState" "rowsInMemory" "I") (List.mem_of_getElem? (i := 1) rfl)
  refine lv_iload_n hx hb dX5_isInMemory_0 rfl (lv_at hl 1 rfl) ?_
  refine zr_if_lt (tgt := 16) (x := index) hx hb r_index dX5_isInMemory_1 (by decide) (fun c1 => ?_) (fun c1 => ?_)
  · have h4 := hwp.1 c1
    refine lv_iconst (v := iI 0) hx hb dX5_isInMemory_16 rfl ?_
    exact zr_zret (z := 0) hx hb hr hlocks hK (Or.inl rfl) () hP hD hS dX5_isInMemory_17 ⟨rg_0, h4⟩
  · have h5 := hwp.2 c1
    refine lv_iload_n hx hb dX5_isInMemory_4 rfl (lv_at hl 1 rfl) ?_
    refine lv_aload_n hx hb dX5_isInMemory_5 rfl (lv_at hl 0 rfl) ?_
    refine va_get (v := .int (iI (s.1 6))) (ci := 5) (C := RX5) (T := TX5) (N := 16) hx hb hts imX5_isInMemory_X5 hown hK hP 0 rfl rfl 6 (by decide) k1 (fun _ h9 => h9) rfl dX5_isInMemory_6 ?_
    refine zr_icmp_ge (tgt := 16) (x := index) (y := (s.1 6)) hx hb r_index (r_s.1 6) dX5_isInMemory_9 (by decide) (fun c6 => ?_) (fun c6 => ?_)
    · have h9 := h5.2 c6
      refine lv_iconst (v := iI 0) hx hb dX5_isInMemory_16 rfl ?_
      exact zr_zret (z := 0) hx hb hr hlocks hK (Or.inl rfl) () hP hD hS dX5_isInMemory_17 ⟨rg_0, h9⟩
    · have h10 := h5.1 c6
      refine lv_iconst (v := iI 1) hx hb dX5_isInMemory_12 rfl ?_
      refine lv_goto (tgt := 17) hx hb dX5_isInMemory_13 (by decide) ?_
      exact zr_zret (z := 1) hx hb hr hlocks hK (Or.inr rfl) () hP hD hS dX5_isInMemory_17 ⟨rg_1, h10⟩
theorem c_X5_isInMemory (l : Launch) (G : ZG) (a : Nat → Nat) (s : SS) (index : Int)  (r_s : RG s) (r_index : rg index)  : ZI l G yX5_isInMemory wsX5_isInMemory 0 0 [.ref (a 0), .int (iI index)] (W5 G a s) (fun _ : Unit => W5 G a s) (fun (z : Int) (_ : Unit) => z = (pz (0 ≤ index ∧ index < (s.1 6))) ∧ rg z) := by
  refine ZI.fn (w1 := fun u : Unit => W5 G a s) (fun z u hq => ?_) (c0_X5_isInMemory l G a s index (fun z => z = (pz (0 ≤ index ∧ index < (s.1 6)))) r_s r_index (sp_X5_isInMemory s index r_s r_index ))
  obtain ⟨rz, ez⟩ := hq
  exact ⟨rfl, ⟨ez, rz⟩⟩
theorem imX5_memoryRowAt_X5 : ∀ w ∈ wsX50, w ∈ wsX5_memoryRowAt := fun _ h => (List.mem_cons_of_mem _ (List.mem_append_right _ h))
theorem hdX5_memoryRowAt : yX5_memoryRowAt.cls = RX5 ∧ yX5_memoryRowAt.cls ≠ "java/lang/invoke/MethodHandle" ∧ yX5_memoryRowAt.cls ≠ "java/lang/invoke/VarHandle" ∧ (parseMethodDescriptor yX5_memoryRowAt.desc).map (fun d => d.parameters.length) = some 1 := by decide +kernel
set_option maxRecDepth 100000 in
set_option maxHeartbeats 4000000 in
theorem c0_X5_memoryRowAt (l : Launch) (G : ZG) (a : Nat → Nat) (s : SS) (index : Int) (P : Int → Prop) (r_s : RG s) (r_index : rg index) (hwp : wp_X5_memoryRowAt s index P) : ZI l G yX5_memoryRowAt wsX5_memoryRowAt 0 0 [.ref (a 0), .int (iI index)] (W5 G a s) (fun u : Unit => W5 G a s) (fun (z : Int) (u : Unit) => rg z ∧ P z) := by
  unfold wp_X5_memoryRowAt at hwp
  refine zm_i (cc := cX5_memoryRowAt) (maxL := 2) (ret := some .int) (own := RX5) (lvs := [(0, .ref (a 0)), (1, .int (iI index))]) (by decide) rfl rfl (Nat.le_of_ble_eq_true rfl) rfl ?_
  intro p e sT m args below meth c ls A hx hb hr hml hown hts hlocks hK hP hD hS hA hl
  have k1 := hts (.fieldLink RX5 33 "GrantedSort$SortState" "memoryRows" "[I") (List.mem_of_getElem? (i := 1) rfl)
  refine lv_iload_n hx hb dX5_memoryRowAt_0 rfl (lv_at hl 1 rfl) ?_
  refine zr_if_lt (tgt := 19) (x := index) hx hb r_index dX5_memoryRowAt_1 (by decide) (fun c1 => ?_) (fun c1 => ?_)
  · have h4 := hwp.1 c1
    refine lv_iconst (v := iI (-1)) hx hb dX5_memoryRowAt_19 rfl ?_
    exact zr_iret (z := (-1)) hx hb hr hlocks hK () hP hD hS dX5_memoryRowAt_20 ⟨rg_m1, h4⟩
  · have h5 := hwp.2 c1
    refine lv_iload_n hx hb dX5_memoryRowAt_4 rfl (lv_at hl 1 rfl) ?_
    refine lv_bipush (v := iI 20) hx hb dX5_memoryRowAt_5 (by decide) ?_
    refine zr_icmp_ge (tgt := 19) (x := index) (y := 20) hx hb r_index rg_20 dX5_memoryRowAt_7 (by decide) (fun c6 => ?_) (fun c6 => ?_)
    · have h9 := h5.2 c6
      refine lv_iconst (v := iI (-1)) hx hb dX5_memoryRowAt_19 rfl ?_
      exact zr_iret (z := (-1)) hx hb hr hlocks hK () hP hD hS dX5_memoryRowAt_20 ⟨rg_m1, h9⟩
    · have h10 := h5.1 c6
      refine lv_aload_n hx hb dX5_memoryRowAt_10 rfl (lv_at hl 0 rfl) ?_
      refine va_get (v := .ref (a 9)) (ci := 5) (C := RX5) (T := TX5) (N := 16) hx hb hts imX5_memoryRowAt_X5 hown hK hP 0 rfl rfl 5 (by decide) k1 (fun _ h9 => h9) rfl dX5_memoryRowAt_11 ?_
      refine lv_iload_n hx hb dX5_memoryRowAt_14 rfl (lv_at hl 1 rfl) ?_
      obtain ⟨b11, h12⟩ := h10
      refine zr_iald (n := 20) (f := (s.2 9)) (i := index) hx hb hK hP 9 rfl r_index b11 dX5_memoryRowAt_15 ?_
      refine lv_goto (tgt := 20) hx hb dX5_memoryRowAt_16 (by decide) ?_
      exact zr_iret (z := (s.2 9) index) hx hb hr hlocks hK () hP hD hS dX5_memoryRowAt_20 ⟨((r_s.2 9) index), h12⟩
theorem c_X5_memoryRowAt (l : Launch) (G : ZG) (a : Nat → Nat) (s : SS) (index : Int)  (r_s : RG s) (r_index : rg index) (p0 : 0 ≤ index ∧ index < 20) : ZI l G yX5_memoryRowAt wsX5_memoryRowAt 0 0 [.ref (a 0), .int (iI index)] (W5 G a s) (fun _ : Unit => W5 G a s) (fun (z : Int) (_ : Unit) => z = ((s.2 9) index) ∧ rg z) := by
  refine ZI.fn (w1 := fun u : Unit => W5 G a s) (fun z u hq => ?_) (c0_X5_memoryRowAt l G a s index (fun z => z = ((s.2 9) index)) r_s r_index (sp_X5_memoryRowAt s index r_s r_index p0))
  obtain ⟨rz, ez⟩ := hq
  exact ⟨rfl, ⟨ez, rz⟩⟩
theorem imX5_hasMerge_X4 : ∀ w ∈ wsX40, w ∈ wsX5_hasMerge := fun _ h => (List.mem_cons_of_mem _ (List.mem_append_right _ h))
theorem imX5_hasMerge_X5 : ∀ w ∈ wsX50, w ∈ wsX5_hasMerge := fun _ h => (List.mem_cons_of_mem _ (List.mem_append_left _ (List.mem_append_right _ h)))
theorem hdX5_hasMerge : yX5_hasMerge.cls = RX5 ∧ yX5_hasMerge.cls ≠ "java/lang/invoke/MethodHandle" ∧ yX5_hasMerge.cls ≠ "java/lang/invoke/VarHandle" ∧ (parseMethodDescriptor yX5_hasMerge.desc).map (fun d => d.parameters.length) = some 0 := by decide +kernel
set_option maxRecDepth 100000 in
set_option maxHeartbeats 4000000 in
theorem c0_X5_hasMerge (l : Launch) (G : ZG) (a : Nat → Nat) (s : SS)  (P : Int → Prop) (r_s : RG s)  (hwp : wp_X5_hasMerge s P) : ZI l G yX5_hasMerge wsX5_hasMerge 0 0 [.ref (a 0)] (W5 G a s) (fun u : Unit => W5 G a s) (fun (z : Int) (u : Unit) => rg z ∧ P z) := by
  unfold wp_X5_hasMerge at hwp
  refine zm_i (cc := cX5_hasMerge) (maxL := 1) (ret := some .boolean) (own := RX5) (lvs := [(0, .ref (a 0))]) (by decide) rfl rfl (Nat.le_of_ble_eq_true rfl) rfl ?_
  intro p e sT m args below meth c ls A hx hb hr hml hown hts hlocks hK hP hD hS hA hl
  have k1 := hts (.fieldLink RX5 37 "GrantedSort$SortState" "inputs" "LGrantedSort$RunList;") (List.mem_of_getElem? (i := 1) rfl)
  have k2 := hts (.fieldLink RX5 83 "GrantedSort$RunList" "total" "I") (List.mem_of_getElem? (i := 2) rfl)
  refine lv_aload_n hx hb dX5_hasMerge_0 rfl (lv_at hl 0 rfl) ?_
  refine va_get (v := .ref (a 10)) (ci := 5) (C := RX5) (T := TX5) (N := 16) hx hb hts imX5_hasMerge_X5 hown hK hP 0 rfl rfl 7 (by decide) k1 (fun _ h9 => h9) rfl dX5_hasMerge_1 ?_
  refine va_get (v := .int (iI (s.1 18))) (ci := 4) (C := RX4) (T := TX4) (N := 4) hx hb hts imX5_hasMerge_X4 hown hK hP 10 rfl rfl 3 (by decide) k2 (fun _ h9 => h9) rfl dX5_hasMerge_4 ?_
  refine zr_if_le (tgt := 14) (x := (s.1 18)) hx hb (r_s.1 18) dX5_hasMerge_7 (by decide) (fun c1 => ?_) (fun c1 => ?_)
  · have h4 := hwp.2 c1
    refine lv_iconst (v := iI 0) hx hb dX5_hasMerge_14 rfl ?_
    exact zr_zret (z := 0) hx hb hr hlocks hK (Or.inl rfl) () hP hD hS dX5_hasMerge_15 ⟨rg_0, h4⟩
  · have h5 := hwp.1 c1
    refine lv_iconst (v := iI 1) hx hb dX5_hasMerge_10 rfl ?_
    refine lv_goto (tgt := 15) hx hb dX5_hasMerge_11 (by decide) ?_
    exact zr_zret (z := 1) hx hb hr hlocks hK (Or.inr rfl) () hP hD hS dX5_hasMerge_15 ⟨rg_1, h5⟩
theorem c_X5_hasMerge (l : Launch) (G : ZG) (a : Nat → Nat) (s : SS)   (r_s : RG s)   : ZI l G yX5_hasMerge wsX5_hasMerge 0 0 [.ref (a 0)] (W5 G a s) (fun _ : Unit => W5 G a s) (fun (z : Int) (_ : Unit) => z = (pz (0 < (s.1 18))) ∧ rg z) := by
  refine ZI.fn (w1 := fun u : Unit => W5 G a s) (fun z u hq => ?_) (c0_X5_hasMerge l G a s (fun z => z = (pz (0 < (s.1 18)))) r_s  (sp_X5_hasMerge s r_s  ))
  obtain ⟨rz, ez⟩ := hq
  exact ⟨rfl, ⟨ez, rz⟩⟩
theorem imX5_isSorted_X4 : ∀ w ∈ wsX40, w ∈ wsX5_isSorted := fun _ h => (List.mem_cons_of_mem _ (List.mem_append_right _ h))
theorem imX5_isSorted_X5 : ∀ w ∈ wsX50, w ∈ wsX5_isSorted := fun _ h => (List.mem_cons_of_mem _ (List.mem_append_left _ (List.mem_append_right _ h)))
theorem hdX5_isSorted : yX5_isSorted.cls = RX5 ∧ yX5_isSorted.cls ≠ "java/lang/invoke/MethodHandle" ∧ yX5_isSorted.cls ≠ "java/lang/invoke/VarHandle" ∧ (parseMethodDescriptor yX5_isSorted.desc).map (fun d => d.parameters.length) = some 0 := by decide +kernel
set_option maxRecDepth 100000 in
set_option maxHeartbeats 4000000 in
theorem c0_X5_isSorted (l : Launch) (G : ZG) (a : Nat → Nat) (s : SS)  (P : Int → Prop) (r_s : RG s)  (hwp : wp_X5_isSorted s P) : ZI l G yX5_isSorted wsX5_isSorted 1 20 [.ref (a 0)] (W5 G a s) (fun u : Unit => W5 G a s) (fun (z : Int) (u : Unit) => rg z ∧ P z) := by
  unfold wp_X5_isSorted at hwp
  refine zm_i (cc := cX5_isSorted) (maxL := 1) (ret := some .boolean) (own := RX5) (lvs := [(0, .ref (a 0))]) (by decide) rfl rfl (Nat.le_of_ble_eq_true rfl) rfl ?_
  intro p e sT m args below meth c ls A hx hb hr hml hown hts hlocks hK hP hD hS hA hl
  have k1 := hts (.fieldLink RX5 25 "GrantedSort$SortState" "isCollecting" "Z") (List.mem_of_getElem? (i := 1) rfl)
  have k2 := hts (.fieldLink RX5 21 "GrantedSort$SortState" "disk" "LGrantedSort$RunList;") (List.mem_of_getElem? (i := 2) rfl)
  have k3 := hts (.fieldLink RX5 83 "GrantedSort$RunList" "total" "I") (List.mem_of_getElem? (i := 3) rfl)
  refine lv_aload_n hx hb dX5_isSorted_0 rfl (lv_at hl 0 rfl) ?_
  refine va_get (v := .int (iI (s.1 3))) (ci := 5) (C := RX5) (T := TX5) (N := 16) hx hb hts imX5_isSorted_X5 hown hK hP 0 rfl rfl 3 (by decide) k1 (fun _ h9 => h9) rfl dX5_isSorted_1 ?_
  refine zr_if_ne (tgt := 29) (x := (s.1 3)) hx hb (r_s.1 3) dX5_isSorted_4 (by decide) (fun c1 => ?_) (fun c1 => ?_)
  · have h4 := hwp.2 c1
    refine lv_iconst (v := iI 0) hx hb dX5_isSorted_29 rfl ?_
    exact zr_zret (z := 0) hx hb hr hlocks hK (Or.inl rfl) () hP hD hS dX5_isSorted_30 ⟨rg_0, h4⟩
  · have h5 := hwp.1 c1
    refine lv_aload_n hx hb dX5_isSorted_7 rfl (lv_at hl 0 rfl) ?_
    refine zc_vi (As := []) (rest := []) (w2 := fun u_6 => W5 G a s) (c_X5_hasMerge l G a s r_s) ⟨hx, hb, hml, hown, hts⟩ (cwV 0 hts gX5_isSorted_X5_hasMerge rfl rfl rfl hdX5_hasMerge ⟨Nat.le_of_ble_eq_true rfl, Nat.le_of_ble_eq_true rfl⟩) hK hP hD hS hA (q0 := 0) rfl rfl [0, 1, 2, 3, 4, 5, 6, 7, 8, 9, 10, 11, 12, 13] [] [0, 1, 2, 3, 4, 5, 6, 7, 8, 9, 10, 11, 12, 13] rfl rfl rfl rfl (by decide) (fun _ => rfl) rfl rfl hl.1 rfl (Nat.le_of_ble_eq_true rfl) dX5_isSorted_8 ⟨Nat.zero_le _, Nat.zero_le _⟩ (fun z7 u_6 H locs hw hP hD hS => ?_)
    obtain ⟨rfl, r8⟩ := hw
    have hP : va_P G.1 vwCl (W5 G a s) H := hP
    have hD : va_D A (W5 G a s) := hD
    refine zr_ifB_ne (tgt := 29)  hx hb dX5_isSorted_11 (by decide) (fun c9 => ?_) (fun c9 => ?_)
    · have h12 := h5.1 c9
      refine lv_iconst (v := iI 0) hx hb dX5_isSorted_29 rfl ?_
      exact zr_zret (z := 0) hx hb hr hlocks hK (Or.inl rfl) () hP hD hS dX5_isSorted_30 ⟨rg_0, h12⟩
    · have h13 := h5.2 c9
      refine lv_aload_n hx hb dX5_isSorted_14 rfl (lv_at hl 0 rfl) ?_
      refine va_get (v := .ref (a 5)) (ci := 5) (C := RX5) (T := TX5) (N := 16) hx hb hts imX5_isSorted_X5 hown hK hP 0 rfl rfl 1 (by decide) k2 (fun _ h9 => h9) rfl dX5_isSorted_15 ?_
      refine va_get (v := .int (iI (s.1 17))) (ci := 4) (C := RX4) (T := TX4) (N := 4) hx hb hts imX5_isSorted_X4 hown hK hP 5 rfl rfl 3 (by decide) k3 (fun _ h9 => h9) rfl dX5_isSorted_18 ?_
      refine lv_iconst (v := iI 1) hx hb dX5_isSorted_21 rfl ?_
      refine zr_icmp_gt (tgt := 29) (x := (s.1 17)) (y := 1) hx hb (r_s.1 17) rg_1 dX5_isSorted_22 (by decide) (fun c14 => ?_) (fun c14 => ?_)
      · have h17 := h13.1 c14
        refine lv_iconst (v := iI 0) hx hb dX5_isSorted_29 rfl ?_
        exact zr_zret (z := 0) hx hb hr hlocks hK (Or.inl rfl) () hP hD hS dX5_isSorted_30 ⟨rg_0, h17⟩
      · have h18 := h13.2 c14
        refine lv_iconst (v := iI 1) hx hb dX5_isSorted_25 rfl ?_
        refine lv_goto (tgt := 30) hx hb dX5_isSorted_26 (by decide) ?_
        exact zr_zret (z := 1) hx hb hr hlocks hK (Or.inr rfl) () hP hD hS dX5_isSorted_30 ⟨rg_1, h18⟩
theorem c_X5_isSorted (l : Launch) (G : ZG) (a : Nat → Nat) (s : SS)   (r_s : RG s)   : ZI l G yX5_isSorted wsX5_isSorted 1 20 [.ref (a 0)] (W5 G a s) (fun _ : Unit => W5 G a s) (fun (z : Int) (_ : Unit) => z = (pz ((s.1 3) = 0 ∧ ¬ 0 < (s.1 18) ∧ (s.1 17) ≤ 1)) ∧ rg z) := by
  refine ZI.fn (w1 := fun u : Unit => W5 G a s) (fun z u hq => ?_) (c0_X5_isSorted l G a s (fun z => z = (pz ((s.1 3) = 0 ∧ ¬ 0 < (s.1 18) ∧ (s.1 17) ≤ 1))) r_s  (sp_X5_isSorted s r_s  ))
  obtain ⟨rz, ez⟩ := hq
  exact ⟨rfl, ⟨ez, rz⟩⟩
theorem imX5_ways_X5 : ∀ w ∈ wsX50, w ∈ wsX5_ways := fun _ h => (List.mem_cons_of_mem _ (List.mem_append_right _ h))
theorem hdX5_ways : yX5_ways.cls = RX5 ∧ yX5_ways.cls ≠ "java/lang/invoke/MethodHandle" ∧ yX5_ways.cls ≠ "java/lang/invoke/VarHandle" ∧ (parseMethodDescriptor yX5_ways.desc).map (fun d => d.parameters.length) = some 0 := by decide +kernel
set_option maxRecDepth 100000 in
set_option maxHeartbeats 4000000 in
theorem c0_X5_ways (l : Launch) (G : ZG) (a : Nat → Nat) (s : SS)  (P : Int → Prop) (r_s : RG s)  (hwp : wp_X5_ways s P) : ZI l G yX5_ways wsX5_ways 1 20 [.ref (a 0)] (W5 G a s) (fun u : Unit => W5 G a s) (fun (z : Int) (u : Unit) => rg z ∧ P z) := by
  unfold wp_X5_ways at hwp
  refine zm_i (cc := cX5_ways) (maxL := 1) (ret := some .int) (own := RX5) (lvs := [(0, .ref (a 0))]) (by decide) rfl rfl (Nat.le_of_ble_eq_true rfl) rfl ?_
  intro p e sT m args below meth c ls A hx hb hr hml hown hts hlocks hK hP hD hS hA hl
  have k1 := hts (.fieldLink RX5 29 "GrantedSort$SortState" "memorySize" "I") (List.mem_of_getElem? (i := 1) rfl)
  have k2 := hts (.methodLink RX5 90 Lib.Math.min.name) (List.mem_of_getElem? (i := 2) rfl)
  have k3 := hts (.static Lib.Math.min.name) (List.mem_of_getElem? (i := 3) rfl)
  have k4 := hts (.initialized "java/lang/Math") (List.mem_of_getElem? (i := 4) rfl)
  have k5 := hts (.code Lib.Math.min.name Lib.Math.min.code 2 (some .int)) (List.mem_of_getElem? (i := 5) rfl)
  refine lv_aload_n hx hb dX5_ways_0 rfl (lv_at hl 0 rfl) ?_
  refine va_get (v := .int (iI (s.1 4))) (ci := 5) (C := RX5) (T := TX5) (N := 16) hx hb hts imX5_ways_X5 hown hK hP 0 rfl rfl 4 (by decide) k1 (fun _ h9 => h9) rfl dX5_ways_1 ?_
  refine lv_iconst (v := iI 1) hx hb dX5_ways_4 rfl ?_
  refine zr_isub (x := (s.1 4)) (y := 1) hx hb dX5_ways_5 ?_
  obtain ⟨r1, h2⟩ := hwp
  refine lv_bipush (v := iI 8) hx hb dX5_ways_6 (by decide) ?_
  refine zr_mmin (x := (s.1 4) - 1) (y := 8) r1 rg_8 hx hb (hml.trans hl.1.symm) hown k2 k3 k4 k5 (Nat.le_of_ble_eq_true rfl) (Nat.le_of_ble_eq_true rfl) (Nat.zero_le _) (Nat.zero_le _) dX5_ways_8 ?_
  exact zr_iret (z := min ((s.1 4) - 1) 8) hx hb hr hlocks hK () hP hD hS dX5_ways_11 ⟨(rg_min r1 rg_8), h2⟩
theorem c_X5_ways (l : Launch) (G : ZG) (a : Nat → Nat) (s : SS)   (r_s : RG s)  (p0 : 2 ≤ (s.1 4) ∧ (s.1 4) ≤ 20) : ZI l G yX5_ways wsX5_ways 1 20 [.ref (a 0)] (W5 G a s) (fun _ : Unit => W5 G a s) (fun (z : Int) (_ : Unit) => z = (waysZ (s.1 4)) ∧ rg z) := by
  refine ZI.fn (w1 := fun u : Unit => W5 G a s) (fun z u hq => ?_) (c0_X5_ways l G a s (fun z => z = (waysZ (s.1 4))) r_s  (sp_X5_ways s r_s  p0))
  obtain ⟨rz, ez⟩ := hq
  exact ⟨rfl, ⟨ez, rz⟩⟩
theorem imX5_memoryInUse_X4 : ∀ w ∈ wsX40, w ∈ wsX5_memoryInUse := fun _ h => (List.mem_cons_of_mem _ (List.mem_append_right _ h))
theorem imX5_memoryInUse_X5 : ∀ w ∈ wsX50, w ∈ wsX5_memoryInUse := fun _ h => (List.mem_cons_of_mem _ (List.mem_append_left _ (List.mem_append_right _ h)))
theorem hdX5_memoryInUse : yX5_memoryInUse.cls = RX5 ∧ yX5_memoryInUse.cls ≠ "java/lang/invoke/MethodHandle" ∧ yX5_memoryInUse.cls ≠ "java/lang/invoke/VarHandle" ∧ (parseMethodDescriptor yX5_memoryInUse.desc).map (fun d => d.parameters.length) = some 0 := by decide +kernel
set_option maxRecDepth 100000 in
set_option maxHeartbeats 4000000 in
theorem c0_X5_memoryInUse (l : Launch) (G : ZG) (a : Nat → Nat) (s : SS)  (P : Int → Prop) (r_s : RG s)  (hwp : wp_X5_memoryInUse s P) : ZI l G yX5_memoryInUse wsX5_memoryInUse 1 20 [.ref (a 0)] (W5 G a s) (fun u : Unit => W5 G a s) (fun (z : Int) (u : Unit) => rg z ∧ P z) := by
  unfold wp_X5_memoryInUse at hwp
  refine zm_i (cc := cX5_memoryInUse) (maxL := 1) (ret := some .int) (own := RX5) (lvs := [(0, .ref (a 0))]) (by decide) rfl rfl (Nat.le_of_ble_eq_true rfl) rfl ?_
  intro p e sT m args below meth c ls A hx hb hr hml hown hts hlocks hK hP hD hS hA hl
  have k1 := hts (.fieldLink RX5 25 "GrantedSort$SortState" "isCollecting" "Z") (List.mem_of_getElem? (i := 1) rfl)
  have k2 := hts (.fieldLink RX5 56 "GrantedSort$SortState" "rowsInMemory" "I") (List.mem_of_getElem? (i := 2) rfl)
  have k3 := hts (.fieldLink RX5 37 "GrantedSort$SortState" "inputs" "LGrantedSort$RunList;") (List.mem_of_getElem? (i := 3) rfl)
  have k4 := hts (.fieldLink RX5 83 "GrantedSort$RunList" "total" "I") (List.mem_of_getElem? (i := 4) rfl)
  refine lv_aload_n hx hb dX5_memoryInUse_0 rfl (lv_at hl 0 rfl) ?_
  refine va_get (v := .int (iI (s.1 3))) (ci := 5) (C := RX5) (T := TX5) (N := 16) hx hb hts imX5_memoryInUse_X5 hown hK hP 0 rfl rfl 3 (by decide) k1 (fun _ h9 => h9) rfl dX5_memoryInUse_1 ?_
  refine zr_if_eq (tgt := 12) (x := (s.1 3)) hx hb (r_s.1 3) dX5_memoryInUse_4 (by decide) (fun c1 => ?_) (fun c1 => ?_)
  · have h4 := hwp.1 c1
    refine lv_aload_n hx hb dX5_memoryInUse_12 rfl (lv_at hl 0 rfl) ?_
    refine zc_vi (As := []) (rest := []) (w2 := fun u_5 => W5 G a s) (c_X5_hasMerge l G a s r_s) ⟨hx, hb, hml, hown, hts⟩ (cwV 0 hts gX5_memoryInUse_X5_hasMerge rfl rfl rfl hdX5_hasMerge ⟨Nat.le_of_ble_eq_true rfl, Nat.le_of_ble_eq_true rfl⟩) hK hP hD hS hA (q0 := 0) rfl rfl [0, 1, 2, 3, 4, 5, 6, 7, 8, 9, 10, 11, 12, 13] [] [0, 1, 2, 3, 4, 5, 6, 7, 8, 9, 10, 11, 12, 13] rfl rfl rfl rfl (by decide) (fun _ => rfl) rfl rfl hl.1 rfl (Nat.le_of_ble_eq_true rfl) dX5_memoryInUse_13 ⟨Nat.zero_le _, Nat.zero_le _⟩ (fun z6 u_5 H locs hw hP hD hS => ?_)
    obtain ⟨rfl, r7⟩ := hw
    have hP : va_P G.1 vwCl (W5 G a s) H := hP
    have hD : va_D A (W5 G a s) := hD
    refine zr_ifB_eq (tgt := 31)  hx hb dX5_memoryInUse_16 (by decide) (fun c8 => ?_) (fun c8 => ?_)
    · have h11 := h4.2 c8
      refine lv_iconst (v := iI 0) hx hb dX5_memoryInUse_31 rfl ?_
      exact zr_iret (z := 0) hx hb hr hlocks hK () hP hD hS dX5_memoryInUse_32 ⟨rg_0, h11⟩
    · have h12 := h4.1 c8
      refine lv_aload_n hx hb dX5_memoryInUse_19 rfl (lv_at hl 0 rfl) ?_
      refine va_get (v := .ref (a 10)) (ci := 5) (C := RX5) (T := TX5) (N := 16) hx hb hts imX5_memoryInUse_X5 hown hK hP 0 rfl rfl 7 (by decide) k3 (fun _ h9 => h9) rfl dX5_memoryInUse_20 ?_
      refine va_get (v := .int (iI (s.1 18))) (ci := 4) (C := RX4) (T := TX4) (N := 4) hx hb hts imX5_memoryInUse_X4 hown hK hP 10 rfl rfl 3 (by decide) k4 (fun _ h9 => h9) rfl dX5_memoryInUse_23 ?_
      refine lv_iconst (v := iI 1) hx hb dX5_memoryInUse_26 rfl ?_
      refine zr_iadd (x := (s.1 18)) (y := 1) hx hb dX5_memoryInUse_27 ?_
      obtain ⟨r13, h14⟩ := h12
      refine lv_goto (tgt := 32) hx hb dX5_memoryInUse_28 (by decide) ?_
      exact zr_iret (z := (s.1 18) + 1) hx hb hr hlocks hK () hP hD hS dX5_memoryInUse_32 ⟨r13, h14⟩
  · have h15 := hwp.2 c1
    refine lv_aload_n hx hb dX5_memoryInUse_7 rfl (lv_at hl 0 rfl) ?_
    refine va_get (v := .int (iI (s.1 6))) (ci := 5) (C := RX5) (T := TX5) (N := 16) hx hb hts imX5_memoryInUse_X5 hown hK hP 0 rfl rfl 6 (by decide) k2 (fun _ h9 => h9) rfl dX5_memoryInUse_8 ?_
    exact zr_iret (z := (s.1 6)) hx hb hr hlocks hK () hP hD hS dX5_memoryInUse_11 ⟨(r_s.1 6), h15⟩
theorem c_X5_memoryInUse (l : Launch) (G : ZG) (a : Nat → Nat) (s : SS)   (r_s : RG s)  (p0 : 0 ≤ (s.1 18) ∧ (s.1 18) ≤ 120) : ZI l G yX5_memoryInUse wsX5_memoryInUse 1 20 [.ref (a 0)] (W5 G a s) (fun _ : Unit => W5 G a s) (fun (z : Int) (_ : Unit) => z = (if (s.1 3) = 0 then (if 0 < (s.1 18) then (s.1 18) + 1 else 0) else (s.1 6)) ∧ rg z) := by
  refine ZI.fn (w1 := fun u : Unit => W5 G a s) (fun z u hq => ?_) (c0_X5_memoryInUse l G a s (fun z => z = (if (s.1 3) = 0 then (if 0 < (s.1 18) then (s.1 18) + 1 else 0) else (s.1 6))) r_s  (sp_X5_memoryInUse s r_s  p0))
  obtain ⟨rz, ez⟩ := hq
  exact ⟨rfl, ⟨ez, rz⟩⟩
theorem imX5_placeInMemory_X5 : ∀ w ∈ wsX50, w ∈ wsX5_placeInMemory := fun _ h => (List.mem_cons_of_mem _ (List.mem_append_right _ h))
theorem hdX5_placeInMemory : yX5_placeInMemory.cls = RX5 ∧ yX5_placeInMemory.cls ≠ "java/lang/invoke/MethodHandle" ∧ yX5_placeInMemory.cls ≠ "java/lang/invoke/VarHandle" ∧ (parseMethodDescriptor yX5_placeInMemory.desc).map (fun d => d.parameters.length) = some 2 := by decide +kernel
set_option maxRecDepth 100000 in
set_option maxHeartbeats 4000000 in
theorem c0_X5_placeInMemory (l : Launch) (G : ZG) (a : Nat → Nat) (s : SS) (index : Int) (row : Int) (P : SS → Prop) (r_s : RG s) (r_index : rg index) (r_row : rg row) (hwp : wp_X5_placeInMemory s index row P) : ZV l G yX5_placeInMemory wsX5_placeInMemory 0 0 [.ref (a 0), .int (iI index), .int (iI row)] (W5 G a s) (fun u : SS => W5 G a u) (fun (u : SS) => RG u ∧ P u) := by
  unfold wp_X5_placeInMemory at hwp
  refine zm_v (cc := cX5_placeInMemory) (maxL := 3) (ret := none) (own := RX5) (lvs := [(0, .ref (a 0)), (1, .int (iI index)), (2, .int (iI row))]) (by decide) rfl rfl (Nat.le_of_ble_eq_true rfl) rfl ?_
  intro p e sT m args below meth c ls A hx hb hr hml hown hts hlocks hK hP hD hS hA hl
  have k1 := hts (.fieldLink RX5 33 "GrantedSort$SortState" "memoryRows" "[I") (List.mem_of_getElem? (i := 1) rfl)
  refine lv_iload_n hx hb dX5_placeInMemory_0 rfl (lv_at hl 1 rfl) ?_
  refine zr_if_lt (tgt := 17) (x := index) hx hb r_index dX5_placeInMemory_1 (by decide) (fun c1 => ?_) (fun c1 => ?_)
  · have h4 := hwp.1 c1
    exact zr_vret hx hb hr hlocks hK (s) hP hD hS dX5_placeInMemory_17 ⟨r_s, h4⟩
  · have h5 := hwp.2 c1
    refine lv_iload_n hx hb dX5_placeInMemory_4 rfl (lv_at hl 1 rfl) ?_
    refine lv_bipush (v := iI 20) hx hb dX5_placeInMemory_5 (by decide) ?_
    refine zr_icmp_ge (tgt := 17) (x := index) (y := 20) hx hb r_index rg_20 dX5_placeInMemory_7 (by decide) (fun c6 => ?_) (fun c6 => ?_)
    · have h9 := h5.2 c6
      exact zr_vret hx hb hr hlocks hK (s) hP hD hS dX5_placeInMemory_17 ⟨r_s, h9⟩
    · have h10 := h5.1 c6
      refine lv_aload_n hx hb dX5_placeInMemory_10 rfl (lv_at hl 0 rfl) ?_
      refine va_get (v := .ref (a 9)) (ci := 5) (C := RX5) (T := TX5) (N := 16) hx hb hts imX5_placeInMemory_X5 hown hK hP 0 rfl rfl 5 (by decide) k1 (fun _ h9 => h9) rfl dX5_placeInMemory_11 ?_
      refine lv_iload_n hx hb dX5_placeInMemory_14 rfl (lv_at hl 1 rfl) ?_
      refine lv_iload_n hx hb dX5_placeInMemory_15 rfl (lv_at hl 2 rfl) ?_
      obtain ⟨b11, h12⟩ := h10
      refine zr_iast (n := 20) (f := (s.2 9)) (i := index) (x := row) hx hb hK hP hD hS 9 rfl r_index b11 dX5_placeInMemory_16 (fun H locs hP hD hS => ?_)
      have hP : va_P G.1 vwCl (W5 G a (sA s 9 (uZ (s.2 9) index row))) H := hP
      have hD : va_D A (W5 G a (sA s 9 (uZ (s.2 9) index row))) := hD
      exact zr_vret hx hb hr hlocks hK (sA s 9 (uZ (s.2 9) index row)) hP hD hS dX5_placeInMemory_17 ⟨(RG_A r_s (rgA_u (i := index) (r_s.2 9) r_row)), h12⟩
theorem c_X5_placeInMemory (l : Launch) (G : ZG) (a : Nat → Nat) (s : SS) (index : Int) (row : Int)  (r_s : RG s) (r_index : rg index) (r_row : rg row) (p0 : 0 ≤ index ∧ index < 20) : ZV l G yX5_placeInMemory wsX5_placeInMemory 0 0 [.ref (a 0), .int (iI index), .int (iI row)] (W5 G a s) (fun _ : Unit => W5 G a (sA s 9 (uZ (s.2 9) index row))) (fun (_ : Unit) => RG (sA s 9 (uZ (s.2 9) index row))) := by
  refine ZV.fn (w1 := fun u : SS => W5 G a u) (fun  u hq => ?_) (c0_X5_placeInMemory l G a s index row (fun o0 => o0 = (sA s 9 (uZ (s.2 9) index row))) r_s r_index r_row (sp_X5_placeInMemory s index row r_s r_index r_row p0))
  obtain ⟨ro0, eo0⟩ := hq
  exact ⟨by rw [eo0], (by rw [← eo0]; exact ro0)⟩
theorem imX5_canBeginMerge_X4 : ∀ w ∈ wsX40, w ∈ wsX5_canBeginMerge := fun _ h => (List.mem_cons_of_mem _ (List.mem_append_right _ h))
theorem imX5_canBeginMerge_X5 : ∀ w ∈ wsX50, w ∈ wsX5_canBeginMerge := fun _ h => (List.mem_cons_of_mem _ (List.mem_append_left _ (List.mem_append_right _ h)))
theorem hdX5_canBeginMerge : yX5_canBeginMerge.cls = RX5 ∧ yX5_canBeginMerge.cls ≠ "java/lang/invoke/MethodHandle" ∧ yX5_canBeginMerge.cls ≠ "java/lang/invoke/VarHandle" ∧ (parseMethodDescriptor yX5_canBeginMerge.desc).map (fun d => d.parameters.length) = some 0 := by decide +kernel
set_option maxRecDepth 100000 in
set_option maxHeartbeats 4000000 in
theorem c0_X5_canBeginMerge (l : Launch) (G : ZG) (a : Nat → Nat) (s : SS)  (P : Int → Prop) (r_s : RG s)  (hwp : wp_X5_canBeginMerge s P) : ZI l G yX5_canBeginMerge wsX5_canBeginMerge 2 40 [.ref (a 0)] (W5 G a s) (fun u : Unit => W5 G a s) (fun (z : Int) (u : Unit) => rg z ∧ P z) := by
  unfold wp_X5_canBeginMerge at hwp
  refine zm_i (cc := cX5_canBeginMerge) (maxL := 1) (ret := some .boolean) (own := RX5) (lvs := [(0, .ref (a 0))]) (by decide) rfl rfl (Nat.le_of_ble_eq_true rfl) rfl ?_
  intro p e sT m args below meth c ls A hx hb hr hml hown hts hlocks hK hP hD hS hA hl
  have k1 := hts (.fieldLink RX5 25 "GrantedSort$SortState" "isCollecting" "Z") (List.mem_of_getElem? (i := 1) rfl)
  have k2 := hts (.fieldLink RX5 21 "GrantedSort$SortState" "disk" "LGrantedSort$RunList;") (List.mem_of_getElem? (i := 2) rfl)
  have k3 := hts (.fieldLink RX5 83 "GrantedSort$RunList" "total" "I") (List.mem_of_getElem? (i := 3) rfl)
  refine lv_aload_n hx hb dX5_canBeginMerge_0 rfl (lv_at hl 0 rfl) ?_
  refine va_get (v := .int (iI (s.1 3))) (ci := 5) (C := RX5) (T := TX5) (N := 16) hx hb hts imX5_canBeginMerge_X5 hown hK hP 0 rfl rfl 3 (by decide) k1 (fun _ h9 => h9) rfl dX5_canBeginMerge_1 ?_
  refine zr_if_ne (tgt := 37) (x := (s.1 3)) hx hb (r_s.1 3) dX5_canBeginMerge_4 (by decide) (fun c1 => ?_) (fun c1 => ?_)
  · have h4 := hwp.2 c1
    refine lv_iconst (v := iI 0) hx hb dX5_canBeginMerge_37 rfl ?_
    exact zr_zret (z := 0) hx hb hr hlocks hK (Or.inl rfl) () hP hD hS dX5_canBeginMerge_38 ⟨rg_0, h4⟩
  · have h5 := hwp.1 c1
    refine lv_aload_n hx hb dX5_canBeginMerge_7 rfl (lv_at hl 0 rfl) ?_
    refine zc_vi (As := []) (rest := []) (w2 := fun u_6 => W5 G a s) (c_X5_hasMerge l G a s r_s) ⟨hx, hb, hml, hown, hts⟩ (cwV 0 hts gX5_canBeginMerge_X5_hasMerge rfl rfl rfl hdX5_hasMerge ⟨Nat.le_of_ble_eq_true rfl, Nat.le_of_ble_eq_true rfl⟩) hK hP hD hS hA (q0 := 0) rfl rfl [0, 1, 2, 3, 4, 5, 6, 7, 8, 9, 10, 11, 12, 13] [] [0, 1, 2, 3, 4, 5, 6, 7, 8, 9, 10, 11, 12, 13] rfl rfl rfl rfl (by decide) (fun _ => rfl) rfl rfl hl.1 rfl (Nat.le_of_ble_eq_true rfl) dX5_canBeginMerge_8 ⟨Nat.zero_le _, Nat.zero_le _⟩ (fun z7 u_6 H locs hw hP hD hS => ?_)
    obtain ⟨rfl, r8⟩ := hw
    have hP : va_P G.1 vwCl (W5 G a s) H := hP
    have hD : va_D A (W5 G a s) := hD
    refine zr_ifB_ne (tgt := 37)  hx hb dX5_canBeginMerge_11 (by decide) (fun c9 => ?_) (fun c9 => ?_)
    · have h12 := h5.1 c9
      refine lv_iconst (v := iI 0) hx hb dX5_canBeginMerge_37 rfl ?_
      exact zr_zret (z := 0) hx hb hr hlocks hK (Or.inl rfl) () hP hD hS dX5_canBeginMerge_38 ⟨rg_0, h12⟩
    · have h13 := h5.2 c9
      refine lv_aload_n hx hb dX5_canBeginMerge_14 rfl (lv_at hl 0 rfl) ?_
      refine va_get (v := .ref (a 5)) (ci := 5) (C := RX5) (T := TX5) (N := 16) hx hb hts imX5_canBeginMerge_X5 hown hK hP 0 rfl rfl 1 (by decide) k2 (fun _ h9 => h9) rfl dX5_canBeginMerge_15 ?_
      refine va_get (v := .int (iI (s.1 17))) (ci := 4) (C := RX4) (T := TX4) (N := 4) hx hb hts imX5_canBeginMerge_X4 hown hK hP 5 rfl rfl 3 (by decide) k3 (fun _ h9 => h9) rfl dX5_canBeginMerge_18 ?_
      refine lv_iconst (v := iI 2) hx hb dX5_canBeginMerge_21 rfl ?_
      refine zr_icmp_lt (tgt := 37) (x := (s.1 17)) (y := 2) hx hb (r_s.1 17) rg_2 dX5_canBeginMerge_22 (by decide) (fun c14 => ?_) (fun c14 => ?_)
      · have h17 := h13.1 c14
        refine lv_iconst (v := iI 0) hx hb dX5_canBeginMerge_37 rfl ?_
        exact zr_zret (z := 0) hx hb hr hlocks hK (Or.inl rfl) () hP hD hS dX5_canBeginMerge_38 ⟨rg_0, h17⟩
      · have h18 := h13.2 c14
        refine lv_aload_n hx hb dX5_canBeginMerge_25 rfl (lv_at hl 0 rfl) ?_
        obtain ⟨b19, h20⟩ := h18
        refine zc_vi (As := []) (rest := []) (w2 := fun u_21 => W5 G a s) (c_X5_ways l G a s r_s b19) ⟨hx, hb, hml, hown, hts⟩ (cwV 0 hts gX5_canBeginMerge_X5_ways rfl rfl rfl hdX5_ways ⟨Nat.le_of_ble_eq_true rfl, Nat.le_of_ble_eq_true rfl⟩) hK hP hD hS hA (q0 := 0) rfl rfl [0, 1, 2, 3, 4, 5, 6, 7, 8, 9, 10, 11, 12, 13] [] [0, 1, 2, 3, 4, 5, 6, 7, 8, 9, 10, 11, 12, 13] rfl rfl rfl rfl (by decide) (fun _ => rfl) rfl rfl hl.1 rfl (Nat.le_of_ble_eq_true rfl) dX5_canBeginMerge_26 ⟨Nat.zero_le _, Nat.zero_le _⟩ (fun z22 u_21 H locs hw hP hD hS => ?_)
        obtain ⟨rfl, r23⟩ := hw
        have hP : va_P G.1 vwCl (W5 G a s) H := hP
        have hD : va_D A (W5 G a s) := hD
        refine lv_iconst (v := iI 2) hx hb dX5_canBeginMerge_29 rfl ?_
        refine zr_icmp_lt (tgt := 37) (x := waysZ (s.1 4)) (y := 2) hx hb r23 rg_2 dX5_canBeginMerge_30 (by decide) (fun c24 => ?_) (fun c24 => ?_)
        · have h27 := h20.1 c24
          refine lv_iconst (v := iI 0) hx hb dX5_canBeginMerge_37 rfl ?_
          exact zr_zret (z := 0) hx hb hr hlocks hK (Or.inl rfl) () hP hD hS dX5_canBeginMerge_38 ⟨rg_0, h27⟩
        · have h28 := h20.2 c24
          refine lv_iconst (v := iI 1) hx hb dX5_canBeginMerge_33 rfl ?_
          refine lv_goto (tgt := 38) hx hb dX5_canBeginMerge_34 (by decide) ?_
          exact zr_zret (z := 1) hx hb hr hlocks hK (Or.inr rfl) () hP hD hS dX5_canBeginMerge_38 ⟨rg_1, h28⟩
theorem c_X5_canBeginMerge (l : Launch) (G : ZG) (a : Nat → Nat) (s : SS)   (r_s : RG s)  (p0 : 2 ≤ (s.1 4) ∧ (s.1 4) ≤ 20) : ZI l G yX5_canBeginMerge wsX5_canBeginMerge 2 40 [.ref (a 0)] (W5 G a s) (fun _ : Unit => W5 G a s) (fun (z : Int) (_ : Unit) => z = (pz ((s.1 3) = 0 ∧ ¬ 0 < (s.1 18) ∧ 2 ≤ (s.1 17) ∧ 2 ≤ waysZ (s.1 4))) ∧ rg z) := by
  refine ZI.fn (w1 := fun u : Unit => W5 G a s) (fun z u hq => ?_) (c0_X5_canBeginMerge l G a s (fun z => z = (pz ((s.1 3) = 0 ∧ ¬ 0 < (s.1 18) ∧ 2 ≤ (s.1 17) ∧ 2 ≤ waysZ (s.1 4)))) r_s  (sp_X5_canBeginMerge s r_s  p0))
  obtain ⟨rz, ez⟩ := hq
  exact ⟨rfl, ⟨ez, rz⟩⟩
theorem imX5_canRunToEnd_X4 : ∀ w ∈ wsX40, w ∈ wsX5_canRunToEnd := fun _ h => (List.mem_cons_of_mem _ (List.mem_append_right _ h))
theorem imX5_canRunToEnd_X5 : ∀ w ∈ wsX50, w ∈ wsX5_canRunToEnd := fun _ h => (List.mem_cons_of_mem _ (List.mem_append_left _ (List.mem_append_right _ h)))
theorem hdX5_canRunToEnd : yX5_canRunToEnd.cls = RX5 ∧ yX5_canRunToEnd.cls ≠ "java/lang/invoke/MethodHandle" ∧ yX5_canRunToEnd.cls ≠ "java/lang/invoke/VarHandle" ∧ (parseMethodDescriptor yX5_canRunToEnd.desc).map (fun d => d.parameters.length) = some 0 := by decide +kernel
set_option maxRecDepth 100000 in
set_option maxHeartbeats 4000000 in
theorem c0_X5_canRunToEnd (l : Launch) (G : ZG) (a : Nat → Nat) (s : SS)  (P : Int → Prop) (r_s : RG s)  (hwp : wp_X5_canRunToEnd s P) : ZI l G yX5_canRunToEnd wsX5_canRunToEnd 2 40 [.ref (a 0)] (W5 G a s) (fun u : Unit => W5 G a s) (fun (z : Int) (u : Unit) => rg z ∧ P z) := by
  unfold wp_X5_canRunToEnd at hwp
  refine zm_i (cc := cX5_canRunToEnd) (maxL := 2) (ret := some .boolean) (own := RX5) (lvs := [(0, .ref (a 0))]) (by decide) rfl rfl (Nat.le_of_ble_eq_true rfl) rfl ?_
  intro p e sT m args below meth c ls A hx hb hr hml hown hts hlocks hK hP hD hS hA hl
  have k1 := hts (.fieldLink RX5 21 "GrantedSort$SortState" "disk" "LGrantedSort$RunList;") (List.mem_of_getElem? (i := 1) rfl)
  have k2 := hts (.fieldLink RX5 83 "GrantedSort$RunList" "total" "I") (List.mem_of_getElem? (i := 2) rfl)
  have k3 := hts (.fieldLink RX5 56 "GrantedSort$SortState" "rowsInMemory" "I") (List.mem_of_getElem? (i := 3) rfl)
  refine lv_aload_n hx hb dX5_canRunToEnd_0 rfl (lv_at hl 0 rfl) ?_
  refine va_get (v := .ref (a 5)) (ci := 5) (C := RX5) (T := TX5) (N := 16) hx hb hts imX5_canRunToEnd_X5 hown hK hP 0 rfl rfl 1 (by decide) k1 (fun _ h9 => h9) rfl dX5_canRunToEnd_1 ?_
  refine va_get (v := .int (iI (s.1 17))) (ci := 4) (C := RX4) (T := TX4) (N := 4) hx hb hts imX5_canRunToEnd_X4 hown hK hP 5 rfl rfl 3 (by decide) k2 (fun _ h9 => h9) rfl dX5_canRunToEnd_4 ?_
  refine lv_istore_n (lv' := [(1, .int (iI (s.1 17))), (0, .ref (a 0))]) hx hb dX5_canRunToEnd_7 rfl hl (by decide) rfl (fun ls hl => ?_)
  refine lv_aload_n hx hb dX5_canRunToEnd_8 rfl (lv_at hl 1 rfl) ?_
  refine va_get (v := .int (iI (s.1 6))) (ci := 5) (C := RX5) (T := TX5) (N := 16) hx hb hts imX5_canRunToEnd_X5 hown hK hP 0 rfl rfl 6 (by decide) k3 (fun _ h9 => h9) rfl dX5_canRunToEnd_9 ?_
  refine zr_if_le (tgt := 18) (x := (s.1 6)) hx hb (r_s.1 6) dX5_canRunToEnd_12 (by decide) (fun c1 => ?_) (fun c1 => ?_)
  · have h4 := hwp.2 c1
    refine lv_aload_n hx hb dX5_canRunToEnd_18 rfl (lv_at hl 1 rfl) ?_
    refine zc_vi (As := []) (rest := []) (w2 := fun u_5 => W5 G a s) (c_X5_hasMerge l G a s r_s) ⟨hx, hb, hml, hown, hts⟩ (cwV 0 hts gX5_canRunToEnd_X5_hasMerge rfl rfl rfl hdX5_hasMerge ⟨Nat.le_of_ble_eq_true rfl, Nat.le_of_ble_eq_true rfl⟩) hK hP hD hS hA (q0 := 0) rfl rfl [0, 1, 2, 3, 4, 5, 6, 7, 8, 9, 10, 11, 12, 13] [] [0, 1, 2, 3, 4, 5, 6, 7, 8, 9, 10, 11, 12, 13] rfl rfl rfl rfl (by decide) (fun _ => rfl) rfl rfl hl.1 rfl (Nat.le_of_ble_eq_true rfl) dX5_canRunToEnd_19 ⟨Nat.zero_le _, Nat.zero_le _⟩ (fun z6 u_5 H locs hw hP hD hS => ?_)
    obtain ⟨rfl, r7⟩ := hw
    have hP : va_P G.1 vwCl (W5 G a s) H := hP
    have hD : va_D A (W5 G a s) := hD
    refine zr_ifB_eq (tgt := 28)  hx hb dX5_canRunToEnd_22 (by decide) (fun c8 => ?_) (fun c8 => ?_)
    · have h11 := h4.2 c8
      refine lv_iload_n hx hb dX5_canRunToEnd_28 rfl (lv_at hl 0 rfl) ?_
      refine lv_iconst (v := iI 1) hx hb dX5_canRunToEnd_29 rfl ?_
      refine zr_icmp_le (tgt := 41) (x := (s.1 17)) (y := 1) hx hb (r_s.1 17) rg_1 dX5_canRunToEnd_30 (by decide) (fun c12 => ?_) (fun c12 => ?_)
      · have h15 := h11.2 c12
        refine lv_iconst (v := iI 1) hx hb dX5_canRunToEnd_41 rfl ?_
        refine lv_goto (tgt := 46) hx hb dX5_canRunToEnd_42 (by decide) ?_
        exact zr_zret (z := 1) hx hb hr hlocks hK (Or.inr rfl) () hP hD hS dX5_canRunToEnd_46 ⟨rg_1, h15⟩
      · have h16 := h11.1 c12
        refine lv_aload_n hx hb dX5_canRunToEnd_33 rfl (lv_at hl 1 rfl) ?_
        obtain ⟨b17, h18⟩ := h16
        refine zc_vi (As := []) (rest := []) (w2 := fun u_19 => W5 G a s) (c_X5_ways l G a s r_s b17) ⟨hx, hb, hml, hown, hts⟩ (cwV 0 hts gX5_canRunToEnd_X5_ways rfl rfl rfl hdX5_ways ⟨Nat.le_of_ble_eq_true rfl, Nat.le_of_ble_eq_true rfl⟩) hK hP hD hS hA (q0 := 0) rfl rfl [0, 1, 2, 3, 4, 5, 6, 7, 8, 9, 10, 11, 12, 13] [] [0, 1, 2, 3, 4, 5, 6, 7, 8, 9, 10, 11, 12, 13] rfl rfl rfl rfl (by decide) (fun _ => rfl) rfl rfl hl.1 rfl (Nat.le_of_ble_eq_true rfl) dX5_canRunToEnd_34 ⟨Nat.zero_le _, Nat.zero_le _⟩ (fun z20 u_19 H locs hw hP hD hS => ?_)
        obtain ⟨rfl, r21⟩ := hw
        have hP : va_P G.1 vwCl (W5 G a s) H := hP
        have hD : va_D A (W5 G a s) := hD
        refine lv_iconst (v := iI 2) hx hb dX5_canRunToEnd_37 rfl ?_
        refine zr_icmp_lt (tgt := 45) (x := waysZ (s.1 4)) (y := 2) hx hb r21 rg_2 dX5_canRunToEnd_38 (by decide) (fun c22 => ?_) (fun c22 => ?_)
        · have h25 := h18.1 c22
          refine lv_iconst (v := iI 0) hx hb dX5_canRunToEnd_45 rfl ?_
          exact zr_zret (z := 0) hx hb hr hlocks hK (Or.inl rfl) () hP hD hS dX5_canRunToEnd_46 ⟨rg_0, h25⟩
        · have h26 := h18.2 c22
          refine lv_iconst (v := iI 1) hx hb dX5_canRunToEnd_41 rfl ?_
          refine lv_goto (tgt := 46) hx hb dX5_canRunToEnd_42 (by decide) ?_
          exact zr_zret (z := 1) hx hb hr hlocks hK (Or.inr rfl) () hP hD hS dX5_canRunToEnd_46 ⟨rg_1, h26⟩
    · have h27 := h4.1 c8
      obtain ⟨r28, h29⟩ := h27
      refine zr_iinc (x := (s.1 17)) (lv' := [(1, .int (iI ((s.1 17) + 1))), (0, .ref (a 0))]) hx hb dX5_canRunToEnd_25 hl (k := 0) rfl (by decide) rfl (fun ls hl => ?_)
      refine lv_iload_n hx hb dX5_canRunToEnd_28 rfl (lv_at hl 0 rfl) ?_
      refine lv_iconst (v := iI 1) hx hb dX5_canRunToEnd_29 rfl ?_
      refine zr_icmp_le (tgt := 41) (x := (s.1 17) + 1) (y := 1) hx hb r28 rg_1 dX5_canRunToEnd_30 (by decide) (fun c30 => ?_) (fun c30 => ?_)
      · have h33 := h29.2 c30
        refine lv_iconst (v := iI 1) hx hb dX5_canRunToEnd_41 rfl ?_
        refine lv_goto (tgt := 46) hx hb dX5_canRunToEnd_42 (by decide) ?_
        exact zr_zret (z := 1) hx hb hr hlocks hK (Or.inr rfl) () hP hD hS dX5_canRunToEnd_46 ⟨rg_1, h33⟩
      · have h34 := h29.1 c30
        refine lv_aload_n hx hb dX5_canRunToEnd_33 rfl (lv_at hl 1 rfl) ?_
        obtain ⟨b35, h36⟩ := h34
        refine zc_vi (As := []) (rest := []) (w2 := fun u_37 => W5 G a s) (c_X5_ways l G a s r_s b35) ⟨hx, hb, hml, hown, hts⟩ (cwV 0 hts gX5_canRunToEnd_X5_ways rfl rfl rfl hdX5_ways ⟨Nat.le_of_ble_eq_true rfl, Nat.le_of_ble_eq_true rfl⟩) hK hP hD hS hA (q0 := 0) rfl rfl [0, 1, 2, 3, 4, 5, 6, 7, 8, 9, 10, 11, 12, 13] [] [0, 1, 2, 3, 4, 5, 6, 7, 8, 9, 10, 11, 12, 13] rfl rfl rfl rfl (by decide) (fun _ => rfl) rfl rfl hl.1 rfl (Nat.le_of_ble_eq_true rfl) dX5_canRunToEnd_34 ⟨Nat.zero_le _, Nat.zero_le _⟩ (fun z38 u_37 H locs hw hP hD hS => ?_)
        obtain ⟨rfl, r39⟩ := hw
        have hP : va_P G.1 vwCl (W5 G a s) H := hP
        have hD : va_D A (W5 G a s) := hD
        refine lv_iconst (v := iI 2) hx hb dX5_canRunToEnd_37 rfl ?_
        refine zr_icmp_lt (tgt := 45) (x := waysZ (s.1 4)) (y := 2) hx hb r39 rg_2 dX5_canRunToEnd_38 (by decide) (fun c40 => ?_) (fun c40 => ?_)
        · have h43 := h36.1 c40
          refine lv_iconst (v := iI 0) hx hb dX5_canRunToEnd_45 rfl ?_
          exact zr_zret (z := 0) hx hb hr hlocks hK (Or.inl rfl) () hP hD hS dX5_canRunToEnd_46 ⟨rg_0, h43⟩
        · have h44 := h36.2 c40
          refine lv_iconst (v := iI 1) hx hb dX5_canRunToEnd_41 rfl ?_
          refine lv_goto (tgt := 46) hx hb dX5_canRunToEnd_42 (by decide) ?_
          exact zr_zret (z := 1) hx hb hr hlocks hK (Or.inr rfl) () hP hD hS dX5_canRunToEnd_46 ⟨rg_1, h44⟩
  · have h45 := hwp.1 c1
    obtain ⟨r46, h47⟩ := h45
    refine zr_iinc (x := (s.1 17)) (lv' := [(1, .int (iI ((s.1 17) + 1))), (0, .ref (a 0))]) hx hb dX5_canRunToEnd_15 hl (k := 0) rfl (by decide) rfl (fun ls hl => ?_)
    refine lv_aload_n hx hb dX5_canRunToEnd_18 rfl (lv_at hl 1 rfl) ?_
    refine zc_vi (As := []) (rest := []) (w2 := fun u_48 => W5 G a s) (c_X5_hasMerge l G a s r_s) ⟨hx, hb, hml, hown, hts⟩ (cwV 0 hts gX5_canRunToEnd_X5_hasMerge rfl rfl rfl hdX5_hasMerge ⟨Nat.le_of_ble_eq_true rfl, Nat.le_of_ble_eq_true rfl⟩) hK hP hD hS hA (q0 := 0) rfl rfl [0, 1, 2, 3, 4, 5, 6, 7, 8, 9, 10, 11, 12, 13] [] [0, 1, 2, 3, 4, 5, 6, 7, 8, 9, 10, 11, 12, 13] rfl rfl rfl rfl (by decide) (fun _ => rfl) rfl rfl hl.1 rfl (Nat.le_of_ble_eq_true rfl) dX5_canRunToEnd_19 ⟨Nat.zero_le _, Nat.zero_le _⟩ (fun z49 u_48 H locs hw hP hD hS => ?_)
    obtain ⟨rfl, r50⟩ := hw
    have hP : va_P G.1 vwCl (W5 G a s) H := hP
    have hD : va_D A (W5 G a s) := hD
    refine zr_ifB_eq (tgt := 28)  hx hb dX5_canRunToEnd_22 (by decide) (fun c51 => ?_) (fun c51 => ?_)
    · have h54 := h47.2 c51
      refine lv_iload_n hx hb dX5_canRunToEnd_28 rfl (lv_at hl 0 rfl) ?_
      refine lv_iconst (v := iI 1) hx hb dX5_canRunToEnd_29 rfl ?_
      refine zr_icmp_le (tgt := 41) (x := (s.1 17) + 1) (y := 1) hx hb r46 rg_1 dX5_canRunToEnd_30 (by decide) (fun c55 => ?_) (fun c55 => ?_)
      · have h58 := h54.2 c55
        refine lv_iconst (v := iI 1) hx hb dX5_canRunToEnd_41 rfl ?_
        refine lv_goto (tgt := 46) hx hb dX5_canRunToEnd_42 (by decide) ?_
        exact zr_zret (z := 1) hx hb hr hlocks hK (Or.inr rfl) () hP hD hS dX5_canRunToEnd_46 ⟨rg_1, h58⟩
      · have h59 := h54.1 c55
        refine lv_aload_n hx hb dX5_canRunToEnd_33 rfl (lv_at hl 1 rfl) ?_
        obtain ⟨b60, h61⟩ := h59
        refine zc_vi (As := []) (rest := []) (w2 := fun u_62 => W5 G a s) (c_X5_ways l G a s r_s b60) ⟨hx, hb, hml, hown, hts⟩ (cwV 0 hts gX5_canRunToEnd_X5_ways rfl rfl rfl hdX5_ways ⟨Nat.le_of_ble_eq_true rfl, Nat.le_of_ble_eq_true rfl⟩) hK hP hD hS hA (q0 := 0) rfl rfl [0, 1, 2, 3, 4, 5, 6, 7, 8, 9, 10, 11, 12, 13] [] [0, 1, 2, 3, 4, 5, 6, 7, 8, 9, 10, 11, 12, 13] rfl rfl rfl rfl (by decide) (fun _ => rfl) rfl rfl hl.1 rfl (Nat.le_of_ble_eq_true rfl) dX5_canRunToEnd_34 ⟨Nat.zero_le _, Nat.zero_le _⟩ (fun z63 u_62 H locs hw hP hD hS => ?_)
        obtain ⟨rfl, r64⟩ := hw
        have hP : va_P G.1 vwCl (W5 G a s) H := hP
        have hD : va_D A (W5 G a s) := hD
        refine lv_iconst (v := iI 2) hx hb dX5_canRunToEnd_37 rfl ?_
        refine zr_icmp_lt (tgt := 45) (x := waysZ (s.1 4)) (y := 2) hx hb r64 rg_2 dX5_canRunToEnd_38 (by decide) (fun c65 => ?_) (fun c65 => ?_)
        · have h68 := h61.1 c65
          refine lv_iconst (v := iI 0) hx hb dX5_canRunToEnd_45 rfl ?_
          exact zr_zret (z := 0) hx hb hr hlocks hK (Or.inl rfl) () hP hD hS dX5_canRunToEnd_46 ⟨rg_0, h68⟩
        · have h69 := h61.2 c65
          refine lv_iconst (v := iI 1) hx hb dX5_canRunToEnd_41 rfl ?_
          refine lv_goto (tgt := 46) hx hb dX5_canRunToEnd_42 (by decide) ?_
          exact zr_zret (z := 1) hx hb hr hlocks hK (Or.inr rfl) () hP hD hS dX5_canRunToEnd_46 ⟨rg_1, h69⟩
    · have h70 := h47.1 c51
      obtain ⟨r71, h72⟩ := h70
      refine zr_iinc (x := (s.1 17) + 1) (lv' := [(1, .int (iI (((s.1 17) + 1) + 1))), (0, .ref (a 0))]) hx hb dX5_canRunToEnd_25 hl (k := 0) rfl (by decide) rfl (fun ls hl => ?_)
      refine lv_iload_n hx hb dX5_canRunToEnd_28 rfl (lv_at hl 0 rfl) ?_
      refine lv_iconst (v := iI 1) hx hb dX5_canRunToEnd_29 rfl ?_
      refine zr_icmp_le (tgt := 41) (x := ((s.1 17) + 1) + 1) (y := 1) hx hb r71 rg_1 dX5_canRunToEnd_30 (by decide) (fun c73 => ?_) (fun c73 => ?_)
      · have h76 := h72.2 c73
        refine lv_iconst (v := iI 1) hx hb dX5_canRunToEnd_41 rfl ?_
        refine lv_goto (tgt := 46) hx hb dX5_canRunToEnd_42 (by decide) ?_
        exact zr_zret (z := 1) hx hb hr hlocks hK (Or.inr rfl) () hP hD hS dX5_canRunToEnd_46 ⟨rg_1, h76⟩
      · have h77 := h72.1 c73
        refine lv_aload_n hx hb dX5_canRunToEnd_33 rfl (lv_at hl 1 rfl) ?_
        obtain ⟨b78, h79⟩ := h77
        refine zc_vi (As := []) (rest := []) (w2 := fun u_80 => W5 G a s) (c_X5_ways l G a s r_s b78) ⟨hx, hb, hml, hown, hts⟩ (cwV 0 hts gX5_canRunToEnd_X5_ways rfl rfl rfl hdX5_ways ⟨Nat.le_of_ble_eq_true rfl, Nat.le_of_ble_eq_true rfl⟩) hK hP hD hS hA (q0 := 0) rfl rfl [0, 1, 2, 3, 4, 5, 6, 7, 8, 9, 10, 11, 12, 13] [] [0, 1, 2, 3, 4, 5, 6, 7, 8, 9, 10, 11, 12, 13] rfl rfl rfl rfl (by decide) (fun _ => rfl) rfl rfl hl.1 rfl (Nat.le_of_ble_eq_true rfl) dX5_canRunToEnd_34 ⟨Nat.zero_le _, Nat.zero_le _⟩ (fun z81 u_80 H locs hw hP hD hS => ?_)
        obtain ⟨rfl, r82⟩ := hw
        have hP : va_P G.1 vwCl (W5 G a s) H := hP
        have hD : va_D A (W5 G a s) := hD
        refine lv_iconst (v := iI 2) hx hb dX5_canRunToEnd_37 rfl ?_
        refine zr_icmp_lt (tgt := 45) (x := waysZ (s.1 4)) (y := 2) hx hb r82 rg_2 dX5_canRunToEnd_38 (by decide) (fun c83 => ?_) (fun c83 => ?_)
        · have h86 := h79.1 c83
          refine lv_iconst (v := iI 0) hx hb dX5_canRunToEnd_45 rfl ?_
          exact zr_zret (z := 0) hx hb hr hlocks hK (Or.inl rfl) () hP hD hS dX5_canRunToEnd_46 ⟨rg_0, h86⟩
        · have h87 := h79.2 c83
          refine lv_iconst (v := iI 1) hx hb dX5_canRunToEnd_41 rfl ?_
          refine lv_goto (tgt := 46) hx hb dX5_canRunToEnd_42 (by decide) ?_
          exact zr_zret (z := 1) hx hb hr hlocks hK (Or.inr rfl) () hP hD hS dX5_canRunToEnd_46 ⟨rg_1, h87⟩
theorem c_X5_canRunToEnd (l : Launch) (G : ZG) (a : Nat → Nat) (s : SS)   (r_s : RG s)  (p0 : 2 ≤ (s.1 4) ∧ (s.1 4) ≤ 20) (p1 : 0 ≤ (s.1 17) ∧ (s.1 17) ≤ 120) : ZI l G yX5_canRunToEnd wsX5_canRunToEnd 2 40 [.ref (a 0)] (W5 G a s) (fun _ : Unit => W5 G a s) (fun (z : Int) (_ : Unit) => z = (pz ((s.1 17) + pz (0 < (s.1 6)) + pz (0 < (s.1 18)) ≤ 1 ∨ 2 ≤ waysZ (s.1 4))) ∧ rg z) := by
  refine ZI.fn (w1 := fun u : Unit => W5 G a s) (fun z u hq => ?_) (c0_X5_canRunToEnd l G a s (fun z => z = (pz ((s.1 17) + pz (0 < (s.1 6)) + pz (0 < (s.1 18)) ≤ 1 ∨ 2 ≤ waysZ (s.1 4)))) r_s  (sp_X5_canRunToEnd s r_s  p0 p1))
  obtain ⟨rz, ez⟩ := hq
  exact ⟨rfl, ⟨ez, rz⟩⟩
theorem imX5_rowInMemoryWith_X5 : ∀ w ∈ wsX50, w ∈ wsX5_rowInMemoryWith := fun _ h => (List.mem_cons_of_mem _ (List.mem_append_left _ (List.mem_append_right _ h)))
theorem hdX5_rowInMemoryWith : yX5_rowInMemoryWith.cls = RX5 ∧ yX5_rowInMemoryWith.cls ≠ "java/lang/invoke/MethodHandle" ∧ yX5_rowInMemoryWith.cls ≠ "java/lang/invoke/VarHandle" ∧ (parseMethodDescriptor yX5_rowInMemoryWith.desc).map (fun d => d.parameters.length) = some 1 := by decide +kernel
set_option maxRecDepth 100000 in
set_option maxHeartbeats 4000000 in
theorem c0_X5_rowInMemoryWith (l : Launch) (G : ZG) (a : Nat → Nat) (s : SS) (key : Int) (P : Int → Prop) (r_s : RG s) (r_key : rg key) (hwp : wp_X5_rowInMemoryWith s key P) : ZI l G yX5_rowInMemoryWith wsX5_rowInMemoryWith 1 21 [.ref (a 0), .int (iI key)] (W5 G a s) (fun u : Unit => W5 G a s) (fun (z : Int) (u : Unit) => rg z ∧ P z) := by
  unfold wp_X5_rowInMemoryWith at hwp
  refine zm_i (cc := cX5_rowInMemoryWith) (maxL := 4) (ret := some .int) (own := RX5) (lvs := [(0, .ref (a 0)), (1, .int (iI key))]) (by decide) rfl rfl (Nat.le_of_ble_eq_true rfl) rfl ?_
  intro p e sT m args below meth c ls A hx hb hr hml hown hts hlocks hK hP hD hS hA hl
  have k1 := hts (.fieldLink RX5 56 "GrantedSort$SortState" "rowsInMemory" "I") (List.mem_of_getElem? (i := 1) rfl)
  have k2 := hts (.fieldLink RX5 12 "GrantedSort$SortState" "table" "LGrantedSort$RowTable;") (List.mem_of_getElem? (i := 2) rfl)
  refine lv_iconst (v := iI 0) hx hb dX5_rowInMemoryWith_0 rfl ?_
  refine lv_istore_n (lv' := [(2, .int (iI 0)), (0, .ref (a 0)), (1, .int (iI key))]) hx hb dX5_rowInMemoryWith_1 rfl hl (by decide) rfl (fun ls hl => ?_)
  obtain ⟨I2, μ3, h4, h5⟩ := hwp
  refine zr_loop (G := G) (σ := Int) (fun x_1 => (rg x_1) ∧ I2 x_1) (fun x_1 => μ3 x_1) (fun x_1 => W5 G a s) (fun x_1 => [(2, .int (iI x_1)), (0, .ref (a 0)), (1, .int (iI key))]) (0) ⟨rg_0, h4⟩ hP hD hS (lv_sub hl [0, 1, 2] rfl) ?_
  clear hP hD hS hl
  intro x_1 H locs ls ih6 h7 hP hD hS hl
  obtain ⟨x2_1, rfl⟩ : ∃ z, z = x_1 := ⟨_, rfl⟩
  obtain ⟨rx2_1, h7⟩ := h7
  have h8 := h5 x2_1 rx2_1 h7
  have hP : va_P G.1 vwCl (W5 G a s) H := hP
  have hD : va_D A (W5 G a s) := hD
  have hl : lv_has ls 4 [(2, .int (iI x2_1)), (0, .ref (a 0)), (1, .int (iI key))] := hl
  refine lv_iload_n hx hb dX5_rowInMemoryWith_2 rfl (lv_at hl 0 rfl) ?_
  refine lv_aload_n hx hb dX5_rowInMemoryWith_3 rfl (lv_at hl 1 rfl) ?_
  refine va_get (v := .int (iI (s.1 6))) (ci := 5) (C := RX5) (T := TX5) (N := 16) hx hb hts imX5_rowInMemoryWith_X5 hown hK hP 0 rfl rfl 6 (by decide) k1 (fun _ h9 => h9) rfl dX5_rowInMemoryWith_4 ?_
  refine zr_icmp_ge (tgt := 36) (x := x2_1) (y := (s.1 6)) hx hb rx2_1 (r_s.1 6) dX5_rowInMemoryWith_7 (by decide) (fun c9 => ?_) (fun c9 => ?_)
  · have h12 := h8.2 c9
    refine lv_iconst (v := iI (-1)) hx hb dX5_rowInMemoryWith_36 rfl ?_
    exact zr_iret (z := (-1)) hx hb hr hlocks hK () hP hD hS dX5_rowInMemoryWith_37 ⟨rg_m1, h12⟩
  · have h13 := h8.1 c9
    refine lv_aload_n hx hb dX5_rowInMemoryWith_10 rfl (lv_at hl 1 rfl) ?_
    refine lv_iload_n hx hb dX5_rowInMemoryWith_11 rfl (lv_at hl 0 rfl) ?_
    obtain ⟨b14, h15⟩ := h13
    refine zc_vi (As := [.int (iI x2_1)]) (rest := []) (w2 := fun u_16 => W5 G a s) (c_X5_memoryRowAt l G a s x2_1 r_s rx2_1 b14) ⟨hx, hb, hml, hown, hts⟩ (cwV 1 hts gX5_rowInMemoryWith_X5_memoryRowAt rfl rfl rfl hdX5_memoryRowAt ⟨Nat.le_of_ble_eq_true rfl, Nat.le_of_ble_eq_true rfl⟩) hK hP hD hS hA (q0 := 0) rfl rfl [0, 1, 2, 3, 4, 5, 6, 7, 8, 9, 10, 11, 12, 13] [] [0, 1, 2, 3, 4, 5, 6, 7, 8, 9, 10, 11, 12, 13] rfl rfl rfl rfl (by decide) (fun _ => rfl) rfl rfl hl.1 rfl (Nat.le_of_ble_eq_true rfl) dX5_rowInMemoryWith_12 ⟨Nat.zero_le _, Nat.zero_le _⟩ (fun z17 u_16 H locs hw hP hD hS => ?_)
    obtain ⟨rfl, r18⟩ := hw
    have hP : va_P G.1 vwCl (W5 G a s) H := hP
    have hD : va_D A (W5 G a s) := hD
    refine lv_istore_n (lv' := [(3, .int (iI ((s.2 9) x2_1))), (2, .int (iI x2_1)), (0, .ref (a 0)), (1, .int (iI key))]) hx hb dX5_rowInMemoryWith_15 rfl hl (by decide) rfl (fun ls hl => ?_)
    refine lv_aload_n hx hb dX5_rowInMemoryWith_16 rfl (lv_at hl 2 rfl) ?_
    refine va_get (v := .ref (a 1)) (ci := 5) (C := RX5) (T := TX5) (N := 16) hx hb hts imX5_rowInMemoryWith_X5 hown hK hP 0 rfl rfl 0 (by decide) k2 (fun _ h9 => h9) rfl dX5_rowInMemoryWith_17 ?_
    refine lv_iload_n hx hb dX5_rowInMemoryWith_20 rfl (lv_at hl 0 rfl) ?_
    obtain ⟨b19, h20⟩ := h15
    refine zc_vi (As := [.int (iI ((s.2 9) x2_1))]) (rest := []) (w2 := fun u_21 => W5 G a s) (c_X3_keyOf l G (a 1) (a 2) (a 3) (a 4) (s.2 0) (s.2 1) (s.2 2) (s.1 16) ((s.2 9) x2_1) (r_s.2 0) (r_s.2 1) (r_s.2 2) (r_s.1 16) r18 b19) ⟨hx, hb, hml, hown, hts⟩ (cwV 1 hts gX5_rowInMemoryWith_X3_keyOf rfl rfl rfl hdX3_keyOf ⟨Nat.le_of_ble_eq_true rfl, Nat.le_of_ble_eq_true rfl⟩) hK hP hD hS hA (q0 := 1) rfl rfl [1, 2, 3, 4] [0, 5, 6, 7, 8, 9, 10, 11, 12, 13] [0, 10, 11, 12, 13, 1, 2, 3, 4, 5, 6, 7, 8, 9] rfl rfl rfl rfl (by decide) (fun _ => rfl) rfl rfl hl.1 rfl (Nat.le_of_ble_eq_true rfl) dX5_rowInMemoryWith_21 ⟨Nat.zero_le _, Nat.zero_le _⟩ (fun z22 u_21 H locs hw hP hD hS => ?_)
    obtain ⟨rfl, r23⟩ := hw
    have hP : va_P G.1 vwCl (W5 G a s) H := hP
    have hD : va_D A (W5 G a s) := hD
    refine lv_iload_n hx hb dX5_rowInMemoryWith_24 rfl (lv_at hl 3 rfl) ?_
    refine zr_icmp_ne (tgt := 30) (x := (s.2 0) ((s.2 9) x2_1)) (y := key) hx hb r23 r_key dX5_rowInMemoryWith_25 (by decide) (fun c24 => ?_) (fun c24 => ?_)
    · have h27 := h20.2 c24
      obtain ⟨r28, h29⟩ := h27
      refine zr_iinc (x := x2_1) (lv' := [(2, .int (iI (x2_1 + 1))), (3, .int (iI ((s.2 9) x2_1))), (0, .ref (a 0)), (1, .int (iI key))]) hx hb dX5_rowInMemoryWith_30 hl (k := 1) rfl (by decide) rfl (fun ls hl => ?_)
      refine lv_goto (tgt := 2) hx hb dX5_rowInMemoryWith_33 (by decide) ?_
      obtain ⟨h30, h31⟩ := h29
      exact ih6 (x2_1 + 1) _ _ _ ⟨r28, h30⟩ h31 hP hD hS (lv_sub hl [0, 2, 3] rfl)
    · have h32 := h20.1 c24
      refine lv_iload_n hx hb dX5_rowInMemoryWith_28 rfl (lv_at hl 0 rfl) ?_
      exact zr_iret (z := (s.2 9) x2_1) hx hb hr hlocks hK () hP hD hS dX5_rowInMemoryWith_29 ⟨r18, h32⟩
theorem c_X5_rowInMemoryWith (l : Launch) (G : ZG) (a : Nat → Nat) (s : SS) (key : Int)  (r_s : RG s) (r_key : rg key) (p0 : 0 ≤ (s.1 6) ∧ (s.1 6) ≤ 20) (p1 : ∀ i, 0 ≤ i → i < (s.1 6) → 0 ≤ (s.2 9) i ∧ (s.2 9) i < 120) : ZI l G yX5_rowInMemoryWith wsX5_rowInMemoryWith 1 21 [.ref (a 0), .int (iI key)] (W5 G a s) (fun u : Unit => W5 G a s) (fun (zq : Int) (u : Unit) => rg zq ∧ ((zq = -1 ∧ ∀ i, 0 ≤ i → i < (s.1 6) → (s.2 0) ((s.2 9) i) ≠ key) ∨ ∃ i, 0 ≤ i ∧ i < (s.1 6) ∧ zq = (s.2 9) i ∧ (s.2 0) zq = key)) :=
  c0_X5_rowInMemoryWith l G a s key (fun r => (r = -1 ∧ ∀ i, 0 ≤ i → i < (s.1 6) → (s.2 0) ((s.2 9) i) ≠ key) ∨ ∃ i, 0 ≤ i ∧ i < (s.1 6) ∧ r = (s.2 9) i ∧ (s.2 0) r = key) r_s r_key (sp_X5_rowInMemoryWith s key  r_s r_key p0 p1)
theorem imX5_rowOfRun_X5 : ∀ w ∈ wsX50, w ∈ wsX5_rowOfRun := fun _ h => (List.mem_cons_of_mem _ (List.mem_append_left _ (List.mem_append_left _ (List.mem_append_right _ h))))
theorem hdX5_rowOfRun : yX5_rowOfRun.cls = RX5 ∧ yX5_rowOfRun.cls ≠ "java/lang/invoke/MethodHandle" ∧ yX5_rowOfRun.cls ≠ "java/lang/invoke/VarHandle" ∧ (parseMethodDescriptor yX5_rowOfRun.desc).map (fun d => d.parameters.length) = some 2 := by decide +kernel
set_option maxRecDepth 100000 in
set_option maxHeartbeats 4000000 in
theorem c0_X5_rowOfRun (l : Launch) (G : ZG) (a : Nat → Nat) (s : SS) (run : Int) (index : Int) (P : Int → Prop) (r_s : RG s) (r_run : rg run) (r_index : rg index) (hwp : wp_X5_rowOfRun s run index P) : ZI l G yX5_rowOfRun wsX5_rowOfRun 2 45 [.ref (a 0), .int (iI run), .int (iI index)] (W5 G a s) (fun u : Unit => W5 G a s) (fun (z : Int) (u : Unit) => rg z ∧ P z) := by
  unfold wp_X5_rowOfRun at hwp
  refine zm_i (cc := cX5_rowOfRun) (maxL := 4) (ret := some .int) (own := RX5) (lvs := [(0, .ref (a 0)), (1, .int (iI run)), (2, .int (iI index))]) (by decide) rfl rfl (Nat.le_of_ble_eq_true rfl) rfl ?_
  intro p e sT m args below meth c ls A hx hb hr hml hown hts hlocks hK hP hD hS hA hl
  have k1 := hts (.fieldLink RX5 21 "GrantedSort$SortState" "disk" "LGrantedSort$RunList;") (List.mem_of_getElem? (i := 1) rfl)
  have k2 := hts (.fieldLink RX5 12 "GrantedSort$SortState" "table" "LGrantedSort$RowTable;") (List.mem_of_getElem? (i := 2) rfl)
  refine lv_aload_n hx hb dX5_rowOfRun_0 rfl (lv_at hl 0 rfl) ?_
  refine va_get (v := .ref (a 5)) (ci := 5) (C := RX5) (T := TX5) (N := 16) hx hb hts imX5_rowOfRun_X5 hown hK hP 0 rfl rfl 1 (by decide) k1 (fun _ h9 => h9) rfl dX5_rowOfRun_1 ?_
  refine lv_iload_n hx hb dX5_rowOfRun_4 rfl (lv_at hl 1 rfl) ?_
  obtain ⟨b1, h2⟩ := hwp
  refine zc_vi (As := [.int (iI run)]) (rest := []) (w2 := fun u_3 => W5 G a s) (c_X4_placeOf l G (a 5) (a 6) (a 7) (a 8) (s.2 3) (s.2 4) (s.2 5) (s.1 17) run (r_s.2 3) (r_s.2 4) (r_s.2 5) (r_s.1 17) r_run b1) ⟨hx, hb, hml, hown, hts⟩ (cwV 1 hts gX5_rowOfRun_X4_placeOf rfl rfl rfl hdX4_placeOf ⟨Nat.le_of_ble_eq_true rfl, Nat.le_of_ble_eq_true rfl⟩) hK hP hD hS hA (q0 := 5) rfl rfl [5, 6, 7, 8] [0, 1, 2, 3, 4, 9, 10, 11, 12, 13] [0, 1, 2, 3, 4, 10, 11, 12, 13, 5, 6, 7, 8, 9] rfl rfl rfl rfl (by decide) (fun _ => rfl) rfl rfl hl.1 rfl (Nat.le_of_ble_eq_true rfl) dX5_rowOfRun_5 ⟨Nat.zero_le _, Nat.zero_le _⟩ (fun z4 u_3 H locs hw hP hD hS => ?_)
  obtain ⟨r6, h5⟩ := hw
  have h7 := h2 z4 r6 h5
  have hP : va_P G.1 vwCl (W5 G a s) H := hP
  have hD : va_D A (W5 G a s) := hD
  refine lv_istore_n (lv' := [(3, .int (iI z4)), (0, .ref (a 0)), (1, .int (iI run)), (2, .int (iI index))]) hx hb dX5_rowOfRun_8 rfl hl (by decide) rfl (fun ls hl => ?_)
  refine lv_iload_n hx hb dX5_rowOfRun_9 rfl (lv_at hl 3 rfl) ?_
  refine zr_if_lt (tgt := 25) (x := index) hx hb r_index dX5_rowOfRun_10 (by decide) (fun c8 => ?_) (fun c8 => ?_)
  · have h11 := h7.1 c8
    refine lv_iconst (v := iI (-1)) hx hb dX5_rowOfRun_25 rfl ?_
    exact zr_iret (z := (-1)) hx hb hr hlocks hK () hP hD hS dX5_rowOfRun_26 ⟨rg_m1, h11⟩
  · have h12 := h7.2 c8
    refine lv_iload_n hx hb dX5_rowOfRun_13 rfl (lv_at hl 3 rfl) ?_
    refine lv_aload_n hx hb dX5_rowOfRun_14 rfl (lv_at hl 1 rfl) ?_
    refine va_get (v := .ref (a 5)) (ci := 5) (C := RX5) (T := TX5) (N := 16) hx hb hts imX5_rowOfRun_X5 hown hK hP 0 rfl rfl 1 (by decide) k1 (fun _ h9 => h9) rfl dX5_rowOfRun_15 ?_
    refine lv_iload_n hx hb dX5_rowOfRun_18 rfl (lv_at hl 0 rfl) ?_
    refine zc_vi (As := [.int (iI z4)]) (rest := [.int (iI index)]) (w2 := fun u_13 => W5 G a s) (c_X4_lengthAt l G (a 5) (a 6) (a 7) (a 8) (s.2 3) (s.2 4) (s.2 5) (s.1 17) z4 (r_s.2 3) (r_s.2 4) (r_s.2 5) (r_s.1 17) r6) ⟨hx, hb, hml, hown, hts⟩ (cwV 1 hts gX5_rowOfRun_X4_lengthAt rfl rfl rfl hdX4_lengthAt ⟨Nat.le_of_ble_eq_true rfl, Nat.le_of_ble_eq_true rfl⟩) hK hP hD hS hA (q0 := 5) rfl rfl [5, 6, 7, 8] [0, 1, 2, 3, 4, 9, 10, 11, 12, 13] [0, 1, 2, 3, 4, 10, 11, 12, 13, 5, 6, 7, 8, 9] rfl rfl rfl rfl (by decide) (fun _ => rfl) rfl rfl hl.1 rfl (Nat.le_of_ble_eq_true rfl) dX5_rowOfRun_19 ⟨Nat.zero_le _, Nat.zero_le _⟩ (fun z14 u_13 H locs hw hP hD hS => ?_)
    obtain ⟨rfl, r15⟩ := hw
    have hP : va_P G.1 vwCl (W5 G a s) H := hP
    have hD : va_D A (W5 G a s) := hD
    refine zr_icmp_lt (tgt := 27) (x := index) (y := (if 0 ≤ z4 ∧ z4 < 120 then (s.2 5) z4 else 0)) hx hb r_index r15 dX5_rowOfRun_22 (by decide) (fun c16 => ?_) (fun c16 => ?_)
    · have h19 := h12.1 c16
      refine lv_aload_n hx hb dX5_rowOfRun_27 rfl (lv_at hl 1 rfl) ?_
      refine va_get (v := .ref (a 1)) (ci := 5) (C := RX5) (T := TX5) (N := 16) hx hb hts imX5_rowOfRun_X5 hown hK hP 0 rfl rfl 0 (by decide) k2 (fun _ h9 => h9) rfl dX5_rowOfRun_28 ?_
      refine lv_aload_n hx hb dX5_rowOfRun_31 rfl (lv_at hl 1 rfl) ?_
      refine va_get (v := .ref (a 5)) (ci := 5) (C := RX5) (T := TX5) (N := 16) hx hb hts imX5_rowOfRun_X5 hown hK hP 0 rfl rfl 1 (by decide) k1 (fun _ h9 => h9) rfl dX5_rowOfRun_32 ?_
      refine lv_iload_n hx hb dX5_rowOfRun_35 rfl (lv_at hl 0 rfl) ?_
      obtain ⟨b20, h21⟩ := h19
      refine zc_vi (As := [.int (iI z4)]) (rest := [.ref (a 1)]) (w2 := fun u_22 => W5 G a s) (c_X4_firstAt l G (a 5) (a 6) (a 7) (a 8) (s.2 3) (s.2 4) (s.2 5) (s.1 17) z4 (r_s.2 3) (r_s.2 4) (r_s.2 5) (r_s.1 17) r6 b20) ⟨hx, hb, hml, hown, hts⟩ (cwV 1 hts gX5_rowOfRun_X4_firstAt rfl rfl rfl hdX4_firstAt ⟨Nat.le_of_ble_eq_true rfl, Nat.le_of_ble_eq_true rfl⟩) hK hP hD hS hA (q0 := 5) rfl rfl [5, 6, 7, 8] [0, 1, 2, 3, 4, 9, 10, 11, 12, 13] [0, 1, 2, 3, 4, 10, 11, 12, 13, 5, 6, 7, 8, 9] rfl rfl rfl rfl (by decide) (fun _ => rfl) rfl rfl hl.1 rfl (Nat.le_of_ble_eq_true rfl) dX5_rowOfRun_36 ⟨Nat.zero_le _, Nat.zero_le _⟩ (fun z23 u_22 H locs hw hP hD hS => ?_)
      obtain ⟨rfl, r24⟩ := hw
      have hP : va_P G.1 vwCl (W5 G a s) H := hP
      have hD : va_D A (W5 G a s) := hD
      refine lv_iload_n hx hb dX5_rowOfRun_39 rfl (lv_at hl 3 rfl) ?_
      obtain ⟨b25, h26⟩ := h21
      refine zc_vi (As := [.int (iI ((s.2 4) z4)), .int (iI index)]) (rest := []) (w2 := fun u_27 => W5 G a s) (c_X3_rowBehind l G (a 1) (a 2) (a 3) (a 4) (s.2 0) (s.2 1) (s.2 2) (s.1 16) ((s.2 4) z4) index (r_s.2 0) (r_s.2 1) (r_s.2 2) (r_s.1 16) r24 r_index b25) ⟨hx, hb, hml, hown, hts⟩ (cwV 2 hts gX5_rowOfRun_X3_rowBehind rfl rfl rfl hdX3_rowBehind ⟨Nat.le_of_ble_eq_true rfl, Nat.le_of_ble_eq_true rfl⟩) hK hP hD hS hA (q0 := 1) rfl rfl [1, 2, 3, 4] [0, 5, 6, 7, 8, 9, 10, 11, 12, 13] [0, 10, 11, 12, 13, 1, 2, 3, 4, 5, 6, 7, 8, 9] rfl rfl rfl rfl (by decide) (fun _ => rfl) rfl rfl hl.1 rfl (Nat.le_of_ble_eq_true rfl) dX5_rowOfRun_40 ⟨Nat.zero_le _, Nat.zero_le _⟩ (fun z28 u_27 H locs hw hP hD hS => ?_)
      obtain ⟨rfl, r29⟩ := hw
      have hP : va_P G.1 vwCl (W5 G a s) H := hP
      have hD : va_D A (W5 G a s) := hD
      exact zr_iret (z := chn (s.2 2) ((s.2 4) z4) index.toNat) hx hb hr hlocks hK () hP hD hS dX5_rowOfRun_43 ⟨r29, h26⟩
    · have h30 := h12.2 c16
      refine lv_iconst (v := iI (-1)) hx hb dX5_rowOfRun_25 rfl ?_
      exact zr_iret (z := (-1)) hx hb hr hlocks hK () hP hD hS dX5_rowOfRun_26 ⟨rg_m1, h30⟩
theorem c_X5_rowOfRun (l : Launch) (G : ZG) (a : Nat → Nat) (s : SS) (run : Int) (index : Int)  (r_s : RG s) (r_run : rg run) (r_index : rg index) (p0 : 0 ≤ (s.1 17) ∧ (s.1 17) ≤ 120) (p1 : ∀ i, 0 ≤ i → i < (s.1 17) → ∀ j : Nat, (j : Int) < (s.2 5) i → 0 ≤ chn (s.2 2) ((s.2 4) i) j ∧ chn (s.2 2) ((s.2 4) i) j < 120) (p2 : ∀ i j, 0 ≤ i → i < j → j < (s.1 17) → (s.2 3) i < (s.2 3) j) : ZI l G yX5_rowOfRun wsX5_rowOfRun 2 45 [.ref (a 0), .int (iI run), .int (iI index)] (W5 G a s) (fun u : Unit => W5 G a s) (fun (zq : Int) (u : Unit) => rg zq ∧ ((∃ i, 0 ≤ i ∧ i < (s.1 17) ∧ (s.2 3) i = run ∧ 0 ≤ index ∧ index < (s.2 5) i ∧ zq = chn (s.2 2) ((s.2 4) i) index.toNat) ∨ (zq = -1 ∧ ∀ i, 0 ≤ i → i < (s.1 17) → (s.2 3) i = run → ¬ (0 ≤ index ∧ index < (s.2 5) i)))) :=
  c0_X5_rowOfRun l G a s run index (fun r => (∃ i, 0 ≤ i ∧ i < (s.1 17) ∧ (s.2 3) i = run ∧ 0 ≤ index ∧ index < (s.2 5) i ∧ r = chn (s.2 2) ((s.2 4) i) index.toNat) ∨ (r = -1 ∧ ∀ i, 0 ≤ i → i < (s.1 17) → (s.2 3) i = run → ¬ (0 ≤ index ∧ index < (s.2 5) i))) r_s r_run r_index (sp_X5_rowOfRun s run index  r_s r_run r_index p0 p1 p2)
theorem imX5_makeRun_X5 : ∀ w ∈ wsX50, w ∈ wsX5_makeRun := fun _ h => (List.mem_cons_of_mem _ (List.mem_append_left _ (List.mem_append_right _ h)))
theorem hdX5_makeRun : yX5_makeRun.cls = RX5 ∧ yX5_makeRun.cls ≠ "java/lang/invoke/MethodHandle" ∧ yX5_makeRun.cls ≠ "java/lang/invoke/VarHandle" ∧ (parseMethodDescriptor yX5_makeRun.desc).map (fun d => d.parameters.length) = some 2 := by decide +kernel
set_option maxRecDepth 100000 in
set_option maxHeartbeats 4000000 in
theorem c0_X5_makeRun (l : Launch) (G : ZG) (a : Nat → Nat) (s : SS) (first : Int) (length : Int) (P : Int → SS → Prop) (r_s : RG s) (r_first : rg first) (r_length : rg length) (hwp : wp_X5_makeRun s first length P) : ZI l G yX5_makeRun wsX5_makeRun 1 24 [.ref (a 0), .int (iI first), .int (iI length)] (W5 G a s) (fun u : SS => W5 G a u) (fun (z : Int) (u : SS) => rg z ∧ RG u ∧ P z u) := by
  unfold wp_X5_makeRun at hwp
  refine zm_i (cc := cX5_makeRun) (maxL := 4) (ret := some .int) (own := RX5) (lvs := [(0, .ref (a 0)), (1, .int (iI first)), (2, .int (iI length))]) (by decide) rfl rfl (Nat.le_of_ble_eq_true rfl) rfl ?_
  intro p e sT m args below meth c ls A hx hb hr hml hown hts hlocks hK hP hD hS hA hl
  have k1 := hts (.fieldLink RX5 80 "GrantedSort$SortState" "runsNumbered" "I") (List.mem_of_getElem? (i := 1) rfl)
  have k2 := hts (.fieldLink RX5 21 "GrantedSort$SortState" "disk" "LGrantedSort$RunList;") (List.mem_of_getElem? (i := 2) rfl)
  refine lv_aload_n hx hb dX5_makeRun_0 rfl (lv_at hl 0 rfl) ?_
  refine va_get (v := .int (iI (s.1 15))) (ci := 5) (C := RX5) (T := TX5) (N := 16) hx hb hts imX5_makeRun_X5 hown hK hP 0 rfl rfl 15 (by decide) k1 (fun _ h9 => h9) rfl dX5_makeRun_1 ?_
  refine lv_istore_n (lv' := [(3, .int (iI (s.1 15))), (0, .ref (a 0)), (1, .int (iI first)), (2, .int (iI length))]) hx hb dX5_makeRun_4 rfl hl (by decide) rfl (fun ls hl => ?_)
  refine lv_aload_n hx hb dX5_makeRun_5 rfl (lv_at hl 1 rfl) ?_
  refine lv_dup hx hb dX5_makeRun_6 rfl ?_
  refine va_get (v := .int (iI (s.1 15))) (ci := 5) (C := RX5) (T := TX5) (N := 16) hx hb hts imX5_makeRun_X5 hown hK hP 0 rfl rfl 15 (by decide) k1 (fun _ h9 => h9) rfl dX5_makeRun_7 ?_
  refine lv_iconst (v := iI 1) hx hb dX5_makeRun_10 rfl ?_
  refine zr_iadd (x := (s.1 15)) (y := 1) hx hb dX5_makeRun_11 ?_
  obtain ⟨r1, h2⟩ := hwp
  refine va_put (v := .int (iI ((s.1 15) + 1))) (ty := .int) (ci := 5) (C := RX5) (T := TX5) (N := 16) hx hb hts imX5_makeRun_X5 tyX5 tyX5_ok nmX5 hown hK hP hD hS 0 rfl rfl 15 (by decide) k1 (fun _ h9 => h9) rfl (tyX5_ok 15 (by decide)) rfl rfl (Nat.le_of_ble_eq_true rfl) dX5_makeRun_12 (fun H locs hP hD hS => ?_)
  have hP : va_P G.1 vwCl (W5 G a (sS s 15 ((s.1 15) + 1))) H := hP
  have hD : va_D A (W5 G a (sS s 15 ((s.1 15) + 1))) := hD
  refine lv_aload_n hx hb dX5_makeRun_15 rfl (lv_at hl 1 rfl) ?_
  refine va_get (v := .ref (a 5)) (ci := 5) (C := RX5) (T := TX5) (N := 16) hx hb hts imX5_makeRun_X5 hown hK hP 0 rfl rfl 1 (by decide) k2 (fun _ h9 => h9) rfl dX5_makeRun_16 ?_
  refine lv_iload_n hx hb dX5_makeRun_19 rfl (lv_at hl 0 rfl) ?_
  refine lv_iload_n hx hb dX5_makeRun_20 rfl (lv_at hl 2 rfl) ?_
  refine lv_iload_n hx hb dX5_makeRun_21 rfl (lv_at hl 3 rfl) ?_
  obtain ⟨b3, h4⟩ := h2
  refine zc_vv (As := [.int (iI (s.1 15)), .int (iI first), .int (iI length)]) (rest := []) (w2 := fun u_9 => W5 G a (sS (sS (sA (sA (sA s 3 u_9.1) 4 u_9.2.1) 5 u_9.2.2.1) 15 ((s.1 15) + 1)) 17 u_9.2.2.2)) (c_X4_insert l G (a 5) (a 6) (a 7) (a 8) (s.2 3) (s.2 4) (s.2 5) (s.1 17) (s.1 15) first length (r_s.2 3) (r_s.2 4) (r_s.2 5) (r_s.1 17) (r_s.1 15) r_first r_length b3) ⟨hx, hb, hml, hown, hts⟩ (cwV 3 hts gX5_makeRun_X4_insert rfl rfl rfl hdX4_insert ⟨Nat.le_of_ble_eq_true rfl, Nat.le_of_ble_eq_true rfl⟩) hK hP hD hS hA (q0 := 5) rfl rfl [5, 6, 7, 8] [0, 1, 2, 3, 4, 9, 10, 11, 12, 13] [0, 1, 2, 3, 4, 10, 11, 12, 13, 5, 6, 7, 8, 9] rfl rfl rfl rfl (by decide) (fun _ => rfl) rfl rfl hl.1 rfl (Nat.le_of_ble_eq_true rfl) dX5_makeRun_22 ⟨Nat.zero_le _, Nat.zero_le _⟩ (fun u_9 H locs hw hP hD hS => ?_)
  obtain ⟨u_nu5, u_fi6, u_le7, u_to8⟩ := u_9
  obtain ⟨ru_nu5, ru_fi6, ru_le7, ru_to8, h11⟩ := hw
  have h12 := h4 u_nu5 u_fi6 u_le7 u_to8 ru_nu5 ru_fi6 ru_le7 ru_to8 h11
  have hP : va_P G.1 vwCl (W5 G a (sS (sS (sA (sA (sA s 3 u_nu5) 4 u_fi6) 5 u_le7) 15 ((s.1 15) + 1)) 17 u_to8)) H := hP
  have hD : va_D A (W5 G a (sS (sS (sA (sA (sA s 3 u_nu5) 4 u_fi6) 5 u_le7) 15 ((s.1 15) + 1)) 17 u_to8)) := hD
  refine lv_iload_n hx hb dX5_makeRun_25 rfl (lv_at hl 0 rfl) ?_
  exact zr_iret (z := (s.1 15)) hx hb hr hlocks hK (sS (sS (sA (sA (sA s 3 u_nu5) 4 u_fi6) 5 u_le7) 15 ((s.1 15) + 1)) 17 u_to8) hP hD hS dX5_makeRun_26 ⟨(r_s.1 15), (RG_S (RG_S (RG_A (RG_A (RG_A r_s ru_nu5) ru_fi6) ru_le7) r1) ru_to8), h12⟩
theorem c_X5_makeRun (l : Launch) (G : ZG) (a : Nat → Nat) (s : SS) (first : Int) (length : Int)  (r_s : RG s) (r_first : rg first) (r_length : rg length) (p0 : 0 ≤ (s.1 17) ∧ (s.1 17) < 120) (p1 : ∀ i, 0 ≤ i → i < (s.1 17) → (s.2 3) i < (s.1 15)) (p2 : rg ((s.1 15) + 1)) : ZI l G yX5_makeRun wsX5_makeRun 1 24 [.ref (a 0), .int (iI first), .int (iI length)] (W5 G a s) (fun u : SS => W5 G a u) (fun (zq : Int) (u : SS) => rg zq ∧ RG u ∧ (zq = (s.1 15) ∧ ∃ nu fi le : Int → Int, u = sS (sS (sA (sA (sA s 3 nu) 4 fi) 5 le) 15 ((s.1 15) + 1)) 17 ((s.1 17) + 1) ∧ (∀ j, 0 ≤ j → j < (s.1 17) → nu j = (s.2 3) j ∧ fi j = (s.2 4) j ∧ le j = (s.2 5) j) ∧ nu (s.1 17) = (s.1 15) ∧ fi (s.1 17) = first ∧ le (s.1 17) = length)) :=
  c0_X5_makeRun l G a s first length (fun r s' => r = (s.1 15) ∧ ∃ nu fi le : Int → Int, s' = sS (sS (sA (sA (sA s 3 nu) 4 fi) 5 le) 15 ((s.1 15) + 1)) 17 ((s.1 17) + 1) ∧ (∀ j, 0 ≤ j → j < (s.1 17) → nu j = (s.2 3) j ∧ fi j = (s.2 4) j ∧ le j = (s.2 5) j) ∧ nu (s.1 17) = (s.1 15) ∧ fi (s.1 17) = first ∧ le (s.1 17) = length) r_s r_first r_length (sp_X5_makeRun s first length  r_s r_first r_length p0 p1 p2)
