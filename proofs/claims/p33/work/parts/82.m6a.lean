theorem hdX6_isKey : yX6_isKey.cls ≠ "java/lang/invoke/MethodHandle" ∧ yX6_isKey.cls ≠ "java/lang/invoke/VarHandle" ∧ (parseMethodDescriptor yX6_isKey.desc).map (fun d => d.parameters.length) = some 1 := by decide +kernel
set_option maxRecDepth 100000 in
set_option maxHeartbeats 4000000 in
theorem c0_X6_isKey (l : Launch) (G : ZG)   (key : Int) (P : Int → Prop)  (r_key : rg key) (hwp : wp_X6_isKey key P) : ZI l G yX6_isKey wsX6_isKey 0 0 [.int (iI key)] (([] : va_W)) (fun u : Unit => ([] : va_W)) (fun (z : Int) (u : Unit) => rg z ∧ P z) := by
  unfold wp_X6_isKey at hwp
  refine zm_i (cc := cX6_isKey) (maxL := 1) (ret := some .boolean) (own := RX6) (lvs := [(0, .int (iI key))]) (by decide) rfl rfl (Nat.le_of_ble_eq_true rfl) rfl ?_
  intro p e sT m args below meth c ls A hx hb hr hml hown hts hlocks hK hP hD hS hA hl
  refine lv_iload_n hx hb dX6_isKey_0 rfl (lv_at hl 0 rfl) ?_
  refine zr_if_lt (tgt := 15) (x := key) hx hb r_key dX6_isKey_1 (by decide) (fun c1 => ?_) (fun c1 => ?_)
  · have h4 := hwp.1 c1
    refine lv_iconst (v := iI 0) hx hb dX6_isKey_15 rfl ?_
    exact zr_zret (z := 0) hx hb hr hlocks hK (Or.inl rfl) () hP hD hS dX6_isKey_16 ⟨rg_0, h4⟩
  · have h5 := hwp.2 c1
    refine lv_iload_n hx hb dX6_isKey_4 rfl (lv_at hl 0 rfl) ?_
    refine lv_sipush (v := iI 999) hx hb dX6_isKey_5 (by decide) ?_
    refine zr_icmp_gt (tgt := 15) (x := key) (y := 999) hx hb r_key rg_999 dX6_isKey_8 (by decide) (fun c6 => ?_) (fun c6 => ?_)
    · have h9 := h5.1 c6
      refine lv_iconst (v := iI 0) hx hb dX6_isKey_15 rfl ?_
      exact zr_zret (z := 0) hx hb hr hlocks hK (Or.inl rfl) () hP hD hS dX6_isKey_16 ⟨rg_0, h9⟩
    · have h10 := h5.2 c6
      refine lv_iconst (v := iI 1) hx hb dX6_isKey_11 rfl ?_
      refine lv_goto (tgt := 16) hx hb dX6_isKey_12 (by decide) ?_
      exact zr_zret (z := 1) hx hb hr hlocks hK (Or.inr rfl) () hP hD hS dX6_isKey_16 ⟨rg_1, h10⟩
theorem c_X6_isKey (l : Launch) (G : ZG)   (key : Int)   (r_key : rg key)  : ZI l G yX6_isKey wsX6_isKey 0 0 [.int (iI key)] (([] : va_W)) (fun _ : Unit => ([] : va_W)) (fun (z : Int) (_ : Unit) => z = (pz (0 ≤ key ∧ key ≤ 999)) ∧ rg z) := by
  refine ZI.fn (w1 := fun u : Unit => ([] : va_W)) (fun z u hq => ?_) (c0_X6_isKey l G  key (fun z => z = (pz (0 ≤ key ∧ key ≤ 999)))  r_key (sp_X6_isKey key  r_key ))
  obtain ⟨rz, ez⟩ := hq
  exact ⟨rfl, ⟨ez, rz⟩⟩
theorem hdX6_isMemorySize : yX6_isMemorySize.cls ≠ "java/lang/invoke/MethodHandle" ∧ yX6_isMemorySize.cls ≠ "java/lang/invoke/VarHandle" ∧ (parseMethodDescriptor yX6_isMemorySize.desc).map (fun d => d.parameters.length) = some 1 := by decide +kernel
set_option maxRecDepth 100000 in
set_option maxHeartbeats 4000000 in
theorem c0_X6_isMemorySize (l : Launch) (G : ZG)   (size : Int) (P : Int → Prop)  (r_size : rg size) (hwp : wp_X6_isMemorySize size P) : ZI l G yX6_isMemorySize wsX6_isMemorySize 0 0 [.int (iI size)] (([] : va_W)) (fun u : Unit => ([] : va_W)) (fun (z : Int) (u : Unit) => rg z ∧ P z) := by
  unfold wp_X6_isMemorySize at hwp
  refine zm_i (cc := cX6_isMemorySize) (maxL := 1) (ret := some .boolean) (own := RX6) (lvs := [(0, .int (iI size))]) (by decide) rfl rfl (Nat.le_of_ble_eq_true rfl) rfl ?_
  intro p e sT m args below meth c ls A hx hb hr hml hown hts hlocks hK hP hD hS hA hl
  refine lv_iload_n hx hb dX6_isMemorySize_0 rfl (lv_at hl 0 rfl) ?_
  refine lv_iconst (v := iI 2) hx hb dX6_isMemorySize_1 rfl ?_
  refine zr_icmp_lt (tgt := 15) (x := size) (y := 2) hx hb r_size rg_2 dX6_isMemorySize_2 (by decide) (fun c1 => ?_) (fun c1 => ?_)
  · have h4 := hwp.1 c1
    refine lv_iconst (v := iI 0) hx hb dX6_isMemorySize_15 rfl ?_
    exact zr_zret (z := 0) hx hb hr hlocks hK (Or.inl rfl) () hP hD hS dX6_isMemorySize_16 ⟨rg_0, h4⟩
  · have h5 := hwp.2 c1
    refine lv_iload_n hx hb dX6_isMemorySize_5 rfl (lv_at hl 0 rfl) ?_
    refine lv_bipush (v := iI 20) hx hb dX6_isMemorySize_6 (by decide) ?_
    refine zr_icmp_gt (tgt := 15) (x := size) (y := 20) hx hb r_size rg_20 dX6_isMemorySize_8 (by decide) (fun c6 => ?_) (fun c6 => ?_)
    · have h9 := h5.1 c6
      refine lv_iconst (v := iI 0) hx hb dX6_isMemorySize_15 rfl ?_
      exact zr_zret (z := 0) hx hb hr hlocks hK (Or.inl rfl) () hP hD hS dX6_isMemorySize_16 ⟨rg_0, h9⟩
    · have h10 := h5.2 c6
      refine lv_iconst (v := iI 1) hx hb dX6_isMemorySize_11 rfl ?_
      refine lv_goto (tgt := 16) hx hb dX6_isMemorySize_12 (by decide) ?_
      exact zr_zret (z := 1) hx hb hr hlocks hK (Or.inr rfl) () hP hD hS dX6_isMemorySize_16 ⟨rg_1, h10⟩
theorem c_X6_isMemorySize (l : Launch) (G : ZG)   (size : Int)   (r_size : rg size)  : ZI l G yX6_isMemorySize wsX6_isMemorySize 0 0 [.int (iI size)] (([] : va_W)) (fun _ : Unit => ([] : va_W)) (fun (z : Int) (_ : Unit) => z = (pz (2 ≤ size ∧ size ≤ 20)) ∧ rg z) := by
  refine ZI.fn (w1 := fun u : Unit => ([] : va_W)) (fun z u hq => ?_) (c0_X6_isMemorySize l G  size (fun z => z = (pz (2 ≤ size ∧ size ≤ 20)))  r_size (sp_X6_isMemorySize size  r_size ))
  obtain ⟨rz, ez⟩ := hq
  exact ⟨rfl, ⟨ez, rz⟩⟩
theorem hdX6_asNumber : yX6_asNumber.cls ≠ "java/lang/invoke/MethodHandle" ∧ yX6_asNumber.cls ≠ "java/lang/invoke/VarHandle" ∧ (parseMethodDescriptor yX6_asNumber.desc).map (fun d => d.parameters.length) = some 1 := by decide +kernel
set_option maxRecDepth 100000 in
set_option maxHeartbeats 4000000 in
theorem c0_X6_asNumber (l : Launch) (G : ZG)   (b : Int) (P : Int → Prop)  (r_b : rg b) (hwp : wp_X6_asNumber b P) : ZI l G yX6_asNumber wsX6_asNumber 0 0 [.int (iI b)] (([] : va_W)) (fun u : Unit => ([] : va_W)) (fun (z : Int) (u : Unit) => rg z ∧ P z) := by
  unfold wp_X6_asNumber at hwp
  refine zm_i (cc := cX6_asNumber) (maxL := 1) (ret := some .int) (own := RX6) (lvs := [(0, .int (iI b))]) (by decide) rfl rfl (Nat.le_of_ble_eq_true rfl) rfl ?_
  intro p e sT m args below meth c ls A hx hb hr hml hown hts hlocks hK hP hD hS hA hl
  refine lv_iload_n hx hb dX6_asNumber_0 rfl (lv_at hl 0 rfl) ?_
  refine zr_if_eq (tgt := 8) (x := b) hx hb r_b dX6_asNumber_1 (by decide) (fun c1 => ?_) (fun c1 => ?_)
  · have h4 := hwp.1 c1
    refine lv_iconst (v := iI 0) hx hb dX6_asNumber_8 rfl ?_
    exact zr_iret (z := 0) hx hb hr hlocks hK () hP hD hS dX6_asNumber_9 ⟨rg_0, h4⟩
  · have h5 := hwp.2 c1
    refine lv_iconst (v := iI 1) hx hb dX6_asNumber_4 rfl ?_
    refine lv_goto (tgt := 9) hx hb dX6_asNumber_5 (by decide) ?_
    exact zr_iret (z := 1) hx hb hr hlocks hK () hP hD hS dX6_asNumber_9 ⟨rg_1, h5⟩
theorem c_X6_asNumber (l : Launch) (G : ZG)   (b : Int)   (r_b : rg b)  : ZI l G yX6_asNumber wsX6_asNumber 0 0 [.int (iI b)] (([] : va_W)) (fun _ : Unit => ([] : va_W)) (fun (z : Int) (_ : Unit) => z = (if b = 0 then 0 else 1) ∧ rg z) := by
  refine ZI.fn (w1 := fun u : Unit => ([] : va_W)) (fun z u hq => ?_) (c0_X6_asNumber l G  b (fun z => z = (if b = 0 then 0 else 1))  r_b (sp_X6_asNumber b  r_b ))
  obtain ⟨rz, ez⟩ := hq
  exact ⟨rfl, ⟨ez, rz⟩⟩
theorem imX6_isCollecting_X5 : ∀ w ∈ wsX50, w ∈ wsX6_isCollecting := fun _ h => (List.mem_cons_of_mem _ (List.mem_append_right _ h))
theorem imX6_isCollecting_X6 : ∀ w ∈ wsX60, w ∈ wsX6_isCollecting := fun _ h => (List.mem_cons_of_mem _ (List.mem_append_left _ (List.mem_append_right _ h)))
theorem hdX6_isCollecting : yX6_isCollecting.cls = RX6 ∧ yX6_isCollecting.cls ≠ "java/lang/invoke/MethodHandle" ∧ yX6_isCollecting.cls ≠ "java/lang/invoke/VarHandle" ∧ (parseMethodDescriptor yX6_isCollecting.desc).map (fun d => d.parameters.length) = some 0 := by decide +kernel
set_option maxRecDepth 100000 in
set_option maxHeartbeats 4000000 in
theorem c0_X6_isCollecting (l : Launch) (G : ZG) (a0 : Nat) (a1 : Nat) (a2 : Nat) (a3 : Nat) (a4 : Nat → Nat) (a5 : Nat) (a6 : Nat) (a7 : Nat → Nat) (a8 : Nat → Nat) (a9 : Nat → Nat) (a10 : Nat → Nat) (a11 : Nat → Nat) (a12 : Nat → Nat) (cu : SS) (fo : SS) (sv : SS) (hs : Int) (ol : Int) (tt : Int) (s0 : SS) (s1 : SS) (s2 : SS) (s3 : SS) (cs : Int → Int) (ln : Int) (kd : Int) (fk : Int) (hd : Int) (va : Int) (le : Int) (mo : Int)  (P : Int → Prop) (r_cu : RG cu) (r_fo : RG fo) (r_sv : RG sv) (r_hs : rg hs) (r_ol : rg ol) (r_tt : rg tt) (r_s0 : RG s0) (r_s1 : RG s1) (r_s2 : RG s2) (r_s3 : RG s3) (r_cs : rgA cs) (r_ln : rg ln) (r_kd : rg kd) (r_fk : rg fk) (r_hd : rg hd) (r_va : rg va) (r_le : rg le) (r_mo : rg mo)  (hwp : wp_X6_isCollecting cu fo sv hs ol tt s0 s1 s2 s3 cs ln kd fk hd va le mo P) : ZI l G yX6_isCollecting wsX6_isCollecting 1 20 [.ref a0] (flt [W6o G a0 a4 a11 a12 a5 a1 a3 hs, W0 G a1 a2 cs ln, W2 G a3 kd fk hd va le mo, W5 G a4 cu, W1h G a5 a6 a7 a8 a9 a10 ol tt, W5 G a7 s0, W5 G a8 s1, W5 G a9 s2, W5 G a10 s3, W5 G a11 fo, W5 G a12 sv]) (fun u : Unit => flt [W6o G a0 a4 a11 a12 a5 a1 a3 hs, W0 G a1 a2 cs ln, W2 G a3 kd fk hd va le mo, W5 G a4 cu, W1h G a5 a6 a7 a8 a9 a10 ol tt, W5 G a7 s0, W5 G a8 s1, W5 G a9 s2, W5 G a10 s3, W5 G a11 fo, W5 G a12 sv]) (fun (z : Int) (u : Unit) => rg z ∧ P z) := by
  unfold wp_X6_isCollecting at hwp
  refine zm_i (cc := cX6_isCollecting) (maxL := 1) (ret := some .int) (own := RX6) (lvs := [(0, .ref a0)]) (by decide) rfl rfl (Nat.le_of_ble_eq_true rfl) rfl ?_
  intro p e sT m args below meth c ls A hx hb hr hml hown hts hlocks hK hP hD hS hA hl
  have k1 := hts (.fieldLink RX6 10 "GrantedSort" "current" "LGrantedSort$SortState;") (List.mem_of_getElem? (i := 1) rfl)
  have k2 := hts (.fieldLink RX6 47 "GrantedSort$SortState" "isCollecting" "Z") (List.mem_of_getElem? (i := 2) rfl)
  refine lv_aload_n hx hb dX6_isCollecting_0 rfl (lv_at hl 0 rfl) ?_
  refine va_get (v := .ref (a4 0)) (ci := 6) (C := RX6) (T := TX6) (N := 7) hx hb hts imX6_isCollecting_X6 hown hK hP 0 rfl rfl 0 (by decide) k1 (fun _ h9 => h9) rfl dX6_isCollecting_1 ?_
  refine va_get (v := .int (iI (cu.1 3))) (ci := 5) (C := RX5) (T := TX5) (N := 16) hx hb hts imX6_isCollecting_X5 hown hK hP 4 rfl rfl 3 (by decide) k2 (fun _ h9 => h9) rfl dX6_isCollecting_4 ?_
  refine zc_si (As := [.int (iI (cu.1 3))]) (rest := []) (c_X6_asNumber l G (cu.1 3) (r_cu.1 3)) ⟨hx, hb, hml, hown, hts⟩ (va_cwS 1 hts gX6_isCollecting_X6_asNumber rfl rfl rfl hdX6_asNumber ⟨Nat.le_of_ble_eq_true rfl, Nat.le_of_ble_eq_true rfl⟩) hK hP hD hS hA rfl hl.1 rfl (Nat.le_of_ble_eq_true rfl) dX6_isCollecting_7 ⟨Nat.zero_le _, Nat.zero_le _⟩ (fun z2 H locs hw hP hD hS => ?_)
  obtain ⟨rfl, r3⟩ := hw
  have hP : va_P G.1 vwCl (flt [W6o G a0 a4 a11 a12 a5 a1 a3 hs, W0 G a1 a2 cs ln, W2 G a3 kd fk hd va le mo, W5 G a4 cu, W1h G a5 a6 a7 a8 a9 a10 ol tt, W5 G a7 s0, W5 G a8 s1, W5 G a9 s2, W5 G a10 s3, W5 G a11 fo, W5 G a12 sv]) H := hP
  have hD : va_D A (flt [W6o G a0 a4 a11 a12 a5 a1 a3 hs, W0 G a1 a2 cs ln, W2 G a3 kd fk hd va le mo, W5 G a4 cu, W1h G a5 a6 a7 a8 a9 a10 ol tt, W5 G a7 s0, W5 G a8 s1, W5 G a9 s2, W5 G a10 s3, W5 G a11 fo, W5 G a12 sv]) := hD
  exact zr_iret (z := (if (cu.1 3) = 0 then 0 else 1)) hx hb hr hlocks hK () hP hD hS dX6_isCollecting_10 ⟨r3, hwp⟩
theorem c_X6_isCollecting (l : Launch) (G : ZG) (a0 : Nat) (a1 : Nat) (a2 : Nat) (a3 : Nat) (a4 : Nat → Nat) (a5 : Nat) (a6 : Nat) (a7 : Nat → Nat) (a8 : Nat → Nat) (a9 : Nat → Nat) (a10 : Nat → Nat) (a11 : Nat → Nat) (a12 : Nat → Nat) (cu : SS) (fo : SS) (sv : SS) (hs : Int) (ol : Int) (tt : Int) (s0 : SS) (s1 : SS) (s2 : SS) (s3 : SS) (cs : Int → Int) (ln : Int) (kd : Int) (fk : Int) (hd : Int) (va : Int) (le : Int) (mo : Int)  (m : SS) (n : Int) (r_cu : RG cu) (r_fo : RG fo) (r_sv : RG sv) (r_hs : rg hs) (r_ol : rg ol) (r_tt : rg tt) (r_s0 : RG s0) (r_s1 : RG s1) (r_s2 : RG s2) (r_s3 : RG s3) (r_cs : rgA cs) (r_ln : rg ln) (r_kd : rg kd) (r_fk : rg fk) (r_hd : rg hd) (r_va : rg va) (r_le : rg le) (r_mo : rg mo)  (p0 : Rep6 cu sv hs ol tt s0 s1 s2 s3 cs ln m n) (p1 : 0 ≤ n ∧ n ≤ 600) : ZI l G yX6_isCollecting wsX6_isCollecting 1 20 [.ref a0] (flt [W6o G a0 a4 a11 a12 a5 a1 a3 hs, W0 G a1 a2 cs ln, W2 G a3 kd fk hd va le mo, W5 G a4 cu, W1h G a5 a6 a7 a8 a9 a10 ol tt, W5 G a7 s0, W5 G a8 s1, W5 G a9 s2, W5 G a10 s3, W5 G a11 fo, W5 G a12 sv]) (fun u : Unit => flt [W6o G a0 a4 a11 a12 a5 a1 a3 hs, W0 G a1 a2 cs ln, W2 G a3 kd fk hd va le mo, W5 G a4 cu, W1h G a5 a6 a7 a8 a9 a10 ol tt, W5 G a7 s0, W5 G a8 s1, W5 G a9 s2, W5 G a10 s3, W5 G a11 fo, W5 G a12 sv]) (fun (zq : Int) (u : Unit) => rg zq ∧ (zq = (m.2 0) 2)) :=
  c0_X6_isCollecting l G a0 a1 a2 a3 a4 a5 a6 a7 a8 a9 a10 a11 a12 cu fo sv hs ol tt s0 s1 s2 s3 cs ln kd fk hd va le mo (fun r => r = (m.2 0) 2) r_cu r_fo r_sv r_hs r_ol r_tt r_s0 r_s1 r_s2 r_s3 r_cs r_ln r_kd r_fk r_hd r_va r_le r_mo  (sp_X6_isCollecting cu fo sv hs ol tt s0 s1 s2 s3 cs ln kd fk hd va le mo m n r_cu r_fo r_sv r_hs r_ol r_tt r_s0 r_s1 r_s2 r_s3 r_cs r_ln r_kd r_fk r_hd r_va r_le r_mo  p0 p1)
theorem imX6_memory_X5 : ∀ w ∈ wsX50, w ∈ wsX6_memory := fun _ h => (List.mem_cons_of_mem _ (List.mem_append_left _ (List.mem_append_right _ h)))
theorem imX6_memory_X6 : ∀ w ∈ wsX60, w ∈ wsX6_memory := fun _ h => (List.mem_cons_of_mem _ (List.mem_append_left _ (List.mem_append_left _ (List.mem_append_right _ h))))
theorem hdX6_memory : yX6_memory.cls = RX6 ∧ yX6_memory.cls ≠ "java/lang/invoke/MethodHandle" ∧ yX6_memory.cls ≠ "java/lang/invoke/VarHandle" ∧ (parseMethodDescriptor yX6_memory.desc).map (fun d => d.parameters.length) = some 1 := by decide +kernel
set_option maxRecDepth 100000 in
set_option maxHeartbeats 4000000 in
theorem c0_X6_memory (l : Launch) (G : ZG) (a0 : Nat) (a1 : Nat) (a2 : Nat) (a3 : Nat) (a4 : Nat → Nat) (a5 : Nat) (a6 : Nat) (a7 : Nat → Nat) (a8 : Nat → Nat) (a9 : Nat → Nat) (a10 : Nat → Nat) (a11 : Nat → Nat) (a12 : Nat → Nat) (cu : SS) (fo : SS) (sv : SS) (hs : Int) (ol : Int) (tt : Int) (s0 : SS) (s1 : SS) (s2 : SS) (s3 : SS) (cs : Int → Int) (ln : Int) (kd : Int) (fk : Int) (hd : Int) (va : Int) (le : Int) (mo : Int) (part : Int) (P : Int → Prop) (r_cu : RG cu) (r_fo : RG fo) (r_sv : RG sv) (r_hs : rg hs) (r_ol : rg ol) (r_tt : rg tt) (r_s0 : RG s0) (r_s1 : RG s1) (r_s2 : RG s2) (r_s3 : RG s3) (r_cs : rgA cs) (r_ln : rg ln) (r_kd : rg kd) (r_fk : rg fk) (r_hd : rg hd) (r_va : rg va) (r_le : rg le) (r_mo : rg mo) (r_part : rg part) (hwp : wp_X6_memory cu fo sv hs ol tt s0 s1 s2 s3 cs ln kd fk hd va le mo part P) : ZI l G yX6_memory wsX6_memory 2 40 [.ref a0, .int (iI part)] (flt [W6o G a0 a4 a11 a12 a5 a1 a3 hs, W0 G a1 a2 cs ln, W2 G a3 kd fk hd va le mo, W5 G a4 cu, W1h G a5 a6 a7 a8 a9 a10 ol tt, W5 G a7 s0, W5 G a8 s1, W5 G a9 s2, W5 G a10 s3, W5 G a11 fo, W5 G a12 sv]) (fun u : Unit => flt [W6o G a0 a4 a11 a12 a5 a1 a3 hs, W0 G a1 a2 cs ln, W2 G a3 kd fk hd va le mo, W5 G a4 cu, W1h G a5 a6 a7 a8 a9 a10 ol tt, W5 G a7 s0, W5 G a8 s1, W5 G a9 s2, W5 G a10 s3, W5 G a11 fo, W5 G a12 sv]) (fun (z : Int) (u : Unit) => rg z ∧ P z) := by
  unfold wp_X6_memory at hwp
  refine zm_i (cc := cX6_memory) (maxL := 2) (ret := some .int) (own := RX6) (lvs := [(0, .ref a0), (1, .int (iI part))]) (by decide) rfl rfl (Nat.le_of_ble_eq_true rfl) rfl ?_
  intro p e sT m args below meth c ls A hx hb hr hml hown hts hlocks hK hP hD hS hA hl
  have k1 := hts (.fieldLink RX6 10 "GrantedSort" "current" "LGrantedSort$SortState;") (List.mem_of_getElem? (i := 1) rfl)
  have k2 := hts (.fieldLink RX6 100 "GrantedSort$SortState" "memorySize" "I") (List.mem_of_getElem? (i := 2) rfl)
  refine lv_iload_n hx hb dX6_memory_0 rfl (lv_at hl 1 rfl) ?_
  rcases (show part = 0 ∨ part = 1 ∨ part = 2 ∨ (part < 0 ∨ 2 < part) by omega) with c1 | c1 | c1 | c1
  · have h2 := hwp.1 c1
    refine zr_tsIn (x := part) (v := 0) (tgt := 28) hx hb r_part 0 c1 dX6_memory_1 ⟨by decide, rfl⟩ (by decide) ?_
    refine lv_aload_n hx hb dX6_memory_28 rfl (lv_at hl 0 rfl) ?_
    refine va_get (v := .ref (a4 0)) (ci := 6) (C := RX6) (T := TX6) (N := 7) hx hb hts imX6_memory_X6 hown hK hP 0 rfl rfl 0 (by decide) k1 (fun _ h9 => h9) rfl dX6_memory_29 ?_
    refine va_get (v := .int (iI (cu.1 4))) (ci := 5) (C := RX5) (T := TX5) (N := 16) hx hb hts imX6_memory_X5 hown hK hP 4 rfl rfl 4 (by decide) k2 (fun _ h9 => h9) rfl dX6_memory_32 ?_
    exact zr_iret (z := (cu.1 4)) hx hb hr hlocks hK () hP hD hS dX6_memory_35 ⟨(r_cu.1 4), h2⟩
  · have h3 := hwp.2.1 c1
    refine zr_tsIn (x := part) (v := 1) (tgt := 36) hx hb r_part 1 c1 dX6_memory_1 ⟨by decide, rfl⟩ (by decide) ?_
    refine lv_aload_n hx hb dX6_memory_36 rfl (lv_at hl 0 rfl) ?_
    refine va_get (v := .ref (a4 0)) (ci := 6) (C := RX6) (T := TX6) (N := 7) hx hb hts imX6_memory_X6 hown hK hP 0 rfl rfl 0 (by decide) k1 (fun _ h9 => h9) rfl dX6_memory_37 ?_
    obtain ⟨b4, h5⟩ := h3
    refine zq_viR (As := []) (rest := []) (c_X5_memoryInUse l G a4 cu r_cu b4) ⟨hx, hb, hml, hown, hts⟩ (cwV 0 hts gX6_memory_X5_memoryInUse rfl rfl rfl hdX5_memoryInUse ⟨Nat.le_of_ble_eq_true rfl, Nat.le_of_ble_eq_true rfl⟩) hK hP hD hS hA rfl rfl [4, 5, 6, 7, 8, 9, 10, 11, 12, 13, 14, 15, 16, 17] rfl rfl rfl hl.1 rfl (Nat.le_of_ble_eq_true rfl) dX6_memory_40 ⟨Nat.zero_le _, Nat.zero_le _⟩ (fun z7 H locs hw hP hD hS => ?_)
    obtain ⟨rfl, r8⟩ := hw
    have hP : va_P G.1 vwCl (flt [W6o G a0 a4 a11 a12 a5 a1 a3 hs, W0 G a1 a2 cs ln, W2 G a3 kd fk hd va le mo, W5 G a4 cu, W1h G a5 a6 a7 a8 a9 a10 ol tt, W5 G a7 s0, W5 G a8 s1, W5 G a9 s2, W5 G a10 s3, W5 G a11 fo, W5 G a12 sv]) H := hP
    have hD : va_D A (flt [W6o G a0 a4 a11 a12 a5 a1 a3 hs, W0 G a1 a2 cs ln, W2 G a3 kd fk hd va le mo, W5 G a4 cu, W1h G a5 a6 a7 a8 a9 a10 ol tt, W5 G a7 s0, W5 G a8 s1, W5 G a9 s2, W5 G a10 s3, W5 G a11 fo, W5 G a12 sv]) := hD
    exact zr_iret (z := (if (cu.1 3) = 0 then (if 0 < (cu.1 18) then (cu.1 18) + 1 else 0) else (cu.1 6))) hx hb hr hlocks hK () hP hD hS dX6_memory_43 ⟨r8, h5⟩
  · have h9 := hwp.2.2.1 c1
    refine zr_tsIn (x := part) (v := 2) (tgt := 44) hx hb r_part 2 c1 dX6_memory_1 ⟨by decide, rfl⟩ (by decide) ?_
    refine lv_aload_n hx hb dX6_memory_44 rfl (lv_at hl 0 rfl) ?_
    refine va_get (v := .ref (a4 0)) (ci := 6) (C := RX6) (T := TX6) (N := 7) hx hb hts imX6_memory_X6 hown hK hP 0 rfl rfl 0 (by decide) k1 (fun _ h9 => h9) rfl dX6_memory_45 ?_
    obtain ⟨b10, h11⟩ := h9
    refine zq_viR (As := []) (rest := []) (c_X5_ways l G a4 cu r_cu b10) ⟨hx, hb, hml, hown, hts⟩ (cwV 0 hts gX6_memory_X5_ways rfl rfl rfl hdX5_ways ⟨Nat.le_of_ble_eq_true rfl, Nat.le_of_ble_eq_true rfl⟩) hK hP hD hS hA rfl rfl [4, 5, 6, 7, 8, 9, 10, 11, 12, 13, 14, 15, 16, 17] rfl rfl rfl hl.1 rfl (Nat.le_of_ble_eq_true rfl) dX6_memory_48 ⟨Nat.zero_le _, Nat.zero_le _⟩ (fun z13 H locs hw hP hD hS => ?_)
    obtain ⟨rfl, r14⟩ := hw
    have hP : va_P G.1 vwCl (flt [W6o G a0 a4 a11 a12 a5 a1 a3 hs, W0 G a1 a2 cs ln, W2 G a3 kd fk hd va le mo, W5 G a4 cu, W1h G a5 a6 a7 a8 a9 a10 ol tt, W5 G a7 s0, W5 G a8 s1, W5 G a9 s2, W5 G a10 s3, W5 G a11 fo, W5 G a12 sv]) H := hP
    have hD : va_D A (flt [W6o G a0 a4 a11 a12 a5 a1 a3 hs, W0 G a1 a2 cs ln, W2 G a3 kd fk hd va le mo, W5 G a4 cu, W1h G a5 a6 a7 a8 a9 a10 ol tt, W5 G a7 s0, W5 G a8 s1, W5 G a9 s2, W5 G a10 s3, W5 G a11 fo, W5 G a12 sv]) := hD
    exact zr_iret (z := waysZ (cu.1 4)) hx hb hr hlocks hK () hP hD hS dX6_memory_51 ⟨r14, h11⟩
  · have h15 := hwp.2.2.2 c1
    refine zr_tsOut (x := part) (tgt := 52) hx hb r_part c1 dX6_memory_1 (by decide) ?_
    refine lv_bipush (v := iI (-2)) hx hb dX6_memory_52 (by decide) ?_
    exact zr_iret (z := (-2)) hx hb hr hlocks hK () hP hD hS dX6_memory_54 ⟨rg_m2, h15⟩
theorem c_X6_memory (l : Launch) (G : ZG) (a0 : Nat) (a1 : Nat) (a2 : Nat) (a3 : Nat) (a4 : Nat → Nat) (a5 : Nat) (a6 : Nat) (a7 : Nat → Nat) (a8 : Nat → Nat) (a9 : Nat → Nat) (a10 : Nat → Nat) (a11 : Nat → Nat) (a12 : Nat → Nat) (cu : SS) (fo : SS) (sv : SS) (hs : Int) (ol : Int) (tt : Int) (s0 : SS) (s1 : SS) (s2 : SS) (s3 : SS) (cs : Int → Int) (ln : Int) (kd : Int) (fk : Int) (hd : Int) (va : Int) (le : Int) (mo : Int) (part : Int) (m : SS) (n : Int) (r_cu : RG cu) (r_fo : RG fo) (r_sv : RG sv) (r_hs : rg hs) (r_ol : rg ol) (r_tt : rg tt) (r_s0 : RG s0) (r_s1 : RG s1) (r_s2 : RG s2) (r_s3 : RG s3) (r_cs : rgA cs) (r_ln : rg ln) (r_kd : rg kd) (r_fk : rg fk) (r_hd : rg hd) (r_va : rg va) (r_le : rg le) (r_mo : rg mo) (r_part : rg part) (p0 : Rep6 cu sv hs ol tt s0 s1 s2 s3 cs ln m n) (p1 : 0 ≤ n ∧ n ≤ 600) : ZI l G yX6_memory wsX6_memory 2 40 [.ref a0, .int (iI part)] (flt [W6o G a0 a4 a11 a12 a5 a1 a3 hs, W0 G a1 a2 cs ln, W2 G a3 kd fk hd va le mo, W5 G a4 cu, W1h G a5 a6 a7 a8 a9 a10 ol tt, W5 G a7 s0, W5 G a8 s1, W5 G a9 s2, W5 G a10 s3, W5 G a11 fo, W5 G a12 sv]) (fun u : Unit => flt [W6o G a0 a4 a11 a12 a5 a1 a3 hs, W0 G a1 a2 cs ln, W2 G a3 kd fk hd va le mo, W5 G a4 cu, W1h G a5 a6 a7 a8 a9 a10 ol tt, W5 G a7 s0, W5 G a8 s1, W5 G a9 s2, W5 G a10 s3, W5 G a11 fo, W5 G a12 sv]) (fun (zq : Int) (u : Unit) => rg zq ∧ (zq = an_memory (m.2 0) part)) :=
  c0_X6_memory l G a0 a1 a2 a3 a4 a5 a6 a7 a8 a9 a10 a11 a12 cu fo sv hs ol tt s0 s1 s2 s3 cs ln kd fk hd va le mo part (fun r => r = an_memory (m.2 0) part) r_cu r_fo r_sv r_hs r_ol r_tt r_s0 r_s1 r_s2 r_s3 r_cs r_ln r_kd r_fk r_hd r_va r_le r_mo r_part (sp_X6_memory cu fo sv hs ol tt s0 s1 s2 s3 cs ln kd fk hd va le mo part m n r_cu r_fo r_sv r_hs r_ol r_tt r_s0 r_s1 r_s2 r_s3 r_cs r_ln r_kd r_fk r_hd r_va r_le r_mo r_part p0 p1)
theorem imX6_inMemory_X5 : ∀ w ∈ wsX50, w ∈ wsX6_inMemory := fun _ h => (List.mem_cons_of_mem _ (List.mem_append_left _ (List.mem_append_right _ h)))
theorem imX6_inMemory_X6 : ∀ w ∈ wsX60, w ∈ wsX6_inMemory := fun _ h => (List.mem_cons_of_mem _ (List.mem_append_left _ (List.mem_append_left _ (List.mem_append_right _ h))))
theorem hdX6_inMemory : yX6_inMemory.cls = RX6 ∧ yX6_inMemory.cls ≠ "java/lang/invoke/MethodHandle" ∧ yX6_inMemory.cls ≠ "java/lang/invoke/VarHandle" ∧ (parseMethodDescriptor yX6_inMemory.desc).map (fun d => d.parameters.length) = some 1 := by decide +kernel
set_option maxRecDepth 100000 in
set_option maxHeartbeats 4000000 in
theorem c0_X6_inMemory (l : Launch) (G : ZG) (a0 : Nat) (a1 : Nat) (a2 : Nat) (a3 : Nat) (a4 : Nat → Nat) (a5 : Nat) (a6 : Nat) (a7 : Nat → Nat) (a8 : Nat → Nat) (a9 : Nat → Nat) (a10 : Nat → Nat) (a11 : Nat → Nat) (a12 : Nat → Nat) (cu : SS) (fo : SS) (sv : SS) (hs : Int) (ol : Int) (tt : Int) (s0 : SS) (s1 : SS) (s2 : SS) (s3 : SS) (cs : Int → Int) (ln : Int) (kd : Int) (fk : Int) (hd : Int) (va : Int) (le : Int) (mo : Int) (index : Int) (P : Int → Prop) (r_cu : RG cu) (r_fo : RG fo) (r_sv : RG sv) (r_hs : rg hs) (r_ol : rg ol) (r_tt : rg tt) (r_s0 : RG s0) (r_s1 : RG s1) (r_s2 : RG s2) (r_s3 : RG s3) (r_cs : rgA cs) (r_ln : rg ln) (r_kd : rg kd) (r_fk : rg fk) (r_hd : rg hd) (r_va : rg va) (r_le : rg le) (r_mo : rg mo) (r_index : rg index) (hwp : wp_X6_inMemory cu fo sv hs ol tt s0 s1 s2 s3 cs ln kd fk hd va le mo index P) : ZI l G yX6_inMemory wsX6_inMemory 1 21 [.ref a0, .int (iI index)] (flt [W6o G a0 a4 a11 a12 a5 a1 a3 hs, W0 G a1 a2 cs ln, W2 G a3 kd fk hd va le mo, W5 G a4 cu, W1h G a5 a6 a7 a8 a9 a10 ol tt, W5 G a7 s0, W5 G a8 s1, W5 G a9 s2, W5 G a10 s3, W5 G a11 fo, W5 G a12 sv]) (fun u : Unit => flt [W6o G a0 a4 a11 a12 a5 a1 a3 hs, W0 G a1 a2 cs ln, W2 G a3 kd fk hd va le mo, W5 G a4 cu, W1h G a5 a6 a7 a8 a9 a10 ol tt, W5 G a7 s0, W5 G a8 s1, W5 G a9 s2, W5 G a10 s3, W5 G a11 fo, W5 G a12 sv]) (fun (z : Int) (u : Unit) => rg z ∧ P z) := by
  unfold wp_X6_inMemory at hwp
  refine zm_i (cc := cX6_inMemory) (maxL := 2) (ret := some .int) (own := RX6) (lvs := [(0, .ref a0), (1, .int (iI index))]) (by decide) rfl rfl (Nat.le_of_ble_eq_true rfl) rfl ?_
  intro p e sT m args below meth c ls A hx hb hr hml hown hts hlocks hK hP hD hS hA hl
  have k1 := hts (.fieldLink RX6 10 "GrantedSort" "current" "LGrantedSort$SortState;") (List.mem_of_getElem? (i := 1) rfl)
  have k2 := hts (.fieldLink RX6 51 "GrantedSort$SortState" "table" "LGrantedSort$RowTable;") (List.mem_of_getElem? (i := 2) rfl)
  refine lv_aload_n hx hb dX6_inMemory_0 rfl (lv_at hl 0 rfl) ?_
  refine va_get (v := .ref (a4 0)) (ci := 6) (C := RX6) (T := TX6) (N := 7) hx hb hts imX6_inMemory_X6 hown hK hP 0 rfl rfl 0 (by decide) k1 (fun _ h9 => h9) rfl dX6_inMemory_1 ?_
  refine lv_iload_n hx hb dX6_inMemory_4 rfl (lv_at hl 1 rfl) ?_
  refine zq_viR (As := [.int (iI index)]) (rest := []) (c_X5_isInMemory l G a4 cu index r_cu r_index) ⟨hx, hb, hml, hown, hts⟩ (cwV 1 hts gX6_inMemory_X5_isInMemory rfl rfl rfl hdX5_isInMemory ⟨Nat.le_of_ble_eq_true rfl, Nat.le_of_ble_eq_true rfl⟩) hK hP hD hS hA rfl rfl [4, 5, 6, 7, 8, 9, 10, 11, 12, 13, 14, 15, 16, 17] rfl rfl rfl hl.1 rfl (Nat.le_of_ble_eq_true rfl) dX6_inMemory_5 ⟨Nat.zero_le _, Nat.zero_le _⟩ (fun z2 H locs hw hP hD hS => ?_)
  obtain ⟨rfl, r3⟩ := hw
  have hP : va_P G.1 vwCl (flt [W6o G a0 a4 a11 a12 a5 a1 a3 hs, W0 G a1 a2 cs ln, W2 G a3 kd fk hd va le mo, W5 G a4 cu, W1h G a5 a6 a7 a8 a9 a10 ol tt, W5 G a7 s0, W5 G a8 s1, W5 G a9 s2, W5 G a10 s3, W5 G a11 fo, W5 G a12 sv]) H := hP
  have hD : va_D A (flt [W6o G a0 a4 a11 a12 a5 a1 a3 hs, W0 G a1 a2 cs ln, W2 G a3 kd fk hd va le mo, W5 G a4 cu, W1h G a5 a6 a7 a8 a9 a10 ol tt, W5 G a7 s0, W5 G a8 s1, W5 G a9 s2, W5 G a10 s3, W5 G a11 fo, W5 G a12 sv]) := hD
  refine zr_ifB_ne (tgt := 13)  hx hb dX6_inMemory_8 (by decide) (fun c4 => ?_) (fun c4 => ?_)
  · have h7 := hwp.1 c4
    refine lv_aload_n hx hb dX6_inMemory_13 rfl (lv_at hl 0 rfl) ?_
    refine va_get (v := .ref (a4 0)) (ci := 6) (C := RX6) (T := TX6) (N := 7) hx hb hts imX6_inMemory_X6 hown hK hP 0 rfl rfl 0 (by decide) k1 (fun _ h9 => h9) rfl dX6_inMemory_14 ?_
    refine va_get (v := .ref (a4 1)) (ci := 5) (C := RX5) (T := TX5) (N := 16) hx hb hts imX6_inMemory_X5 hown hK hP 4 rfl rfl 0 (by decide) k2 (fun _ h9 => h9) rfl dX6_inMemory_17 ?_
    refine lv_aload_n hx hb dX6_inMemory_20 rfl (lv_at hl 0 rfl) ?_
    refine va_get (v := .ref (a4 0)) (ci := 6) (C := RX6) (T := TX6) (N := 7) hx hb hts imX6_inMemory_X6 hown hK hP 0 rfl rfl 0 (by decide) k1 (fun _ h9 => h9) rfl dX6_inMemory_21 ?_
    refine lv_iload_n hx hb dX6_inMemory_24 rfl (lv_at hl 1 rfl) ?_
    obtain ⟨b8, h9⟩ := h7
    refine zq_viR (As := [.int (iI index)]) (rest := [.ref (a4 1)]) (c_X5_memoryRowAt l G a4 cu index r_cu r_index b8) ⟨hx, hb, hml, hown, hts⟩ (cwV 1 hts gX6_inMemory_X5_memoryRowAt rfl rfl rfl hdX5_memoryRowAt ⟨Nat.le_of_ble_eq_true rfl, Nat.le_of_ble_eq_true rfl⟩) hK hP hD hS hA rfl rfl [4, 5, 6, 7, 8, 9, 10, 11, 12, 13, 14, 15, 16, 17] rfl rfl rfl hl.1 rfl (Nat.le_of_ble_eq_true rfl) dX6_inMemory_25 ⟨Nat.zero_le _, Nat.zero_le _⟩ (fun z11 H locs hw hP hD hS => ?_)
    obtain ⟨rfl, r12⟩ := hw
    have hP : va_P G.1 vwCl (flt [W6o G a0 a4 a11 a12 a5 a1 a3 hs, W0 G a1 a2 cs ln, W2 G a3 kd fk hd va le mo, W5 G a4 cu, W1h G a5 a6 a7 a8 a9 a10 ol tt, W5 G a7 s0, W5 G a8 s1, W5 G a9 s2, W5 G a10 s3, W5 G a11 fo, W5 G a12 sv]) H := hP
    have hD : va_D A (flt [W6o G a0 a4 a11 a12 a5 a1 a3 hs, W0 G a1 a2 cs ln, W2 G a3 kd fk hd va le mo, W5 G a4 cu, W1h G a5 a6 a7 a8 a9 a10 ol tt, W5 G a7 s0, W5 G a8 s1, W5 G a9 s2, W5 G a10 s3, W5 G a11 fo, W5 G a12 sv]) := hD
    obtain ⟨b13, h14⟩ := h9
    refine zq_viR (As := [.int (iI ((cu.2 9) index))]) (rest := []) (c_X3_keyOf l G (a4 1) (a4 2) (a4 3) (a4 4) (cu.2 0) (cu.2 1) (cu.2 2) (cu.1 16) ((cu.2 9) index) (r_cu.2 0) (r_cu.2 1) (r_cu.2 2) (r_cu.1 16) r12 b13) ⟨hx, hb, hml, hown, hts⟩ (cwV 1 hts gX6_inMemory_X3_keyOf rfl rfl rfl hdX3_keyOf ⟨Nat.le_of_ble_eq_true rfl, Nat.le_of_ble_eq_true rfl⟩) hK hP hD hS hA rfl rfl [5, 6, 7, 8] rfl rfl rfl hl.1 rfl (Nat.le_of_ble_eq_true rfl) dX6_inMemory_28 ⟨Nat.zero_le _, Nat.zero_le _⟩ (fun z16 H locs hw hP hD hS => ?_)
    obtain ⟨rfl, r17⟩ := hw
    have hP : va_P G.1 vwCl (flt [W6o G a0 a4 a11 a12 a5 a1 a3 hs, W0 G a1 a2 cs ln, W2 G a3 kd fk hd va le mo, W5 G a4 cu, W1h G a5 a6 a7 a8 a9 a10 ol tt, W5 G a7 s0, W5 G a8 s1, W5 G a9 s2, W5 G a10 s3, W5 G a11 fo, W5 G a12 sv]) H := hP
    have hD : va_D A (flt [W6o G a0 a4 a11 a12 a5 a1 a3 hs, W0 G a1 a2 cs ln, W2 G a3 kd fk hd va le mo, W5 G a4 cu, W1h G a5 a6 a7 a8 a9 a10 ol tt, W5 G a7 s0, W5 G a8 s1, W5 G a9 s2, W5 G a10 s3, W5 G a11 fo, W5 G a12 sv]) := hD
    exact zr_iret (z := (cu.2 0) ((cu.2 9) index)) hx hb hr hlocks hK () hP hD hS dX6_inMemory_31 ⟨r17, h14⟩
  · have h18 := hwp.2 c4
    refine lv_iconst (v := iI (-1)) hx hb dX6_inMemory_11 rfl ?_
    exact zr_iret (z := (-1)) hx hb hr hlocks hK () hP hD hS dX6_inMemory_12 ⟨rg_m1, h18⟩
theorem c_X6_inMemory (l : Launch) (G : ZG) (a0 : Nat) (a1 : Nat) (a2 : Nat) (a3 : Nat) (a4 : Nat → Nat) (a5 : Nat) (a6 : Nat) (a7 : Nat → Nat) (a8 : Nat → Nat) (a9 : Nat → Nat) (a10 : Nat → Nat) (a11 : Nat → Nat) (a12 : Nat → Nat) (cu : SS) (fo : SS) (sv : SS) (hs : Int) (ol : Int) (tt : Int) (s0 : SS) (s1 : SS) (s2 : SS) (s3 : SS) (cs : Int → Int) (ln : Int) (kd : Int) (fk : Int) (hd : Int) (va : Int) (le : Int) (mo : Int) (index : Int) (m : SS) (n : Int) (r_cu : RG cu) (r_fo : RG fo) (r_sv : RG sv) (r_hs : rg hs) (r_ol : rg ol) (r_tt : rg tt) (r_s0 : RG s0) (r_s1 : RG s1) (r_s2 : RG s2) (r_s3 : RG s3) (r_cs : rgA cs) (r_ln : rg ln) (r_kd : rg kd) (r_fk : rg fk) (r_hd : rg hd) (r_va : rg va) (r_le : rg le) (r_mo : rg mo) (r_index : rg index) (p0 : Rep6 cu sv hs ol tt s0 s1 s2 s3 cs ln m n) (p1 : 0 ≤ n ∧ n ≤ 600) : ZI l G yX6_inMemory wsX6_inMemory 1 21 [.ref a0, .int (iI index)] (flt [W6o G a0 a4 a11 a12 a5 a1 a3 hs, W0 G a1 a2 cs ln, W2 G a3 kd fk hd va le mo, W5 G a4 cu, W1h G a5 a6 a7 a8 a9 a10 ol tt, W5 G a7 s0, W5 G a8 s1, W5 G a9 s2, W5 G a10 s3, W5 G a11 fo, W5 G a12 sv]) (fun u : Unit => flt [W6o G a0 a4 a11 a12 a5 a1 a3 hs, W0 G a1 a2 cs ln, W2 G a3 kd fk hd va le mo, W5 G a4 cu, W1h G a5 a6 a7 a8 a9 a10 ol tt, W5 G a7 s0, W5 G a8 s1, W5 G a9 s2, W5 G a10 s3, W5 G a11 fo, W5 G a12 sv]) (fun (zq : Int) (u : Unit) => rg zq ∧ (zq = an_inMemory (m.2 0) index)) :=
  c0_X6_inMemory l G a0 a1 a2 a3 a4 a5 a6 a7 a8 a9 a10 a11 a12 cu fo sv hs ol tt s0 s1 s2 s3 cs ln kd fk hd va le mo index (fun r => r = an_inMemory (m.2 0) index) r_cu r_fo r_sv r_hs r_ol r_tt r_s0 r_s1 r_s2 r_s3 r_cs r_ln r_kd r_fk r_hd r_va r_le r_mo r_index (sp_X6_inMemory cu fo sv hs ol tt s0 s1 s2 s3 cs ln kd fk hd va le mo index m n r_cu r_fo r_sv r_hs r_ol r_tt r_s0 r_s1 r_s2 r_s3 r_cs r_ln r_kd r_fk r_hd r_va r_le r_mo r_index p0 p1)
theorem imX6_isMerging_X6 : ∀ w ∈ wsX60, w ∈ wsX6_isMerging := fun _ h => (List.mem_cons_of_mem _ (List.mem_append_left _ (List.mem_append_left _ (List.mem_append_right _ h))))
theorem hdX6_isMerging : yX6_isMerging.cls = RX6 ∧ yX6_isMerging.cls ≠ "java/lang/invoke/MethodHandle" ∧ yX6_isMerging.cls ≠ "java/lang/invoke/VarHandle" ∧ (parseMethodDescriptor yX6_isMerging.desc).map (fun d => d.parameters.length) = some 0 := by decide +kernel
set_option maxRecDepth 100000 in
set_option maxHeartbeats 4000000 in
theorem c0_X6_isMerging (l : Launch) (G : ZG) (a0 : Nat) (a1 : Nat) (a2 : Nat) (a3 : Nat) (a4 : Nat → Nat) (a5 : Nat) (a6 : Nat) (a7 : Nat → Nat) (a8 : Nat → Nat) (a9 : Nat → Nat) (a10 : Nat → Nat) (a11 : Nat → Nat) (a12 : Nat → Nat) (cu : SS) (fo : SS) (sv : SS) (hs : Int) (ol : Int) (tt : Int) (s0 : SS) (s1 : SS) (s2 : SS) (s3 : SS) (cs : Int → Int) (ln : Int) (kd : Int) (fk : Int) (hd : Int) (va : Int) (le : Int) (mo : Int)  (P : Int → Prop) (r_cu : RG cu) (r_fo : RG fo) (r_sv : RG sv) (r_hs : rg hs) (r_ol : rg ol) (r_tt : rg tt) (r_s0 : RG s0) (r_s1 : RG s1) (r_s2 : RG s2) (r_s3 : RG s3) (r_cs : rgA cs) (r_ln : rg ln) (r_kd : rg kd) (r_fk : rg fk) (r_hd : rg hd) (r_va : rg va) (r_le : rg le) (r_mo : rg mo)  (hwp : wp_X6_isMerging cu fo sv hs ol tt s0 s1 s2 s3 cs ln kd fk hd va le mo P) : ZI l G yX6_isMerging wsX6_isMerging 1 20 [.ref a0] (flt [W6o G a0 a4 a11 a12 a5 a1 a3 hs, W0 G a1 a2 cs ln, W2 G a3 kd fk hd va le mo, W5 G a4 cu, W1h G a5 a6 a7 a8 a9 a10 ol tt, W5 G a7 s0, W5 G a8 s1, W5 G a9 s2, W5 G a10 s3, W5 G a11 fo, W5 G a12 sv]) (fun u : Unit => flt [W6o G a0 a4 a11 a12 a5 a1 a3 hs, W0 G a1 a2 cs ln, W2 G a3 kd fk hd va le mo, W5 G a4 cu, W1h G a5 a6 a7 a8 a9 a10 ol tt, W5 G a7 s0, W5 G a8 s1, W5 G a9 s2, W5 G a10 s3, W5 G a11 fo, W5 G a12 sv]) (fun (z : Int) (u : Unit) => rg z ∧ P z) := by
  unfold wp_X6_isMerging at hwp
  refine zm_i (cc := cX6_isMerging) (maxL := 1) (ret := some .int) (own := RX6) (lvs := [(0, .ref a0)]) (by decide) rfl rfl (Nat.le_of_ble_eq_true rfl) rfl ?_
  intro p e sT m args below meth c ls A hx hb hr hml hown hts hlocks hK hP hD hS hA hl
  have k1 := hts (.fieldLink RX6 10 "GrantedSort" "current" "LGrantedSort$SortState;") (List.mem_of_getElem? (i := 1) rfl)
  refine lv_aload_n hx hb dX6_isMerging_0 rfl (lv_at hl 0 rfl) ?_
  refine va_get (v := .ref (a4 0)) (ci := 6) (C := RX6) (T := TX6) (N := 7) hx hb hts imX6_isMerging_X6 hown hK hP 0 rfl rfl 0 (by decide) k1 (fun _ h9 => h9) rfl dX6_isMerging_1 ?_
  refine zq_viR (As := []) (rest := []) (c_X5_hasMerge l G a4 cu r_cu) ⟨hx, hb, hml, hown, hts⟩ (cwV 0 hts gX6_isMerging_X5_hasMerge rfl rfl rfl hdX5_hasMerge ⟨Nat.le_of_ble_eq_true rfl, Nat.le_of_ble_eq_true rfl⟩) hK hP hD hS hA rfl rfl [4, 5, 6, 7, 8, 9, 10, 11, 12, 13, 14, 15, 16, 17] rfl rfl rfl hl.1 rfl (Nat.le_of_ble_eq_true rfl) dX6_isMerging_4 ⟨Nat.zero_le _, Nat.zero_le _⟩ (fun z2 H locs hw hP hD hS => ?_)
  obtain ⟨rfl, r3⟩ := hw
  have hP : va_P G.1 vwCl (flt [W6o G a0 a4 a11 a12 a5 a1 a3 hs, W0 G a1 a2 cs ln, W2 G a3 kd fk hd va le mo, W5 G a4 cu, W1h G a5 a6 a7 a8 a9 a10 ol tt, W5 G a7 s0, W5 G a8 s1, W5 G a9 s2, W5 G a10 s3, W5 G a11 fo, W5 G a12 sv]) H := hP
  have hD : va_D A (flt [W6o G a0 a4 a11 a12 a5 a1 a3 hs, W0 G a1 a2 cs ln, W2 G a3 kd fk hd va le mo, W5 G a4 cu, W1h G a5 a6 a7 a8 a9 a10 ol tt, W5 G a7 s0, W5 G a8 s1, W5 G a9 s2, W5 G a10 s3, W5 G a11 fo, W5 G a12 sv]) := hD
  refine zc_si (As := [.int (iI (pz (0 < (cu.1 18))))]) (rest := []) (c_X6_asNumber l G (pz (0 < (cu.1 18))) r3) ⟨hx, hb, hml, hown, hts⟩ (va_cwS 1 hts gX6_isMerging_X6_asNumber rfl rfl rfl hdX6_asNumber ⟨Nat.le_of_ble_eq_true rfl, Nat.le_of_ble_eq_true rfl⟩) hK hP hD hS hA rfl hl.1 rfl (Nat.le_of_ble_eq_true rfl) dX6_isMerging_7 ⟨Nat.zero_le _, Nat.zero_le _⟩ (fun z5 H locs hw hP hD hS => ?_)
  obtain ⟨rfl, r6⟩ := hw
  have hP : va_P G.1 vwCl (flt [W6o G a0 a4 a11 a12 a5 a1 a3 hs, W0 G a1 a2 cs ln, W2 G a3 kd fk hd va le mo, W5 G a4 cu, W1h G a5 a6 a7 a8 a9 a10 ol tt, W5 G a7 s0, W5 G a8 s1, W5 G a9 s2, W5 G a10 s3, W5 G a11 fo, W5 G a12 sv]) H := hP
  have hD : va_D A (flt [W6o G a0 a4 a11 a12 a5 a1 a3 hs, W0 G a1 a2 cs ln, W2 G a3 kd fk hd va le mo, W5 G a4 cu, W1h G a5 a6 a7 a8 a9 a10 ol tt, W5 G a7 s0, W5 G a8 s1, W5 G a9 s2, W5 G a10 s3, W5 G a11 fo, W5 G a12 sv]) := hD
  exact zr_iret (z := (if (pz (0 < (cu.1 18))) = 0 then 0 else 1)) hx hb hr hlocks hK () hP hD hS dX6_isMerging_10 ⟨r6, hwp⟩
theorem c_X6_isMerging (l : Launch) (G : ZG) (a0 : Nat) (a1 : Nat) (a2 : Nat) (a3 : Nat) (a4 : Nat → Nat) (a5 : Nat) (a6 : Nat) (a7 : Nat → Nat) (a8 : Nat → Nat) (a9 : Nat → Nat) (a10 : Nat → Nat) (a11 : Nat → Nat) (a12 : Nat → Nat) (cu : SS) (fo : SS) (sv : SS) (hs : Int) (ol : Int) (tt : Int) (s0 : SS) (s1 : SS) (s2 : SS) (s3 : SS) (cs : Int → Int) (ln : Int) (kd : Int) (fk : Int) (hd : Int) (va : Int) (le : Int) (mo : Int)  (m : SS) (n : Int) (r_cu : RG cu) (r_fo : RG fo) (r_sv : RG sv) (r_hs : rg hs) (r_ol : rg ol) (r_tt : rg tt) (r_s0 : RG s0) (r_s1 : RG s1) (r_s2 : RG s2) (r_s3 : RG s3) (r_cs : rgA cs) (r_ln : rg ln) (r_kd : rg kd) (r_fk : rg fk) (r_hd : rg hd) (r_va : rg va) (r_le : rg le) (r_mo : rg mo)  (p0 : Rep6 cu sv hs ol tt s0 s1 s2 s3 cs ln m n) (p1 : 0 ≤ n ∧ n ≤ 600) : ZI l G yX6_isMerging wsX6_isMerging 1 20 [.ref a0] (flt [W6o G a0 a4 a11 a12 a5 a1 a3 hs, W0 G a1 a2 cs ln, W2 G a3 kd fk hd va le mo, W5 G a4 cu, W1h G a5 a6 a7 a8 a9 a10 ol tt, W5 G a7 s0, W5 G a8 s1, W5 G a9 s2, W5 G a10 s3, W5 G a11 fo, W5 G a12 sv]) (fun u : Unit => flt [W6o G a0 a4 a11 a12 a5 a1 a3 hs, W0 G a1 a2 cs ln, W2 G a3 kd fk hd va le mo, W5 G a4 cu, W1h G a5 a6 a7 a8 a9 a10 ol tt, W5 G a7 s0, W5 G a8 s1, W5 G a9 s2, W5 G a10 s3, W5 G a11 fo, W5 G a12 sv]) (fun (zq : Int) (u : Unit) => rg zq ∧ (zq = (m.2 0) 5)) :=
  c0_X6_isMerging l G a0 a1 a2 a3 a4 a5 a6 a7 a8 a9 a10 a11 a12 cu fo sv hs ol tt s0 s1 s2 s3 cs ln kd fk hd va le mo (fun r => r = (m.2 0) 5) r_cu r_fo r_sv r_hs r_ol r_tt r_s0 r_s1 r_s2 r_s3 r_cs r_ln r_kd r_fk r_hd r_va r_le r_mo  (sp_X6_isMerging cu fo sv hs ol tt s0 s1 s2 s3 cs ln kd fk hd va le mo m n r_cu r_fo r_sv r_hs r_ol r_tt r_s0 r_s1 r_s2 r_s3 r_cs r_ln r_kd r_fk r_hd r_va r_le r_mo  p0 p1)
theorem imX6_isDone_X6 : ∀ w ∈ wsX60, w ∈ wsX6_isDone := fun _ h => (List.mem_cons_of_mem _ (List.mem_append_left _ (List.mem_append_left _ (List.mem_append_right _ h))))
theorem hdX6_isDone : yX6_isDone.cls = RX6 ∧ yX6_isDone.cls ≠ "java/lang/invoke/MethodHandle" ∧ yX6_isDone.cls ≠ "java/lang/invoke/VarHandle" ∧ (parseMethodDescriptor yX6_isDone.desc).map (fun d => d.parameters.length) = some 0 := by decide +kernel
set_option maxRecDepth 100000 in
set_option maxHeartbeats 4000000 in
theorem c0_X6_isDone (l : Launch) (G : ZG) (a0 : Nat) (a1 : Nat) (a2 : Nat) (a3 : Nat) (a4 : Nat → Nat) (a5 : Nat) (a6 : Nat) (a7 : Nat → Nat) (a8 : Nat → Nat) (a9 : Nat → Nat) (a10 : Nat → Nat) (a11 : Nat → Nat) (a12 : Nat → Nat) (cu : SS) (fo : SS) (sv : SS) (hs : Int) (ol : Int) (tt : Int) (s0 : SS) (s1 : SS) (s2 : SS) (s3 : SS) (cs : Int → Int) (ln : Int) (kd : Int) (fk : Int) (hd : Int) (va : Int) (le : Int) (mo : Int)  (P : Int → Prop) (r_cu : RG cu) (r_fo : RG fo) (r_sv : RG sv) (r_hs : rg hs) (r_ol : rg ol) (r_tt : rg tt) (r_s0 : RG s0) (r_s1 : RG s1) (r_s2 : RG s2) (r_s3 : RG s3) (r_cs : rgA cs) (r_ln : rg ln) (r_kd : rg kd) (r_fk : rg fk) (r_hd : rg hd) (r_va : rg va) (r_le : rg le) (r_mo : rg mo)  (hwp : wp_X6_isDone cu fo sv hs ol tt s0 s1 s2 s3 cs ln kd fk hd va le mo P) : ZI l G yX6_isDone wsX6_isDone 2 40 [.ref a0] (flt [W6o G a0 a4 a11 a12 a5 a1 a3 hs, W0 G a1 a2 cs ln, W2 G a3 kd fk hd va le mo, W5 G a4 cu, W1h G a5 a6 a7 a8 a9 a10 ol tt, W5 G a7 s0, W5 G a8 s1, W5 G a9 s2, W5 G a10 s3, W5 G a11 fo, W5 G a12 sv]) (fun u : Unit => flt [W6o G a0 a4 a11 a12 a5 a1 a3 hs, W0 G a1 a2 cs ln, W2 G a3 kd fk hd va le mo, W5 G a4 cu, W1h G a5 a6 a7 a8 a9 a10 ol tt, W5 G a7 s0, W5 G a8 s1, W5 G a9 s2, W5 G a10 s3, W5 G a11 fo, W5 G a12 sv]) (fun (z : Int) (u : Unit) => rg z ∧ P z) := by
  unfold wp_X6_isDone at hwp
  refine zm_i (cc := cX6_isDone) (maxL := 1) (ret := some .int) (own := RX6) (lvs := [(0, .ref a0)]) (by decide) rfl rfl (Nat.le_of_ble_eq_true rfl) rfl ?_
  intro p e sT m args below meth c ls A hx hb hr hml hown hts hlocks hK hP hD hS hA hl
  have k1 := hts (.fieldLink RX6 10 "GrantedSort" "current" "LGrantedSort$SortState;") (List.mem_of_getElem? (i := 1) rfl)
  refine lv_aload_n hx hb dX6_isDone_0 rfl (lv_at hl 0 rfl) ?_
  refine va_get (v := .ref (a4 0)) (ci := 6) (C := RX6) (T := TX6) (N := 7) hx hb hts imX6_isDone_X6 hown hK hP 0 rfl rfl 0 (by decide) k1 (fun _ h9 => h9) rfl dX6_isDone_1 ?_
  refine zq_viR (As := []) (rest := []) (c_X5_isSorted l G a4 cu r_cu) ⟨hx, hb, hml, hown, hts⟩ (cwV 0 hts gX6_isDone_X5_isSorted rfl rfl rfl hdX5_isSorted ⟨Nat.le_of_ble_eq_true rfl, Nat.le_of_ble_eq_true rfl⟩) hK hP hD hS hA rfl rfl [4, 5, 6, 7, 8, 9, 10, 11, 12, 13, 14, 15, 16, 17] rfl rfl rfl hl.1 rfl (Nat.le_of_ble_eq_true rfl) dX6_isDone_4 ⟨Nat.zero_le _, Nat.zero_le _⟩ (fun z2 H locs hw hP hD hS => ?_)
  obtain ⟨rfl, r3⟩ := hw
  have hP : va_P G.1 vwCl (flt [W6o G a0 a4 a11 a12 a5 a1 a3 hs, W0 G a1 a2 cs ln, W2 G a3 kd fk hd va le mo, W5 G a4 cu, W1h G a5 a6 a7 a8 a9 a10 ol tt, W5 G a7 s0, W5 G a8 s1, W5 G a9 s2, W5 G a10 s3, W5 G a11 fo, W5 G a12 sv]) H := hP
  have hD : va_D A (flt [W6o G a0 a4 a11 a12 a5 a1 a3 hs, W0 G a1 a2 cs ln, W2 G a3 kd fk hd va le mo, W5 G a4 cu, W1h G a5 a6 a7 a8 a9 a10 ol tt, W5 G a7 s0, W5 G a8 s1, W5 G a9 s2, W5 G a10 s3, W5 G a11 fo, W5 G a12 sv]) := hD
  refine zc_si (As := [.int (iI (pz ((cu.1 3) = 0 ∧ ¬ 0 < (cu.1 18) ∧ (cu.1 17) ≤ 1)))]) (rest := []) (c_X6_asNumber l G (pz ((cu.1 3) = 0 ∧ ¬ 0 < (cu.1 18) ∧ (cu.1 17) ≤ 1)) r3) ⟨hx, hb, hml, hown, hts⟩ (va_cwS 1 hts gX6_isDone_X6_asNumber rfl rfl rfl hdX6_asNumber ⟨Nat.le_of_ble_eq_true rfl, Nat.le_of_ble_eq_true rfl⟩) hK hP hD hS hA rfl hl.1 rfl (Nat.le_of_ble_eq_true rfl) dX6_isDone_7 ⟨Nat.zero_le _, Nat.zero_le _⟩ (fun z5 H locs hw hP hD hS => ?_)
  obtain ⟨rfl, r6⟩ := hw
  have hP : va_P G.1 vwCl (flt [W6o G a0 a4 a11 a12 a5 a1 a3 hs, W0 G a1 a2 cs ln, W2 G a3 kd fk hd va le mo, W5 G a4 cu, W1h G a5 a6 a7 a8 a9 a10 ol tt, W5 G a7 s0, W5 G a8 s1, W5 G a9 s2, W5 G a10 s3, W5 G a11 fo, W5 G a12 sv]) H := hP
  have hD : va_D A (flt [W6o G a0 a4 a11 a12 a5 a1 a3 hs, W0 G a1 a2 cs ln, W2 G a3 kd fk hd va le mo, W5 G a4 cu, W1h G a5 a6 a7 a8 a9 a10 ol tt, W5 G a7 s0, W5 G a8 s1, W5 G a9 s2, W5 G a10 s3, W5 G a11 fo, W5 G a12 sv]) := hD
  exact zr_iret (z := (if (pz ((cu.1 3) = 0 ∧ ¬ 0 < (cu.1 18) ∧ (cu.1 17) ≤ 1)) = 0 then 0 else 1)) hx hb hr hlocks hK () hP hD hS dX6_isDone_10 ⟨r6, hwp⟩
theorem c_X6_isDone (l : Launch) (G : ZG) (a0 : Nat) (a1 : Nat) (a2 : Nat) (a3 : Nat) (a4 : Nat → Nat) (a5 : Nat) (a6 : Nat) (a7 : Nat → Nat) (a8 : Nat → Nat) (a9 : Nat → Nat) (a10 : Nat → Nat) (a11 : Nat → Nat) (a12 : Nat → Nat) (cu : SS) (fo : SS) (sv : SS) (hs : Int) (ol : Int) (tt : Int) (s0 : SS) (s1 : SS) (s2 : SS) (s3 : SS) (cs : Int → Int) (ln : Int) (kd : Int) (fk : Int) (hd : Int) (va : Int) (le : Int) (mo : Int)  (m : SS) (n : Int) (r_cu : RG cu) (r_fo : RG fo) (r_sv : RG sv) (r_hs : rg hs) (r_ol : rg ol) (r_tt : rg tt) (r_s0 : RG s0) (r_s1 : RG s1) (r_s2 : RG s2) (r_s3 : RG s3) (r_cs : rgA cs) (r_ln : rg ln) (r_kd : rg kd) (r_fk : rg fk) (r_hd : rg hd) (r_va : rg va) (r_le : rg le) (r_mo : rg mo)  (p0 : Rep6 cu sv hs ol tt s0 s1 s2 s3 cs ln m n) (p1 : 0 ≤ n ∧ n ≤ 600) : ZI l G yX6_isDone wsX6_isDone 2 40 [.ref a0] (flt [W6o G a0 a4 a11 a12 a5 a1 a3 hs, W0 G a1 a2 cs ln, W2 G a3 kd fk hd va le mo, W5 G a4 cu, W1h G a5 a6 a7 a8 a9 a10 ol tt, W5 G a7 s0, W5 G a8 s1, W5 G a9 s2, W5 G a10 s3, W5 G a11 fo, W5 G a12 sv]) (fun u : Unit => flt [W6o G a0 a4 a11 a12 a5 a1 a3 hs, W0 G a1 a2 cs ln, W2 G a3 kd fk hd va le mo, W5 G a4 cu, W1h G a5 a6 a7 a8 a9 a10 ol tt, W5 G a7 s0, W5 G a8 s1, W5 G a9 s2, W5 G a10 s3, W5 G a11 fo, W5 G a12 sv]) (fun (zq : Int) (u : Unit) => rg zq ∧ (zq = an_isDone (m.2 0))) :=
  c0_X6_isDone l G a0 a1 a2 a3 a4 a5 a6 a7 a8 a9 a10 a11 a12 cu fo sv hs ol tt s0 s1 s2 s3 cs ln kd fk hd va le mo (fun r => r = an_isDone (m.2 0)) r_cu r_fo r_sv r_hs r_ol r_tt r_s0 r_s1 r_s2 r_s3 r_cs r_ln r_kd r_fk r_hd r_va r_le r_mo  (sp_X6_isDone cu fo sv hs ol tt s0 s1 s2 s3 cs ln kd fk hd va le mo m n r_cu r_fo r_sv r_hs r_ol r_tt r_s0 r_s1 r_s2 r_s3 r_cs r_ln r_kd r_fk r_hd r_va r_le r_mo  p0 p1)
theorem imX6_ofMerge_X4 : ∀ w ∈ wsX40, w ∈ wsX6_ofMerge := fun _ h => (List.mem_cons_of_mem _ (List.mem_append_right _ h))
theorem imX6_ofMerge_X5 : ∀ w ∈ wsX50, w ∈ wsX6_ofMerge := fun _ h => (List.mem_cons_of_mem _ (List.mem_append_left _ (List.mem_append_right _ h)))
theorem imX6_ofMerge_X6 : ∀ w ∈ wsX60, w ∈ wsX6_ofMerge := fun _ h => (List.mem_cons_of_mem _ (List.mem_append_left _ (List.mem_append_left _ (List.mem_append_right _ h))))
theorem hdX6_ofMerge : yX6_ofMerge.cls = RX6 ∧ yX6_ofMerge.cls ≠ "java/lang/invoke/MethodHandle" ∧ yX6_ofMerge.cls ≠ "java/lang/invoke/VarHandle" ∧ (parseMethodDescriptor yX6_ofMerge.desc).map (fun d => d.parameters.length) = some 1 := by decide +kernel
set_option maxRecDepth 100000 in
set_option maxHeartbeats 4000000 in
theorem c0_X6_ofMerge (l : Launch) (G : ZG) (a0 : Nat) (a1 : Nat) (a2 : Nat) (a3 : Nat) (a4 : Nat → Nat) (a5 : Nat) (a6 : Nat) (a7 : Nat → Nat) (a8 : Nat → Nat) (a9 : Nat → Nat) (a10 : Nat → Nat) (a11 : Nat → Nat) (a12 : Nat → Nat) (cu : SS) (fo : SS) (sv : SS) (hs : Int) (ol : Int) (tt : Int) (s0 : SS) (s1 : SS) (s2 : SS) (s3 : SS) (cs : Int → Int) (ln : Int) (kd : Int) (fk : Int) (hd : Int) (va : Int) (le : Int) (mo : Int) (part : Int) (P : Int → Prop) (r_cu : RG cu) (r_fo : RG fo) (r_sv : RG sv) (r_hs : rg hs) (r_ol : rg ol) (r_tt : rg tt) (r_s0 : RG s0) (r_s1 : RG s1) (r_s2 : RG s2) (r_s3 : RG s3) (r_cs : rgA cs) (r_ln : rg ln) (r_kd : rg kd) (r_fk : rg fk) (r_hd : rg hd) (r_va : rg va) (r_le : rg le) (r_mo : rg mo) (r_part : rg part) (hwp : wp_X6_ofMerge cu fo sv hs ol tt s0 s1 s2 s3 cs ln kd fk hd va le mo part P) : ZI l G yX6_ofMerge wsX6_ofMerge 2 43 [.ref a0, .int (iI part)] (flt [W6o G a0 a4 a11 a12 a5 a1 a3 hs, W0 G a1 a2 cs ln, W2 G a3 kd fk hd va le mo, W5 G a4 cu, W1h G a5 a6 a7 a8 a9 a10 ol tt, W5 G a7 s0, W5 G a8 s1, W5 G a9 s2, W5 G a10 s3, W5 G a11 fo, W5 G a12 sv]) (fun u : Unit => flt [W6o G a0 a4 a11 a12 a5 a1 a3 hs, W0 G a1 a2 cs ln, W2 G a3 kd fk hd va le mo, W5 G a4 cu, W1h G a5 a6 a7 a8 a9 a10 ol tt, W5 G a7 s0, W5 G a8 s1, W5 G a9 s2, W5 G a10 s3, W5 G a11 fo, W5 G a12 sv]) (fun (z : Int) (u : Unit) => rg z ∧ P z) := by
  unfold wp_X6_ofMerge at hwp
  refine zm_i (cc := cX6_ofMerge) (maxL := 2) (ret := some .int) (own := RX6) (lvs := [(0, .ref a0), (1, .int (iI part))]) (by decide) rfl rfl (Nat.le_of_ble_eq_true rfl) rfl ?_
  intro p e sT m args below meth c ls A hx hb hr hml hown hts hlocks hK hP hD hS hA hl
  have k1 := hts (.fieldLink RX6 10 "GrantedSort" "current" "LGrantedSort$SortState;") (List.mem_of_getElem? (i := 1) rfl)
  have k2 := hts (.fieldLink RX6 139 "GrantedSort$SortState" "inputsAtBegin" "I") (List.mem_of_getElem? (i := 2) rfl)
  have k3 := hts (.fieldLink RX6 142 "GrantedSort$SortState" "inputs" "LGrantedSort$RunList;") (List.mem_of_getElem? (i := 3) rfl)
  have k4 := hts (.fieldLink RX6 91 "GrantedSort$RunList" "total" "I") (List.mem_of_getElem? (i := 4) rfl)
  have k5 := hts (.fieldLink RX6 145 "GrantedSort$SortState" "outputLength" "I") (List.mem_of_getElem? (i := 5) rfl)
  refine lv_iload_n hx hb dX6_ofMerge_0 rfl (lv_at hl 1 rfl) ?_
  refine zr_if_lt (tgt := 9) (x := part) hx hb r_part dX6_ofMerge_1 (by decide) (fun c1 => ?_) (fun c1 => ?_)
  · have h4 := hwp.1 c1
    refine lv_bipush (v := iI (-2)) hx hb dX6_ofMerge_9 (by decide) ?_
    exact zr_iret (z := (-2)) hx hb hr hlocks hK () hP hD hS dX6_ofMerge_11 ⟨rg_m2, h4⟩
  · have h5 := hwp.2 c1
    refine lv_iload_n hx hb dX6_ofMerge_4 rfl (lv_at hl 1 rfl) ?_
    refine lv_iconst (v := iI 3) hx hb dX6_ofMerge_5 rfl ?_
    refine zr_icmp_le (tgt := 12) (x := part) (y := 3) hx hb r_part rg_3 dX6_ofMerge_6 (by decide) (fun c6 => ?_) (fun c6 => ?_)
    · have h9 := h5.2 c6
      refine lv_aload_n hx hb dX6_ofMerge_12 rfl (lv_at hl 0 rfl) ?_
      refine va_get (v := .ref (a4 0)) (ci := 6) (C := RX6) (T := TX6) (N := 7) hx hb hts imX6_ofMerge_X6 hown hK hP 0 rfl rfl 0 (by decide) k1 (fun _ h9 => h9) rfl dX6_ofMerge_13 ?_
      refine zq_viR (As := []) (rest := []) (c_X5_hasMerge l G a4 cu r_cu) ⟨hx, hb, hml, hown, hts⟩ (cwV 0 hts gX6_ofMerge_X5_hasMerge rfl rfl rfl hdX5_hasMerge ⟨Nat.le_of_ble_eq_true rfl, Nat.le_of_ble_eq_true rfl⟩) hK hP hD hS hA rfl rfl [4, 5, 6, 7, 8, 9, 10, 11, 12, 13, 14, 15, 16, 17] rfl rfl rfl hl.1 rfl (Nat.le_of_ble_eq_true rfl) dX6_ofMerge_16 ⟨Nat.zero_le _, Nat.zero_le _⟩ (fun z11 H locs hw hP hD hS => ?_)
      obtain ⟨rfl, r12⟩ := hw
      have hP : va_P G.1 vwCl (flt [W6o G a0 a4 a11 a12 a5 a1 a3 hs, W0 G a1 a2 cs ln, W2 G a3 kd fk hd va le mo, W5 G a4 cu, W1h G a5 a6 a7 a8 a9 a10 ol tt, W5 G a7 s0, W5 G a8 s1, W5 G a9 s2, W5 G a10 s3, W5 G a11 fo, W5 G a12 sv]) H := hP
      have hD : va_D A (flt [W6o G a0 a4 a11 a12 a5 a1 a3 hs, W0 G a1 a2 cs ln, W2 G a3 kd fk hd va le mo, W5 G a4 cu, W1h G a5 a6 a7 a8 a9 a10 ol tt, W5 G a7 s0, W5 G a8 s1, W5 G a9 s2, W5 G a10 s3, W5 G a11 fo, W5 G a12 sv]) := hD
      refine zr_ifB_ne (tgt := 25)  hx hb dX6_ofMerge_19 (by decide) (fun c13 => ?_) (fun c13 => ?_)
      · have h16 := h9.1 c13
        refine lv_iload_n hx hb dX6_ofMerge_25 rfl (lv_at hl 1 rfl) ?_
        rcases (show part = 0 ∨ part = 1 ∨ part = 2 ∨ (part < 0 ∨ 2 < part) by omega) with c17 | c17 | c17 | c17
        · have h18 := h16.1 c17
          refine zr_tsIn (x := part) (v := 0) (tgt := 52) hx hb r_part 0 c17 dX6_ofMerge_26 ⟨by decide, rfl⟩ (by decide) ?_
          refine lv_aload_n hx hb dX6_ofMerge_52 rfl (lv_at hl 0 rfl) ?_
          refine va_get (v := .ref (a4 0)) (ci := 6) (C := RX6) (T := TX6) (N := 7) hx hb hts imX6_ofMerge_X6 hown hK hP 0 rfl rfl 0 (by decide) k1 (fun _ h9 => h9) rfl dX6_ofMerge_53 ?_
          refine va_get (v := .int (iI (cu.1 8))) (ci := 5) (C := RX5) (T := TX5) (N := 16) hx hb hts imX6_ofMerge_X5 hown hK hP 4 rfl rfl 8 (by decide) k2 (fun _ h9 => h9) rfl dX6_ofMerge_56 ?_
          exact zr_iret (z := (cu.1 8)) hx hb hr hlocks hK () hP hD hS dX6_ofMerge_59 ⟨(r_cu.1 8), h18⟩
        · have h19 := h16.2.1 c17
          refine zr_tsIn (x := part) (v := 1) (tgt := 60) hx hb r_part 1 c17 dX6_ofMerge_26 ⟨by decide, rfl⟩ (by decide) ?_
          refine lv_aload_n hx hb dX6_ofMerge_60 rfl (lv_at hl 0 rfl) ?_
          refine va_get (v := .ref (a4 0)) (ci := 6) (C := RX6) (T := TX6) (N := 7) hx hb hts imX6_ofMerge_X6 hown hK hP 0 rfl rfl 0 (by decide) k1 (fun _ h9 => h9) rfl dX6_ofMerge_61 ?_
          refine va_get (v := .ref (a4 10)) (ci := 5) (C := RX5) (T := TX5) (N := 16) hx hb hts imX6_ofMerge_X5 hown hK hP 4 rfl rfl 7 (by decide) k3 (fun _ h9 => h9) rfl dX6_ofMerge_64 ?_
          refine va_get (v := .int (iI (cu.1 18))) (ci := 4) (C := RX4) (T := TX4) (N := 4) hx hb hts imX6_ofMerge_X4 hown hK hP 14 rfl rfl 3 (by decide) k4 (fun _ h9 => h9) rfl dX6_ofMerge_67 ?_
          exact zr_iret (z := (cu.1 18)) hx hb hr hlocks hK () hP hD hS dX6_ofMerge_70 ⟨(r_cu.1 18), h19⟩
        · have h20 := h16.2.2.1 c17
          refine zr_tsIn (x := part) (v := 2) (tgt := 71) hx hb r_part 2 c17 dX6_ofMerge_26 ⟨by decide, rfl⟩ (by decide) ?_
          refine lv_aload_n hx hb dX6_ofMerge_71 rfl (lv_at hl 0 rfl) ?_
          refine va_get (v := .ref (a4 0)) (ci := 6) (C := RX6) (T := TX6) (N := 7) hx hb hts imX6_ofMerge_X6 hown hK hP 0 rfl rfl 0 (by decide) k1 (fun _ h9 => h9) rfl dX6_ofMerge_72 ?_
          refine va_get (v := .int (iI (cu.1 11))) (ci := 5) (C := RX5) (T := TX5) (N := 16) hx hb hts imX6_ofMerge_X5 hown hK hP 4 rfl rfl 11 (by decide) k5 (fun _ h9 => h9) rfl dX6_ofMerge_75 ?_
          exact zr_iret (z := (cu.1 11)) hx hb hr hlocks hK () hP hD hS dX6_ofMerge_78 ⟨(r_cu.1 11), h20⟩
        · have h21 := h16.2.2.2 c17
          refine zr_tsOut (x := part) (tgt := 79) hx hb r_part c17 dX6_ofMerge_26 (by decide) ?_
          refine lv_aload_n hx hb dX6_ofMerge_79 rfl (lv_at hl 0 rfl) ?_
          refine va_get (v := .ref (a4 0)) (ci := 6) (C := RX6) (T := TX6) (N := 7) hx hb hts imX6_ofMerge_X6 hown hK hP 0 rfl rfl 0 (by decide) k1 (fun _ h9 => h9) rfl dX6_ofMerge_80 ?_
          refine va_get (v := .ref (a4 10)) (ci := 5) (C := RX5) (T := TX5) (N := 16) hx hb hts imX6_ofMerge_X5 hown hK hP 4 rfl rfl 7 (by decide) k3 (fun _ h9 => h9) rfl dX6_ofMerge_83 ?_
          obtain ⟨b22, h23⟩ := h21
          obtain ⟨b24, h25⟩ := h23
          refine zq_viR (As := []) (rest := []) (c_X4_rowsInAll l G (a4 10) (a4 11) (a4 12) (a4 13) (cu.2 6) (cu.2 7) (cu.2 8) (cu.1 18) (r_cu.2 6) (r_cu.2 7) (r_cu.2 8) (r_cu.1 18) b22 b24) ⟨hx, hb, hml, hown, hts⟩ (cwV 0 hts gX6_ofMerge_X4_rowsInAll rfl rfl rfl hdX4_rowsInAll ⟨Nat.le_of_ble_eq_true rfl, Nat.le_of_ble_eq_true rfl⟩) hK hP hD hS hA rfl rfl [14, 15, 16, 17] rfl rfl rfl hl.1 rfl (Nat.le_of_ble_eq_true rfl) dX6_ofMerge_86 ⟨Nat.zero_le _, Nat.zero_le _⟩ (fun z27 H locs hw hP hD hS => ?_)
          obtain ⟨rfl, r28⟩ := hw
          have hP : va_P G.1 vwCl (flt [W6o G a0 a4 a11 a12 a5 a1 a3 hs, W0 G a1 a2 cs ln, W2 G a3 kd fk hd va le mo, W5 G a4 cu, W1h G a5 a6 a7 a8 a9 a10 ol tt, W5 G a7 s0, W5 G a8 s1, W5 G a9 s2, W5 G a10 s3, W5 G a11 fo, W5 G a12 sv]) H := hP
          have hD : va_D A (flt [W6o G a0 a4 a11 a12 a5 a1 a3 hs, W0 G a1 a2 cs ln, W2 G a3 kd fk hd va le mo, W5 G a4 cu, W1h G a5 a6 a7 a8 a9 a10 ol tt, W5 G a7 s0, W5 G a8 s1, W5 G a9 s2, W5 G a10 s3, W5 G a11 fo, W5 G a12 sv]) := hD
          exact zr_iret (z := sumI (cu.2 8) (cu.1 18).toNat) hx hb hr hlocks hK () hP hD hS dX6_ofMerge_89 ⟨r28, h25⟩
      · have h29 := h9.2 c13
        refine lv_bipush (v := iI (-6)) hx hb dX6_ofMerge_22 (by decide) ?_
        exact zr_iret (z := (-6)) hx hb hr hlocks hK () hP hD hS dX6_ofMerge_24 ⟨rg_m6, h29⟩
    · have h30 := h5.1 c6
      refine lv_bipush (v := iI (-2)) hx hb dX6_ofMerge_9 (by decide) ?_
      exact zr_iret (z := (-2)) hx hb hr hlocks hK () hP hD hS dX6_ofMerge_11 ⟨rg_m2, h30⟩
theorem c_X6_ofMerge (l : Launch) (G : ZG) (a0 : Nat) (a1 : Nat) (a2 : Nat) (a3 : Nat) (a4 : Nat → Nat) (a5 : Nat) (a6 : Nat) (a7 : Nat → Nat) (a8 : Nat → Nat) (a9 : Nat → Nat) (a10 : Nat → Nat) (a11 : Nat → Nat) (a12 : Nat → Nat) (cu : SS) (fo : SS) (sv : SS) (hs : Int) (ol : Int) (tt : Int) (s0 : SS) (s1 : SS) (s2 : SS) (s3 : SS) (cs : Int → Int) (ln : Int) (kd : Int) (fk : Int) (hd : Int) (va : Int) (le : Int) (mo : Int) (part : Int) (m : SS) (n : Int) (r_cu : RG cu) (r_fo : RG fo) (r_sv : RG sv) (r_hs : rg hs) (r_ol : rg ol) (r_tt : rg tt) (r_s0 : RG s0) (r_s1 : RG s1) (r_s2 : RG s2) (r_s3 : RG s3) (r_cs : rgA cs) (r_ln : rg ln) (r_kd : rg kd) (r_fk : rg fk) (r_hd : rg hd) (r_va : rg va) (r_le : rg le) (r_mo : rg mo) (r_part : rg part) (p0 : Rep6 cu sv hs ol tt s0 s1 s2 s3 cs ln m n) (p1 : 0 ≤ n ∧ n ≤ 600) : ZI l G yX6_ofMerge wsX6_ofMerge 2 43 [.ref a0, .int (iI part)] (flt [W6o G a0 a4 a11 a12 a5 a1 a3 hs, W0 G a1 a2 cs ln, W2 G a3 kd fk hd va le mo, W5 G a4 cu, W1h G a5 a6 a7 a8 a9 a10 ol tt, W5 G a7 s0, W5 G a8 s1, W5 G a9 s2, W5 G a10 s3, W5 G a11 fo, W5 G a12 sv]) (fun u : Unit => flt [W6o G a0 a4 a11 a12 a5 a1 a3 hs, W0 G a1 a2 cs ln, W2 G a3 kd fk hd va le mo, W5 G a4 cu, W1h G a5 a6 a7 a8 a9 a10 ol tt, W5 G a7 s0, W5 G a8 s1, W5 G a9 s2, W5 G a10 s3, W5 G a11 fo, W5 G a12 sv]) (fun (zq : Int) (u : Unit) => rg zq ∧ (zq = an_ofMerge (m.2 0) part)) :=
  c0_X6_ofMerge l G a0 a1 a2 a3 a4 a5 a6 a7 a8 a9 a10 a11 a12 cu fo sv hs ol tt s0 s1 s2 s3 cs ln kd fk hd va le mo part (fun r => r = an_ofMerge (m.2 0) part) r_cu r_fo r_sv r_hs r_ol r_tt r_s0 r_s1 r_s2 r_s3 r_cs r_ln r_kd r_fk r_hd r_va r_le r_mo r_part (sp_X6_ofMerge cu fo sv hs ol tt s0 s1 s2 s3 cs ln kd fk hd va le mo part m n r_cu r_fo r_sv r_hs r_ol r_tt r_s0 r_s1 r_s2 r_s3 r_cs r_ln r_kd r_fk r_hd r_va r_le r_mo r_part p0 p1)
theorem imX6_runs_X4 : ∀ w ∈ wsX40, w ∈ wsX6_runs := fun _ h => (List.mem_cons_of_mem _ (List.mem_append_right _ h))
theorem imX6_runs_X5 : ∀ w ∈ wsX50, w ∈ wsX6_runs := fun _ h => (List.mem_cons_of_mem _ (List.mem_append_left _ (List.mem_append_right _ h)))
theorem imX6_runs_X6 : ∀ w ∈ wsX60, w ∈ wsX6_runs := fun _ h => (List.mem_cons_of_mem _ (List.mem_append_left _ (List.mem_append_left _ (List.mem_append_right _ h))))
theorem hdX6_runs : yX6_runs.cls = RX6 ∧ yX6_runs.cls ≠ "java/lang/invoke/MethodHandle" ∧ yX6_runs.cls ≠ "java/lang/invoke/VarHandle" ∧ (parseMethodDescriptor yX6_runs.desc).map (fun d => d.parameters.length) = some 0 := by decide +kernel
set_option maxRecDepth 100000 in
set_option maxHeartbeats 4000000 in
theorem c0_X6_runs (l : Launch) (G : ZG) (a0 : Nat) (a1 : Nat) (a2 : Nat) (a3 : Nat) (a4 : Nat → Nat) (a5 : Nat) (a6 : Nat) (a7 : Nat → Nat) (a8 : Nat → Nat) (a9 : Nat → Nat) (a10 : Nat → Nat) (a11 : Nat → Nat) (a12 : Nat → Nat) (cu : SS) (fo : SS) (sv : SS) (hs : Int) (ol : Int) (tt : Int) (s0 : SS) (s1 : SS) (s2 : SS) (s3 : SS) (cs : Int → Int) (ln : Int) (kd : Int) (fk : Int) (hd : Int) (va : Int) (le : Int) (mo : Int)  (P : Int → Prop) (r_cu : RG cu) (r_fo : RG fo) (r_sv : RG sv) (r_hs : rg hs) (r_ol : rg ol) (r_tt : rg tt) (r_s0 : RG s0) (r_s1 : RG s1) (r_s2 : RG s2) (r_s3 : RG s3) (r_cs : rgA cs) (r_ln : rg ln) (r_kd : rg kd) (r_fk : rg fk) (r_hd : rg hd) (r_va : rg va) (r_le : rg le) (r_mo : rg mo)  (hwp : wp_X6_runs cu fo sv hs ol tt s0 s1 s2 s3 cs ln kd fk hd va le mo P) : ZI l G yX6_runs wsX6_runs 0 0 [.ref a0] (flt [W6o G a0 a4 a11 a12 a5 a1 a3 hs, W0 G a1 a2 cs ln, W2 G a3 kd fk hd va le mo, W5 G a4 cu, W1h G a5 a6 a7 a8 a9 a10 ol tt, W5 G a7 s0, W5 G a8 s1, W5 G a9 s2, W5 G a10 s3, W5 G a11 fo, W5 G a12 sv]) (fun u : Unit => flt [W6o G a0 a4 a11 a12 a5 a1 a3 hs, W0 G a1 a2 cs ln, W2 G a3 kd fk hd va le mo, W5 G a4 cu, W1h G a5 a6 a7 a8 a9 a10 ol tt, W5 G a7 s0, W5 G a8 s1, W5 G a9 s2, W5 G a10 s3, W5 G a11 fo, W5 G a12 sv]) (fun (z : Int) (u : Unit) => rg z ∧ P z) := by
  unfold wp_X6_runs at hwp
  refine zm_i (cc := cX6_runs) (maxL := 1) (ret := some .int) (own := RX6) (lvs := [(0, .ref a0)]) (by decide) rfl rfl (Nat.le_of_ble_eq_true rfl) rfl ?_
  intro p e sT m args below meth c ls A hx hb hr hml hown hts hlocks hK hP hD hS hA hl
  have k1 := hts (.fieldLink RX6 10 "GrantedSort" "current" "LGrantedSort$SortState;") (List.mem_of_getElem? (i := 1) rfl)
  have k2 := hts (.fieldLink RX6 87 "GrantedSort$SortState" "disk" "LGrantedSort$RunList;") (List.mem_of_getElem? (i := 2) rfl)
  have k3 := hts (.fieldLink RX6 91 "GrantedSort$RunList" "total" "I") (List.mem_of_getElem? (i := 3) rfl)
  refine lv_aload_n hx hb dX6_runs_0 rfl (lv_at hl 0 rfl) ?_
  refine va_get (v := .ref (a4 0)) (ci := 6) (C := RX6) (T := TX6) (N := 7) hx hb hts imX6_runs_X6 hown hK hP 0 rfl rfl 0 (by decide) k1 (fun _ h9 => h9) rfl dX6_runs_1 ?_
  refine va_get (v := .ref (a4 5)) (ci := 5) (C := RX5) (T := TX5) (N := 16) hx hb hts imX6_runs_X5 hown hK hP 4 rfl rfl 1 (by decide) k2 (fun _ h9 => h9) rfl dX6_runs_4 ?_
  refine va_get (v := .int (iI (cu.1 17))) (ci := 4) (C := RX4) (T := TX4) (N := 4) hx hb hts imX6_runs_X4 hown hK hP 9 rfl rfl 3 (by decide) k3 (fun _ h9 => h9) rfl dX6_runs_7 ?_
  exact zr_iret (z := (cu.1 17)) hx hb hr hlocks hK () hP hD hS dX6_runs_10 ⟨(r_cu.1 17), hwp⟩
theorem c_X6_runs (l : Launch) (G : ZG) (a0 : Nat) (a1 : Nat) (a2 : Nat) (a3 : Nat) (a4 : Nat → Nat) (a5 : Nat) (a6 : Nat) (a7 : Nat → Nat) (a8 : Nat → Nat) (a9 : Nat → Nat) (a10 : Nat → Nat) (a11 : Nat → Nat) (a12 : Nat → Nat) (cu : SS) (fo : SS) (sv : SS) (hs : Int) (ol : Int) (tt : Int) (s0 : SS) (s1 : SS) (s2 : SS) (s3 : SS) (cs : Int → Int) (ln : Int) (kd : Int) (fk : Int) (hd : Int) (va : Int) (le : Int) (mo : Int)  (m : SS) (n : Int) (r_cu : RG cu) (r_fo : RG fo) (r_sv : RG sv) (r_hs : rg hs) (r_ol : rg ol) (r_tt : rg tt) (r_s0 : RG s0) (r_s1 : RG s1) (r_s2 : RG s2) (r_s3 : RG s3) (r_cs : rgA cs) (r_ln : rg ln) (r_kd : rg kd) (r_fk : rg fk) (r_hd : rg hd) (r_va : rg va) (r_le : rg le) (r_mo : rg mo)  (p0 : Rep6 cu sv hs ol tt s0 s1 s2 s3 cs ln m n) (p1 : 0 ≤ n ∧ n ≤ 600) : ZI l G yX6_runs wsX6_runs 0 0 [.ref a0] (flt [W6o G a0 a4 a11 a12 a5 a1 a3 hs, W0 G a1 a2 cs ln, W2 G a3 kd fk hd va le mo, W5 G a4 cu, W1h G a5 a6 a7 a8 a9 a10 ol tt, W5 G a7 s0, W5 G a8 s1, W5 G a9 s2, W5 G a10 s3, W5 G a11 fo, W5 G a12 sv]) (fun u : Unit => flt [W6o G a0 a4 a11 a12 a5 a1 a3 hs, W0 G a1 a2 cs ln, W2 G a3 kd fk hd va le mo, W5 G a4 cu, W1h G a5 a6 a7 a8 a9 a10 ol tt, W5 G a7 s0, W5 G a8 s1, W5 G a9 s2, W5 G a10 s3, W5 G a11 fo, W5 G a12 sv]) (fun (zq : Int) (u : Unit) => rg zq ∧ (zq = manyZ (m.2 0) 0)) :=
  c0_X6_runs l G a0 a1 a2 a3 a4 a5 a6 a7 a8 a9 a10 a11 a12 cu fo sv hs ol tt s0 s1 s2 s3 cs ln kd fk hd va le mo (fun r => r = manyZ (m.2 0) 0) r_cu r_fo r_sv r_hs r_ol r_tt r_s0 r_s1 r_s2 r_s3 r_cs r_ln r_kd r_fk r_hd r_va r_le r_mo  (sp_X6_runs cu fo sv hs ol tt s0 s1 s2 s3 cs ln kd fk hd va le mo m n r_cu r_fo r_sv r_hs r_ol r_tt r_s0 r_s1 r_s2 r_s3 r_cs r_ln r_kd r_fk r_hd r_va r_le r_mo  p0 p1)
theorem imX6_runAt_X5 : ∀ w ∈ wsX50, w ∈ wsX6_runAt := fun _ h => (List.mem_cons_of_mem _ (List.mem_append_left _ (List.mem_append_right _ h)))
theorem imX6_runAt_X6 : ∀ w ∈ wsX60, w ∈ wsX6_runAt := fun _ h => (List.mem_cons_of_mem _ (List.mem_append_left _ (List.mem_append_left _ (List.mem_append_right _ h))))
theorem hdX6_runAt : yX6_runAt.cls = RX6 ∧ yX6_runAt.cls ≠ "java/lang/invoke/MethodHandle" ∧ yX6_runAt.cls ≠ "java/lang/invoke/VarHandle" ∧ (parseMethodDescriptor yX6_runAt.desc).map (fun d => d.parameters.length) = some 1 := by decide +kernel
set_option maxRecDepth 100000 in
set_option maxHeartbeats 4000000 in
theorem c0_X6_runAt (l : Launch) (G : ZG) (a0 : Nat) (a1 : Nat) (a2 : Nat) (a3 : Nat) (a4 : Nat → Nat) (a5 : Nat) (a6 : Nat) (a7 : Nat → Nat) (a8 : Nat → Nat) (a9 : Nat → Nat) (a10 : Nat → Nat) (a11 : Nat → Nat) (a12 : Nat → Nat) (cu : SS) (fo : SS) (sv : SS) (hs : Int) (ol : Int) (tt : Int) (s0 : SS) (s1 : SS) (s2 : SS) (s3 : SS) (cs : Int → Int) (ln : Int) (kd : Int) (fk : Int) (hd : Int) (va : Int) (le : Int) (mo : Int) (index : Int) (P : Int → Prop) (r_cu : RG cu) (r_fo : RG fo) (r_sv : RG sv) (r_hs : rg hs) (r_ol : rg ol) (r_tt : rg tt) (r_s0 : RG s0) (r_s1 : RG s1) (r_s2 : RG s2) (r_s3 : RG s3) (r_cs : rgA cs) (r_ln : rg ln) (r_kd : rg kd) (r_fk : rg fk) (r_hd : rg hd) (r_va : rg va) (r_le : rg le) (r_mo : rg mo) (r_index : rg index) (hwp : wp_X6_runAt cu fo sv hs ol tt s0 s1 s2 s3 cs ln kd fk hd va le mo index P) : ZI l G yX6_runAt wsX6_runAt 1 21 [.ref a0, .int (iI index)] (flt [W6o G a0 a4 a11 a12 a5 a1 a3 hs, W0 G a1 a2 cs ln, W2 G a3 kd fk hd va le mo, W5 G a4 cu, W1h G a5 a6 a7 a8 a9 a10 ol tt, W5 G a7 s0, W5 G a8 s1, W5 G a9 s2, W5 G a10 s3, W5 G a11 fo, W5 G a12 sv]) (fun u : Unit => flt [W6o G a0 a4 a11 a12 a5 a1 a3 hs, W0 G a1 a2 cs ln, W2 G a3 kd fk hd va le mo, W5 G a4 cu, W1h G a5 a6 a7 a8 a9 a10 ol tt, W5 G a7 s0, W5 G a8 s1, W5 G a9 s2, W5 G a10 s3, W5 G a11 fo, W5 G a12 sv]) (fun (z : Int) (u : Unit) => rg z ∧ P z) := by
  unfold wp_X6_runAt at hwp
  refine zm_i (cc := cX6_runAt) (maxL := 2) (ret := some .int) (own := RX6) (lvs := [(0, .ref a0), (1, .int (iI index))]) (by decide) rfl rfl (Nat.le_of_ble_eq_true rfl) rfl ?_
  intro p e sT m args below meth c ls A hx hb hr hml hown hts hlocks hK hP hD hS hA hl
  have k1 := hts (.fieldLink RX6 10 "GrantedSort" "current" "LGrantedSort$SortState;") (List.mem_of_getElem? (i := 1) rfl)
  have k2 := hts (.fieldLink RX6 87 "GrantedSort$SortState" "disk" "LGrantedSort$RunList;") (List.mem_of_getElem? (i := 2) rfl)
  refine lv_aload_n hx hb dX6_runAt_0 rfl (lv_at hl 0 rfl) ?_
  refine va_get (v := .ref (a4 0)) (ci := 6) (C := RX6) (T := TX6) (N := 7) hx hb hts imX6_runAt_X6 hown hK hP 0 rfl rfl 0 (by decide) k1 (fun _ h9 => h9) rfl dX6_runAt_1 ?_
  refine va_get (v := .ref (a4 5)) (ci := 5) (C := RX5) (T := TX5) (N := 16) hx hb hts imX6_runAt_X5 hown hK hP 4 rfl rfl 1 (by decide) k2 (fun _ h9 => h9) rfl dX6_runAt_4 ?_
  refine lv_iload_n hx hb dX6_runAt_7 rfl (lv_at hl 1 rfl) ?_
  refine zq_viR (As := [.int (iI index)]) (rest := []) (c_X4_has l G (a4 5) (a4 6) (a4 7) (a4 8) (cu.2 3) (cu.2 4) (cu.2 5) (cu.1 17) index (r_cu.2 3) (r_cu.2 4) (r_cu.2 5) (r_cu.1 17) r_index) ⟨hx, hb, hml, hown, hts⟩ (cwV 1 hts gX6_runAt_X4_has rfl rfl rfl hdX4_has ⟨Nat.le_of_ble_eq_true rfl, Nat.le_of_ble_eq_true rfl⟩) hK hP hD hS hA rfl rfl [9, 10, 11, 12] rfl rfl rfl hl.1 rfl (Nat.le_of_ble_eq_true rfl) dX6_runAt_8 ⟨Nat.zero_le _, Nat.zero_le _⟩ (fun z2 H locs hw hP hD hS => ?_)
  obtain ⟨rfl, r3⟩ := hw
  have hP : va_P G.1 vwCl (flt [W6o G a0 a4 a11 a12 a5 a1 a3 hs, W0 G a1 a2 cs ln, W2 G a3 kd fk hd va le mo, W5 G a4 cu, W1h G a5 a6 a7 a8 a9 a10 ol tt, W5 G a7 s0, W5 G a8 s1, W5 G a9 s2, W5 G a10 s3, W5 G a11 fo, W5 G a12 sv]) H := hP
  have hD : va_D A (flt [W6o G a0 a4 a11 a12 a5 a1 a3 hs, W0 G a1 a2 cs ln, W2 G a3 kd fk hd va le mo, W5 G a4 cu, W1h G a5 a6 a7 a8 a9 a10 ol tt, W5 G a7 s0, W5 G a8 s1, W5 G a9 s2, W5 G a10 s3, W5 G a11 fo, W5 G a12 sv]) := hD
  refine zr_ifB_ne (tgt := 16)  hx hb dX6_runAt_11 (by decide) (fun c4 => ?_) (fun c4 => ?_)
  · have h7 := hwp.1 c4
    refine lv_aload_n hx hb dX6_runAt_16 rfl (lv_at hl 0 rfl) ?_
    refine va_get (v := .ref (a4 0)) (ci := 6) (C := RX6) (T := TX6) (N := 7) hx hb hts imX6_runAt_X6 hown hK hP 0 rfl rfl 0 (by decide) k1 (fun _ h9 => h9) rfl dX6_runAt_17 ?_
    refine va_get (v := .ref (a4 5)) (ci := 5) (C := RX5) (T := TX5) (N := 16) hx hb hts imX6_runAt_X5 hown hK hP 4 rfl rfl 1 (by decide) k2 (fun _ h9 => h9) rfl dX6_runAt_20 ?_
    refine lv_iload_n hx hb dX6_runAt_23 rfl (lv_at hl 1 rfl) ?_
    obtain ⟨b8, h9⟩ := h7
    refine zq_viR (As := [.int (iI index)]) (rest := []) (c_X4_numberAt l G (a4 5) (a4 6) (a4 7) (a4 8) (cu.2 3) (cu.2 4) (cu.2 5) (cu.1 17) index (r_cu.2 3) (r_cu.2 4) (r_cu.2 5) (r_cu.1 17) r_index b8) ⟨hx, hb, hml, hown, hts⟩ (cwV 1 hts gX6_runAt_X4_numberAt rfl rfl rfl hdX4_numberAt ⟨Nat.le_of_ble_eq_true rfl, Nat.le_of_ble_eq_true rfl⟩) hK hP hD hS hA rfl rfl [9, 10, 11, 12] rfl rfl rfl hl.1 rfl (Nat.le_of_ble_eq_true rfl) dX6_runAt_24 ⟨Nat.zero_le _, Nat.zero_le _⟩ (fun z11 H locs hw hP hD hS => ?_)
    obtain ⟨rfl, r12⟩ := hw
    have hP : va_P G.1 vwCl (flt [W6o G a0 a4 a11 a12 a5 a1 a3 hs, W0 G a1 a2 cs ln, W2 G a3 kd fk hd va le mo, W5 G a4 cu, W1h G a5 a6 a7 a8 a9 a10 ol tt, W5 G a7 s0, W5 G a8 s1, W5 G a9 s2, W5 G a10 s3, W5 G a11 fo, W5 G a12 sv]) H := hP
    have hD : va_D A (flt [W6o G a0 a4 a11 a12 a5 a1 a3 hs, W0 G a1 a2 cs ln, W2 G a3 kd fk hd va le mo, W5 G a4 cu, W1h G a5 a6 a7 a8 a9 a10 ol tt, W5 G a7 s0, W5 G a8 s1, W5 G a9 s2, W5 G a10 s3, W5 G a11 fo, W5 G a12 sv]) := hD
    exact zr_iret (z := (cu.2 3) index) hx hb hr hlocks hK () hP hD hS dX6_runAt_27 ⟨r12, h9⟩
  · have h13 := hwp.2 c4
    refine lv_iconst (v := iI (-1)) hx hb dX6_runAt_14 rfl ?_
    exact zr_iret (z := (-1)) hx hb hr hlocks hK () hP hD hS dX6_runAt_15 ⟨rg_m1, h13⟩
theorem c_X6_runAt (l : Launch) (G : ZG) (a0 : Nat) (a1 : Nat) (a2 : Nat) (a3 : Nat) (a4 : Nat → Nat) (a5 : Nat) (a6 : Nat) (a7 : Nat → Nat) (a8 : Nat → Nat) (a9 : Nat → Nat) (a10 : Nat → Nat) (a11 : Nat → Nat) (a12 : Nat → Nat) (cu : SS) (fo : SS) (sv : SS) (hs : Int) (ol : Int) (tt : Int) (s0 : SS) (s1 : SS) (s2 : SS) (s3 : SS) (cs : Int → Int) (ln : Int) (kd : Int) (fk : Int) (hd : Int) (va : Int) (le : Int) (mo : Int) (index : Int) (m : SS) (n : Int) (r_cu : RG cu) (r_fo : RG fo) (r_sv : RG sv) (r_hs : rg hs) (r_ol : rg ol) (r_tt : rg tt) (r_s0 : RG s0) (r_s1 : RG s1) (r_s2 : RG s2) (r_s3 : RG s3) (r_cs : rgA cs) (r_ln : rg ln) (r_kd : rg kd) (r_fk : rg fk) (r_hd : rg hd) (r_va : rg va) (r_le : rg le) (r_mo : rg mo) (r_index : rg index) (p0 : Rep6 cu sv hs ol tt s0 s1 s2 s3 cs ln m n) (p1 : 0 ≤ n ∧ n ≤ 600) : ZI l G yX6_runAt wsX6_runAt 1 21 [.ref a0, .int (iI index)] (flt [W6o G a0 a4 a11 a12 a5 a1 a3 hs, W0 G a1 a2 cs ln, W2 G a3 kd fk hd va le mo, W5 G a4 cu, W1h G a5 a6 a7 a8 a9 a10 ol tt, W5 G a7 s0, W5 G a8 s1, W5 G a9 s2, W5 G a10 s3, W5 G a11 fo, W5 G a12 sv]) (fun u : Unit => flt [W6o G a0 a4 a11 a12 a5 a1 a3 hs, W0 G a1 a2 cs ln, W2 G a3 kd fk hd va le mo, W5 G a4 cu, W1h G a5 a6 a7 a8 a9 a10 ol tt, W5 G a7 s0, W5 G a8 s1, W5 G a9 s2, W5 G a10 s3, W5 G a11 fo, W5 G a12 sv]) (fun (zq : Int) (u : Unit) => rg zq ∧ (zq = raZ (m.2 0) index ((m.2 0) 4).toNat)) :=
  c0_X6_runAt l G a0 a1 a2 a3 a4 a5 a6 a7 a8 a9 a10 a11 a12 cu fo sv hs ol tt s0 s1 s2 s3 cs ln kd fk hd va le mo index (fun r => r = raZ (m.2 0) index ((m.2 0) 4).toNat) r_cu r_fo r_sv r_hs r_ol r_tt r_s0 r_s1 r_s2 r_s3 r_cs r_ln r_kd r_fk r_hd r_va r_le r_mo r_index (sp_X6_runAt cu fo sv hs ol tt s0 s1 s2 s3 cs ln kd fk hd va le mo index m n r_cu r_fo r_sv r_hs r_ol r_tt r_s0 r_s1 r_s2 r_s3 r_cs r_ln r_kd r_fk r_hd r_va r_le r_mo r_index p0 p1)
theorem imX6_size_X5 : ∀ w ∈ wsX50, w ∈ wsX6_size := fun _ h => (List.mem_cons_of_mem _ (List.mem_append_left _ (List.mem_append_right _ h)))
theorem imX6_size_X6 : ∀ w ∈ wsX60, w ∈ wsX6_size := fun _ h => (List.mem_cons_of_mem _ (List.mem_append_left _ (List.mem_append_left _ (List.mem_append_right _ h))))
theorem hdX6_size : yX6_size.cls = RX6 ∧ yX6_size.cls ≠ "java/lang/invoke/MethodHandle" ∧ yX6_size.cls ≠ "java/lang/invoke/VarHandle" ∧ (parseMethodDescriptor yX6_size.desc).map (fun d => d.parameters.length) = some 1 := by decide +kernel
set_option maxRecDepth 100000 in
set_option maxHeartbeats 4000000 in
theorem c0_X6_size (l : Launch) (G : ZG) (a0 : Nat) (a1 : Nat) (a2 : Nat) (a3 : Nat) (a4 : Nat → Nat) (a5 : Nat) (a6 : Nat) (a7 : Nat → Nat) (a8 : Nat → Nat) (a9 : Nat → Nat) (a10 : Nat → Nat) (a11 : Nat → Nat) (a12 : Nat → Nat) (cu : SS) (fo : SS) (sv : SS) (hs : Int) (ol : Int) (tt : Int) (s0 : SS) (s1 : SS) (s2 : SS) (s3 : SS) (cs : Int → Int) (ln : Int) (kd : Int) (fk : Int) (hd : Int) (va : Int) (le : Int) (mo : Int) (run : Int) (P : Int → Prop) (r_cu : RG cu) (r_fo : RG fo) (r_sv : RG sv) (r_hs : rg hs) (r_ol : rg ol) (r_tt : rg tt) (r_s0 : RG s0) (r_s1 : RG s1) (r_s2 : RG s2) (r_s3 : RG s3) (r_cs : rgA cs) (r_ln : rg ln) (r_kd : rg kd) (r_fk : rg fk) (r_hd : rg hd) (r_va : rg va) (r_le : rg le) (r_mo : rg mo) (r_run : rg run) (hwp : wp_X6_size cu fo sv hs ol tt s0 s1 s2 s3 cs ln kd fk hd va le mo run P) : ZI l G yX6_size wsX6_size 2 43 [.ref a0, .int (iI run)] (flt [W6o G a0 a4 a11 a12 a5 a1 a3 hs, W0 G a1 a2 cs ln, W2 G a3 kd fk hd va le mo, W5 G a4 cu, W1h G a5 a6 a7 a8 a9 a10 ol tt, W5 G a7 s0, W5 G a8 s1, W5 G a9 s2, W5 G a10 s3, W5 G a11 fo, W5 G a12 sv]) (fun u : Unit => flt [W6o G a0 a4 a11 a12 a5 a1 a3 hs, W0 G a1 a2 cs ln, W2 G a3 kd fk hd va le mo, W5 G a4 cu, W1h G a5 a6 a7 a8 a9 a10 ol tt, W5 G a7 s0, W5 G a8 s1, W5 G a9 s2, W5 G a10 s3, W5 G a11 fo, W5 G a12 sv]) (fun (z : Int) (u : Unit) => rg z ∧ P z) := by
  unfold wp_X6_size at hwp
  refine zm_i (cc := cX6_size) (maxL := 3) (ret := some .int) (own := RX6) (lvs := [(0, .ref a0), (1, .int (iI run))]) (by decide) rfl rfl (Nat.le_of_ble_eq_true rfl) rfl ?_
  intro p e sT m args below meth c ls A hx hb hr hml hown hts hlocks hK hP hD hS hA hl
  have k1 := hts (.fieldLink RX6 10 "GrantedSort" "current" "LGrantedSort$SortState;") (List.mem_of_getElem? (i := 1) rfl)
  have k2 := hts (.fieldLink RX6 87 "GrantedSort$SortState" "disk" "LGrantedSort$RunList;") (List.mem_of_getElem? (i := 2) rfl)
  refine lv_aload_n hx hb dX6_size_0 rfl (lv_at hl 0 rfl) ?_
  refine va_get (v := .ref (a4 0)) (ci := 6) (C := RX6) (T := TX6) (N := 7) hx hb hts imX6_size_X6 hown hK hP 0 rfl rfl 0 (by decide) k1 (fun _ h9 => h9) rfl dX6_size_1 ?_
  refine va_get (v := .ref (a4 5)) (ci := 5) (C := RX5) (T := TX5) (N := 16) hx hb hts imX6_size_X5 hown hK hP 4 rfl rfl 1 (by decide) k2 (fun _ h9 => h9) rfl dX6_size_4 ?_
  refine lv_iload_n hx hb dX6_size_7 rfl (lv_at hl 1 rfl) ?_
  obtain ⟨b1, h2⟩ := hwp
  refine zq_viR (As := [.int (iI run)]) (rest := []) (c_X4_placeOf l G (a4 5) (a4 6) (a4 7) (a4 8) (cu.2 3) (cu.2 4) (cu.2 5) (cu.1 17) run (r_cu.2 3) (r_cu.2 4) (r_cu.2 5) (r_cu.1 17) r_run b1) ⟨hx, hb, hml, hown, hts⟩ (cwV 1 hts gX6_size_X4_placeOf rfl rfl rfl hdX4_placeOf ⟨Nat.le_of_ble_eq_true rfl, Nat.le_of_ble_eq_true rfl⟩) hK hP hD hS hA rfl rfl [9, 10, 11, 12] rfl rfl rfl hl.1 rfl (Nat.le_of_ble_eq_true rfl) dX6_size_8 ⟨Nat.zero_le _, Nat.zero_le _⟩ (fun z4 H locs hw hP hD hS => ?_)
  obtain ⟨r6, h5⟩ := hw
  have h7 := h2 z4 r6 h5
  have hP : va_P G.1 vwCl (flt [W6o G a0 a4 a11 a12 a5 a1 a3 hs, W0 G a1 a2 cs ln, W2 G a3 kd fk hd va le mo, W5 G a4 cu, W1h G a5 a6 a7 a8 a9 a10 ol tt, W5 G a7 s0, W5 G a8 s1, W5 G a9 s2, W5 G a10 s3, W5 G a11 fo, W5 G a12 sv]) H := hP
  have hD : va_D A (flt [W6o G a0 a4 a11 a12 a5 a1 a3 hs, W0 G a1 a2 cs ln, W2 G a3 kd fk hd va le mo, W5 G a4 cu, W1h G a5 a6 a7 a8 a9 a10 ol tt, W5 G a7 s0, W5 G a8 s1, W5 G a9 s2, W5 G a10 s3, W5 G a11 fo, W5 G a12 sv]) := hD
  refine lv_istore_n (lv' := [(2, .int (iI z4)), (0, .ref a0), (1, .int (iI run))]) hx hb dX6_size_11 rfl hl (by decide) rfl (fun ls hl => ?_)
  refine lv_aload_n hx hb dX6_size_12 rfl (lv_at hl 1 rfl) ?_
  refine va_get (v := .ref (a4 0)) (ci := 6) (C := RX6) (T := TX6) (N := 7) hx hb hts imX6_size_X6 hown hK hP 0 rfl rfl 0 (by decide) k1 (fun _ h9 => h9) rfl dX6_size_13 ?_
  refine va_get (v := .ref (a4 5)) (ci := 5) (C := RX5) (T := TX5) (N := 16) hx hb hts imX6_size_X5 hown hK hP 4 rfl rfl 1 (by decide) k2 (fun _ h9 => h9) rfl dX6_size_16 ?_
  refine lv_iload_n hx hb dX6_size_19 rfl (lv_at hl 0 rfl) ?_
  refine zq_viR (As := [.int (iI z4)]) (rest := []) (c_X4_has l G (a4 5) (a4 6) (a4 7) (a4 8) (cu.2 3) (cu.2 4) (cu.2 5) (cu.1 17) z4 (r_cu.2 3) (r_cu.2 4) (r_cu.2 5) (r_cu.1 17) r6) ⟨hx, hb, hml, hown, hts⟩ (cwV 1 hts gX6_size_X4_has rfl rfl rfl hdX4_has ⟨Nat.le_of_ble_eq_true rfl, Nat.le_of_ble_eq_true rfl⟩) hK hP hD hS hA rfl rfl [9, 10, 11, 12] rfl rfl rfl hl.1 rfl (Nat.le_of_ble_eq_true rfl) dX6_size_20 ⟨Nat.zero_le _, Nat.zero_le _⟩ (fun z9 H locs hw hP hD hS => ?_)
  obtain ⟨rfl, r10⟩ := hw
  have hP : va_P G.1 vwCl (flt [W6o G a0 a4 a11 a12 a5 a1 a3 hs, W0 G a1 a2 cs ln, W2 G a3 kd fk hd va le mo, W5 G a4 cu, W1h G a5 a6 a7 a8 a9 a10 ol tt, W5 G a7 s0, W5 G a8 s1, W5 G a9 s2, W5 G a10 s3, W5 G a11 fo, W5 G a12 sv]) H := hP
  have hD : va_D A (flt [W6o G a0 a4 a11 a12 a5 a1 a3 hs, W0 G a1 a2 cs ln, W2 G a3 kd fk hd va le mo, W5 G a4 cu, W1h G a5 a6 a7 a8 a9 a10 ol tt, W5 G a7 s0, W5 G a8 s1, W5 G a9 s2, W5 G a10 s3, W5 G a11 fo, W5 G a12 sv]) := hD
  refine zr_ifB_ne (tgt := 28)  hx hb dX6_size_23 (by decide) (fun c11 => ?_) (fun c11 => ?_)
  · have h14 := h7.1 c11
    refine lv_aload_n hx hb dX6_size_28 rfl (lv_at hl 1 rfl) ?_
    refine va_get (v := .ref (a4 0)) (ci := 6) (C := RX6) (T := TX6) (N := 7) hx hb hts imX6_size_X6 hown hK hP 0 rfl rfl 0 (by decide) k1 (fun _ h9 => h9) rfl dX6_size_29 ?_
    refine va_get (v := .ref (a4 5)) (ci := 5) (C := RX5) (T := TX5) (N := 16) hx hb hts imX6_size_X5 hown hK hP 4 rfl rfl 1 (by decide) k2 (fun _ h9 => h9) rfl dX6_size_32 ?_
    refine lv_iload_n hx hb dX6_size_35 rfl (lv_at hl 0 rfl) ?_
    refine zq_viR (As := [.int (iI z4)]) (rest := []) (c_X4_lengthAt l G (a4 5) (a4 6) (a4 7) (a4 8) (cu.2 3) (cu.2 4) (cu.2 5) (cu.1 17) z4 (r_cu.2 3) (r_cu.2 4) (r_cu.2 5) (r_cu.1 17) r6) ⟨hx, hb, hml, hown, hts⟩ (cwV 1 hts gX6_size_X4_lengthAt rfl rfl rfl hdX4_lengthAt ⟨Nat.le_of_ble_eq_true rfl, Nat.le_of_ble_eq_true rfl⟩) hK hP hD hS hA rfl rfl [9, 10, 11, 12] rfl rfl rfl hl.1 rfl (Nat.le_of_ble_eq_true rfl) dX6_size_36 ⟨Nat.zero_le _, Nat.zero_le _⟩ (fun z16 H locs hw hP hD hS => ?_)
    obtain ⟨rfl, r17⟩ := hw
    have hP : va_P G.1 vwCl (flt [W6o G a0 a4 a11 a12 a5 a1 a3 hs, W0 G a1 a2 cs ln, W2 G a3 kd fk hd va le mo, W5 G a4 cu, W1h G a5 a6 a7 a8 a9 a10 ol tt, W5 G a7 s0, W5 G a8 s1, W5 G a9 s2, W5 G a10 s3, W5 G a11 fo, W5 G a12 sv]) H := hP
    have hD : va_D A (flt [W6o G a0 a4 a11 a12 a5 a1 a3 hs, W0 G a1 a2 cs ln, W2 G a3 kd fk hd va le mo, W5 G a4 cu, W1h G a5 a6 a7 a8 a9 a10 ol tt, W5 G a7 s0, W5 G a8 s1, W5 G a9 s2, W5 G a10 s3, W5 G a11 fo, W5 G a12 sv]) := hD
    exact zr_iret (z := (if 0 ≤ z4 ∧ z4 < 120 then (cu.2 5) z4 else 0)) hx hb hr hlocks hK () hP hD hS dX6_size_39 ⟨r17, h14⟩
  · have h18 := h7.2 c11
    refine lv_iconst (v := iI (-1)) hx hb dX6_size_26 rfl ?_
    exact zr_iret (z := (-1)) hx hb hr hlocks hK () hP hD hS dX6_size_27 ⟨rg_m1, h18⟩
theorem c_X6_size (l : Launch) (G : ZG) (a0 : Nat) (a1 : Nat) (a2 : Nat) (a3 : Nat) (a4 : Nat → Nat) (a5 : Nat) (a6 : Nat) (a7 : Nat → Nat) (a8 : Nat → Nat) (a9 : Nat → Nat) (a10 : Nat → Nat) (a11 : Nat → Nat) (a12 : Nat → Nat) (cu : SS) (fo : SS) (sv : SS) (hs : Int) (ol : Int) (tt : Int) (s0 : SS) (s1 : SS) (s2 : SS) (s3 : SS) (cs : Int → Int) (ln : Int) (kd : Int) (fk : Int) (hd : Int) (va : Int) (le : Int) (mo : Int) (run : Int) (m : SS) (n : Int) (r_cu : RG cu) (r_fo : RG fo) (r_sv : RG sv) (r_hs : rg hs) (r_ol : rg ol) (r_tt : rg tt) (r_s0 : RG s0) (r_s1 : RG s1) (r_s2 : RG s2) (r_s3 : RG s3) (r_cs : rgA cs) (r_ln : rg ln) (r_kd : rg kd) (r_fk : rg fk) (r_hd : rg hd) (r_va : rg va) (r_le : rg le) (r_mo : rg mo) (r_run : rg run) (p0 : Rep6 cu sv hs ol tt s0 s1 s2 s3 cs ln m n) (p1 : 0 ≤ n ∧ n ≤ 600) : ZI l G yX6_size wsX6_size 2 43 [.ref a0, .int (iI run)] (flt [W6o G a0 a4 a11 a12 a5 a1 a3 hs, W0 G a1 a2 cs ln, W2 G a3 kd fk hd va le mo, W5 G a4 cu, W1h G a5 a6 a7 a8 a9 a10 ol tt, W5 G a7 s0, W5 G a8 s1, W5 G a9 s2, W5 G a10 s3, W5 G a11 fo, W5 G a12 sv]) (fun u : Unit => flt [W6o G a0 a4 a11 a12 a5 a1 a3 hs, W0 G a1 a2 cs ln, W2 G a3 kd fk hd va le mo, W5 G a4 cu, W1h G a5 a6 a7 a8 a9 a10 ol tt, W5 G a7 s0, W5 G a8 s1, W5 G a9 s2, W5 G a10 s3, W5 G a11 fo, W5 G a12 sv]) (fun (zq : Int) (u : Unit) => rg zq ∧ (zq = an_size (m.2 0) run)) :=
  c0_X6_size l G a0 a1 a2 a3 a4 a5 a6 a7 a8 a9 a10 a11 a12 cu fo sv hs ol tt s0 s1 s2 s3 cs ln kd fk hd va le mo run (fun r => r = an_size (m.2 0) run) r_cu r_fo r_sv r_hs r_ol r_tt r_s0 r_s1 r_s2 r_s3 r_cs r_ln r_kd r_fk r_hd r_va r_le r_mo r_run (sp_X6_size cu fo sv hs ol tt s0 s1 s2 s3 cs ln kd fk hd va le mo run m n r_cu r_fo r_sv r_hs r_ol r_tt r_s0 r_s1 r_s2 r_s3 r_cs r_ln r_kd r_fk r_hd r_va r_le r_mo r_run p0 p1)
theorem imX6_row_X5 : ∀ w ∈ wsX50, w ∈ wsX6_row := fun _ h => (List.mem_cons_of_mem _ (List.mem_append_left _ (List.mem_append_left _ (List.mem_append_right _ h))))
theorem imX6_row_X6 : ∀ w ∈ wsX60, w ∈ wsX6_row := fun _ h => (List.mem_cons_of_mem _ (List.mem_append_left _ (List.mem_append_left _ (List.mem_append_left _ (List.mem_append_right _ h)))))
theorem hdX6_row : yX6_row.cls = RX6 ∧ yX6_row.cls ≠ "java/lang/invoke/MethodHandle" ∧ yX6_row.cls ≠ "java/lang/invoke/VarHandle" ∧ (parseMethodDescriptor yX6_row.desc).map (fun d => d.parameters.length) = some 3 := by decide +kernel
set_option maxRecDepth 100000 in
set_option maxHeartbeats 4000000 in
theorem c0_X6_row (l : Launch) (G : ZG) (a0 : Nat) (a1 : Nat) (a2 : Nat) (a3 : Nat) (a4 : Nat → Nat) (a5 : Nat) (a6 : Nat) (a7 : Nat → Nat) (a8 : Nat → Nat) (a9 : Nat → Nat) (a10 : Nat → Nat) (a11 : Nat → Nat) (a12 : Nat → Nat) (cu : SS) (fo : SS) (sv : SS) (hs : Int) (ol : Int) (tt : Int) (s0 : SS) (s1 : SS) (s2 : SS) (s3 : SS) (cs : Int → Int) (ln : Int) (kd : Int) (fk : Int) (hd : Int) (va : Int) (le : Int) (mo : Int) (run : Int) (index : Int) (part : Int) (P : Int → Prop) (r_cu : RG cu) (r_fo : RG fo) (r_sv : RG sv) (r_hs : rg hs) (r_ol : rg ol) (r_tt : rg tt) (r_s0 : RG s0) (r_s1 : RG s1) (r_s2 : RG s2) (r_s3 : RG s3) (r_cs : rgA cs) (r_ln : rg ln) (r_kd : rg kd) (r_fk : rg fk) (r_hd : rg hd) (r_va : rg va) (r_le : rg le) (r_mo : rg mo) (r_run : rg run) (r_index : rg index) (r_part : rg part) (hwp : wp_X6_row cu fo sv hs ol tt s0 s1 s2 s3 cs ln kd fk hd va le mo run index part P) : ZI l G yX6_row wsX6_row 3 68 [.ref a0, .int (iI run), .int (iI index), .int (iI part)] (flt [W6o G a0 a4 a11 a12 a5 a1 a3 hs, W0 G a1 a2 cs ln, W2 G a3 kd fk hd va le mo, W5 G a4 cu, W1h G a5 a6 a7 a8 a9 a10 ol tt, W5 G a7 s0, W5 G a8 s1, W5 G a9 s2, W5 G a10 s3, W5 G a11 fo, W5 G a12 sv]) (fun u : Unit => flt [W6o G a0 a4 a11 a12 a5 a1 a3 hs, W0 G a1 a2 cs ln, W2 G a3 kd fk hd va le mo, W5 G a4 cu, W1h G a5 a6 a7 a8 a9 a10 ol tt, W5 G a7 s0, W5 G a8 s1, W5 G a9 s2, W5 G a10 s3, W5 G a11 fo, W5 G a12 sv]) (fun (z : Int) (u : Unit) => rg z ∧ P z) := by
  unfold wp_X6_row at hwp
  refine zm_i (cc := cX6_row) (maxL := 5) (ret := some .int) (own := RX6) (lvs := [(0, .ref a0), (1, .int (iI run)), (2, .int (iI index)), (3, .int (iI part))]) (by decide) rfl rfl (Nat.le_of_ble_eq_true rfl) rfl ?_
  intro p e sT m args below meth c ls A hx hb hr hml hown hts hlocks hK hP hD hS hA hl
  have k1 := hts (.fieldLink RX6 10 "GrantedSort" "current" "LGrantedSort$SortState;") (List.mem_of_getElem? (i := 1) rfl)
  have k2 := hts (.fieldLink RX6 51 "GrantedSort$SortState" "table" "LGrantedSort$RowTable;") (List.mem_of_getElem? (i := 2) rfl)
  refine lv_aload_n hx hb dX6_row_0 rfl (lv_at hl 0 rfl) ?_
  refine va_get (v := .ref (a4 0)) (ci := 6) (C := RX6) (T := TX6) (N := 7) hx hb hts imX6_row_X6 hown hK hP 0 rfl rfl 0 (by decide) k1 (fun _ h9 => h9) rfl dX6_row_1 ?_
  refine lv_iload_n hx hb dX6_row_4 rfl (lv_at hl 1 rfl) ?_
  refine lv_iload_n hx hb dX6_row_5 rfl (lv_at hl 2 rfl) ?_
  obtain ⟨b1, h2⟩ := hwp
  obtain ⟨b3, h4⟩ := h2
  obtain ⟨b5, h6⟩ := h4
  refine zq_viR (As := [.int (iI run), .int (iI index)]) (rest := []) (c_X5_rowOfRun l G a4 cu run index r_cu r_run r_index b1 b3 b5) ⟨hx, hb, hml, hown, hts⟩ (cwV 2 hts gX6_row_X5_rowOfRun rfl rfl rfl hdX5_rowOfRun ⟨Nat.le_of_ble_eq_true rfl, Nat.le_of_ble_eq_true rfl⟩) hK hP hD hS hA rfl rfl [4, 5, 6, 7, 8, 9, 10, 11, 12, 13, 14, 15, 16, 17] rfl rfl rfl hl.1 rfl (Nat.le_of_ble_eq_true rfl) dX6_row_6 ⟨Nat.zero_le _, Nat.zero_le _⟩ (fun z8 H locs hw hP hD hS => ?_)
  obtain ⟨r10, h9⟩ := hw
  have h11 := h6 z8 r10 h9
  have hP : va_P G.1 vwCl (flt [W6o G a0 a4 a11 a12 a5 a1 a3 hs, W0 G a1 a2 cs ln, W2 G a3 kd fk hd va le mo, W5 G a4 cu, W1h G a5 a6 a7 a8 a9 a10 ol tt, W5 G a7 s0, W5 G a8 s1, W5 G a9 s2, W5 G a10 s3, W5 G a11 fo, W5 G a12 sv]) H := hP
  have hD : va_D A (flt [W6o G a0 a4 a11 a12 a5 a1 a3 hs, W0 G a1 a2 cs ln, W2 G a3 kd fk hd va le mo, W5 G a4 cu, W1h G a5 a6 a7 a8 a9 a10 ol tt, W5 G a7 s0, W5 G a8 s1, W5 G a9 s2, W5 G a10 s3, W5 G a11 fo, W5 G a12 sv]) := hD
  refine lv_istore (lv' := [(4, .int (iI z8)), (0, .ref a0), (1, .int (iI run)), (2, .int (iI index)), (3, .int (iI part))]) hx hb dX6_row_9 hl (by decide) rfl (fun ls hl => ?_)
  refine lv_aload_n hx hb dX6_row_11 rfl (lv_at hl 1 rfl) ?_
  refine va_get (v := .ref (a4 0)) (ci := 6) (C := RX6) (T := TX6) (N := 7) hx hb hts imX6_row_X6 hown hK hP 0 rfl rfl 0 (by decide) k1 (fun _ h9 => h9) rfl dX6_row_12 ?_
  refine va_get (v := .ref (a4 1)) (ci := 5) (C := RX5) (T := TX5) (N := 16) hx hb hts imX6_row_X5 hown hK hP 4 rfl rfl 0 (by decide) k2 (fun _ h9 => h9) rfl dX6_row_15 ?_
  refine lv_iload hx hb dX6_row_18 (lv_at hl 0 rfl) ?_
  refine zq_viR (As := [.int (iI z8)]) (rest := []) (c_X3_has l G (a4 1) (a4 2) (a4 3) (a4 4) (cu.2 0) (cu.2 1) (cu.2 2) (cu.1 16) z8 (r_cu.2 0) (r_cu.2 1) (r_cu.2 2) (r_cu.1 16) r10) ⟨hx, hb, hml, hown, hts⟩ (cwV 1 hts gX6_row_X3_has rfl rfl rfl hdX3_has ⟨Nat.le_of_ble_eq_true rfl, Nat.le_of_ble_eq_true rfl⟩) hK hP hD hS hA rfl rfl [5, 6, 7, 8] rfl rfl rfl hl.1 rfl (Nat.le_of_ble_eq_true rfl) dX6_row_20 ⟨Nat.zero_le _, Nat.zero_le _⟩ (fun z13 H locs hw hP hD hS => ?_)
  obtain ⟨rfl, r14⟩ := hw
  have hP : va_P G.1 vwCl (flt [W6o G a0 a4 a11 a12 a5 a1 a3 hs, W0 G a1 a2 cs ln, W2 G a3 kd fk hd va le mo, W5 G a4 cu, W1h G a5 a6 a7 a8 a9 a10 ol tt, W5 G a7 s0, W5 G a8 s1, W5 G a9 s2, W5 G a10 s3, W5 G a11 fo, W5 G a12 sv]) H := hP
  have hD : va_D A (flt [W6o G a0 a4 a11 a12 a5 a1 a3 hs, W0 G a1 a2 cs ln, W2 G a3 kd fk hd va le mo, W5 G a4 cu, W1h G a5 a6 a7 a8 a9 a10 ol tt, W5 G a7 s0, W5 G a8 s1, W5 G a9 s2, W5 G a10 s3, W5 G a11 fo, W5 G a12 sv]) := hD
  refine zr_ifB_ne (tgt := 28)  hx hb dX6_row_23 (by decide) (fun c15 => ?_) (fun c15 => ?_)
  · have h18 := h11.1 c15
    refine lv_iload_n hx hb dX6_row_28 rfl (lv_at hl 4 rfl) ?_
    rcases (show part = 0 ∨ part = 1 ∨ part = 2 ∨ (part < 0 ∨ 2 < part) by omega) with c19 | c19 | c19 | c19
    · have h20 := h18.1 c19
      refine zr_tsIn (x := part) (v := 0) (tgt := 56) hx hb r_part 0 c19 dX6_row_29 ⟨by decide, rfl⟩ (by decide) ?_
      refine lv_aload_n hx hb dX6_row_56 rfl (lv_at hl 1 rfl) ?_
      refine va_get (v := .ref (a4 0)) (ci := 6) (C := RX6) (T := TX6) (N := 7) hx hb hts imX6_row_X6 hown hK hP 0 rfl rfl 0 (by decide) k1 (fun _ h9 => h9) rfl dX6_row_57 ?_
      refine va_get (v := .ref (a4 1)) (ci := 5) (C := RX5) (T := TX5) (N := 16) hx hb hts imX6_row_X5 hown hK hP 4 rfl rfl 0 (by decide) k2 (fun _ h9 => h9) rfl dX6_row_60 ?_
      refine lv_iload hx hb dX6_row_63 (lv_at hl 0 rfl) ?_
      obtain ⟨b21, h22⟩ := h20
      refine zq_viR (As := [.int (iI z8)]) (rest := []) (c_X3_keyOf l G (a4 1) (a4 2) (a4 3) (a4 4) (cu.2 0) (cu.2 1) (cu.2 2) (cu.1 16) z8 (r_cu.2 0) (r_cu.2 1) (r_cu.2 2) (r_cu.1 16) r10 b21) ⟨hx, hb, hml, hown, hts⟩ (cwV 1 hts gX6_row_X3_keyOf rfl rfl rfl hdX3_keyOf ⟨Nat.le_of_ble_eq_true rfl, Nat.le_of_ble_eq_true rfl⟩) hK hP hD hS hA rfl rfl [5, 6, 7, 8] rfl rfl rfl hl.1 rfl (Nat.le_of_ble_eq_true rfl) dX6_row_65 ⟨Nat.zero_le _, Nat.zero_le _⟩ (fun z24 H locs hw hP hD hS => ?_)
      obtain ⟨rfl, r25⟩ := hw
      have hP : va_P G.1 vwCl (flt [W6o G a0 a4 a11 a12 a5 a1 a3 hs, W0 G a1 a2 cs ln, W2 G a3 kd fk hd va le mo, W5 G a4 cu, W1h G a5 a6 a7 a8 a9 a10 ol tt, W5 G a7 s0, W5 G a8 s1, W5 G a9 s2, W5 G a10 s3, W5 G a11 fo, W5 G a12 sv]) H := hP
      have hD : va_D A (flt [W6o G a0 a4 a11 a12 a5 a1 a3 hs, W0 G a1 a2 cs ln, W2 G a3 kd fk hd va le mo, W5 G a4 cu, W1h G a5 a6 a7 a8 a9 a10 ol tt, W5 G a7 s0, W5 G a8 s1, W5 G a9 s2, W5 G a10 s3, W5 G a11 fo, W5 G a12 sv]) := hD
      exact zr_iret (z := (cu.2 0) z8) hx hb hr hlocks hK () hP hD hS dX6_row_68 ⟨r25, h22⟩
    · have h26 := h18.2.1 c19
      refine zr_tsIn (x := part) (v := 1) (tgt := 69) hx hb r_part 1 c19 dX6_row_29 ⟨by decide, rfl⟩ (by decide) ?_
      refine lv_iload hx hb dX6_row_69 (lv_at hl 0 rfl) ?_
      exact zr_iret (z := z8) hx hb hr hlocks hK () hP hD hS dX6_row_71 ⟨r10, h26⟩
    · have h27 := h18.2.2.1 c19
      refine zr_tsIn (x := part) (v := 2) (tgt := 72) hx hb r_part 2 c19 dX6_row_29 ⟨by decide, rfl⟩ (by decide) ?_
      refine lv_aload_n hx hb dX6_row_72 rfl (lv_at hl 1 rfl) ?_
      refine va_get (v := .ref (a4 0)) (ci := 6) (C := RX6) (T := TX6) (N := 7) hx hb hts imX6_row_X6 hown hK hP 0 rfl rfl 0 (by decide) k1 (fun _ h9 => h9) rfl dX6_row_73 ?_
      refine va_get (v := .ref (a4 1)) (ci := 5) (C := RX5) (T := TX5) (N := 16) hx hb hts imX6_row_X5 hown hK hP 4 rfl rfl 0 (by decide) k2 (fun _ h9 => h9) rfl dX6_row_76 ?_
      refine lv_iload hx hb dX6_row_79 (lv_at hl 0 rfl) ?_
      obtain ⟨b28, h29⟩ := h27
      refine zq_viR (As := [.int (iI z8)]) (rest := []) (c_X3_countOf l G (a4 1) (a4 2) (a4 3) (a4 4) (cu.2 0) (cu.2 1) (cu.2 2) (cu.1 16) z8 (r_cu.2 0) (r_cu.2 1) (r_cu.2 2) (r_cu.1 16) r10 b28) ⟨hx, hb, hml, hown, hts⟩ (cwV 1 hts gX6_row_X3_countOf rfl rfl rfl hdX3_countOf ⟨Nat.le_of_ble_eq_true rfl, Nat.le_of_ble_eq_true rfl⟩) hK hP hD hS hA rfl rfl [5, 6, 7, 8] rfl rfl rfl hl.1 rfl (Nat.le_of_ble_eq_true rfl) dX6_row_81 ⟨Nat.zero_le _, Nat.zero_le _⟩ (fun z31 H locs hw hP hD hS => ?_)
      obtain ⟨rfl, r32⟩ := hw
      have hP : va_P G.1 vwCl (flt [W6o G a0 a4 a11 a12 a5 a1 a3 hs, W0 G a1 a2 cs ln, W2 G a3 kd fk hd va le mo, W5 G a4 cu, W1h G a5 a6 a7 a8 a9 a10 ol tt, W5 G a7 s0, W5 G a8 s1, W5 G a9 s2, W5 G a10 s3, W5 G a11 fo, W5 G a12 sv]) H := hP
      have hD : va_D A (flt [W6o G a0 a4 a11 a12 a5 a1 a3 hs, W0 G a1 a2 cs ln, W2 G a3 kd fk hd va le mo, W5 G a4 cu, W1h G a5 a6 a7 a8 a9 a10 ol tt, W5 G a7 s0, W5 G a8 s1, W5 G a9 s2, W5 G a10 s3, W5 G a11 fo, W5 G a12 sv]) := hD
      exact zr_iret (z := (cu.2 1) z8) hx hb hr hlocks hK () hP hD hS dX6_row_84 ⟨r32, h29⟩
    · have h33 := h18.2.2.2 c19
      refine zr_tsOut (x := part) (tgt := 85) hx hb r_part c19 dX6_row_29 (by decide) ?_
      refine lv_bipush (v := iI (-2)) hx hb dX6_row_85 (by decide) ?_
      exact zr_iret (z := (-2)) hx hb hr hlocks hK () hP hD hS dX6_row_87 ⟨rg_m2, h33⟩
  · have h34 := h11.2 c15
    refine lv_iconst (v := iI (-1)) hx hb dX6_row_26 rfl ?_
    exact zr_iret (z := (-1)) hx hb hr hlocks hK () hP hD hS dX6_row_27 ⟨rg_m1, h34⟩
theorem c_X6_row (l : Launch) (G : ZG) (a0 : Nat) (a1 : Nat) (a2 : Nat) (a3 : Nat) (a4 : Nat → Nat) (a5 : Nat) (a6 : Nat) (a7 : Nat → Nat) (a8 : Nat → Nat) (a9 : Nat → Nat) (a10 : Nat → Nat) (a11 : Nat → Nat) (a12 : Nat → Nat) (cu : SS) (fo : SS) (sv : SS) (hs : Int) (ol : Int) (tt : Int) (s0 : SS) (s1 : SS) (s2 : SS) (s3 : SS) (cs : Int → Int) (ln : Int) (kd : Int) (fk : Int) (hd : Int) (va : Int) (le : Int) (mo : Int) (run : Int) (index : Int) (part : Int) (m : SS) (n : Int) (r_cu : RG cu) (r_fo : RG fo) (r_sv : RG sv) (r_hs : rg hs) (r_ol : rg ol) (r_tt : rg tt) (r_s0 : RG s0) (r_s1 : RG s1) (r_s2 : RG s2) (r_s3 : RG s3) (r_cs : rgA cs) (r_ln : rg ln) (r_kd : rg kd) (r_fk : rg fk) (r_hd : rg hd) (r_va : rg va) (r_le : rg le) (r_mo : rg mo) (r_run : rg run) (r_index : rg index) (r_part : rg part) (p0 : Rep6 cu sv hs ol tt s0 s1 s2 s3 cs ln m n) (p1 : 0 ≤ n ∧ n ≤ 600) : ZI l G yX6_row wsX6_row 3 68 [.ref a0, .int (iI run), .int (iI index), .int (iI part)] (flt [W6o G a0 a4 a11 a12 a5 a1 a3 hs, W0 G a1 a2 cs ln, W2 G a3 kd fk hd va le mo, W5 G a4 cu, W1h G a5 a6 a7 a8 a9 a10 ol tt, W5 G a7 s0, W5 G a8 s1, W5 G a9 s2, W5 G a10 s3, W5 G a11 fo, W5 G a12 sv]) (fun u : Unit => flt [W6o G a0 a4 a11 a12 a5 a1 a3 hs, W0 G a1 a2 cs ln, W2 G a3 kd fk hd va le mo, W5 G a4 cu, W1h G a5 a6 a7 a8 a9 a10 ol tt, W5 G a7 s0, W5 G a8 s1, W5 G a9 s2, W5 G a10 s3, W5 G a11 fo, W5 G a12 sv]) (fun (zq : Int) (u : Unit) => rg zq ∧ (zq = an_row (m.2 0) run index part)) :=
  c0_X6_row l G a0 a1 a2 a3 a4 a5 a6 a7 a8 a9 a10 a11 a12 cu fo sv hs ol tt s0 s1 s2 s3 cs ln kd fk hd va le mo run index part (fun r => r = an_row (m.2 0) run index part) r_cu r_fo r_sv r_hs r_ol r_tt r_s0 r_s1 r_s2 r_s3 r_cs r_ln r_kd r_fk r_hd r_va r_le r_mo r_run r_index r_part (sp_X6_row cu fo sv hs ol tt s0 s1 s2 s3 cs ln kd fk hd va le mo run index part m n r_cu r_fo r_sv r_hs r_ol r_tt r_s0 r_s1 r_s2 r_s3 r_cs r_ln r_kd r_fk r_hd r_va r_le r_mo r_run r_index r_part p0 p1)
theorem imX6_count_X3 : ∀ w ∈ wsX30, w ∈ wsX6_count := fun _ h => (List.mem_cons_of_mem _ (List.mem_append_right _ h))
theorem imX6_count_X5 : ∀ w ∈ wsX50, w ∈ wsX6_count := fun _ h => (List.mem_cons_of_mem _ (List.mem_append_left _ (List.mem_append_right _ h)))
theorem imX6_count_X6 : ∀ w ∈ wsX60, w ∈ wsX6_count := fun _ h => (List.mem_cons_of_mem _ (List.mem_append_left _ (List.mem_append_left _ (List.mem_append_right _ h))))
theorem hdX6_count : yX6_count.cls = RX6 ∧ yX6_count.cls ≠ "java/lang/invoke/MethodHandle" ∧ yX6_count.cls ≠ "java/lang/invoke/VarHandle" ∧ (parseMethodDescriptor yX6_count.desc).map (fun d => d.parameters.length) = some 1 := by decide +kernel
set_option maxRecDepth 100000 in
set_option maxHeartbeats 4000000 in
theorem c0_X6_count (l : Launch) (G : ZG) (a0 : Nat) (a1 : Nat) (a2 : Nat) (a3 : Nat) (a4 : Nat → Nat) (a5 : Nat) (a6 : Nat) (a7 : Nat → Nat) (a8 : Nat → Nat) (a9 : Nat → Nat) (a10 : Nat → Nat) (a11 : Nat → Nat) (a12 : Nat → Nat) (cu : SS) (fo : SS) (sv : SS) (hs : Int) (ol : Int) (tt : Int) (s0 : SS) (s1 : SS) (s2 : SS) (s3 : SS) (cs : Int → Int) (ln : Int) (kd : Int) (fk : Int) (hd : Int) (va : Int) (le : Int) (mo : Int) (what : Int) (P : Int → Prop) (r_cu : RG cu) (r_fo : RG fo) (r_sv : RG sv) (r_hs : rg hs) (r_ol : rg ol) (r_tt : rg tt) (r_s0 : RG s0) (r_s1 : RG s1) (r_s2 : RG s2) (r_s3 : RG s3) (r_cs : rgA cs) (r_ln : rg ln) (r_kd : rg kd) (r_fk : rg fk) (r_hd : rg hd) (r_va : rg va) (r_le : rg le) (r_mo : rg mo) (r_what : rg what) (hwp : wp_X6_count cu fo sv hs ol tt s0 s1 s2 s3 cs ln kd fk hd va le mo what P) : ZI l G yX6_count wsX6_count 2 44 [.ref a0, .int (iI what)] (flt [W6o G a0 a4 a11 a12 a5 a1 a3 hs, W0 G a1 a2 cs ln, W2 G a3 kd fk hd va le mo, W5 G a4 cu, W1h G a5 a6 a7 a8 a9 a10 ol tt, W5 G a7 s0, W5 G a8 s1, W5 G a9 s2, W5 G a10 s3, W5 G a11 fo, W5 G a12 sv]) (fun u : Unit => flt [W6o G a0 a4 a11 a12 a5 a1 a3 hs, W0 G a1 a2 cs ln, W2 G a3 kd fk hd va le mo, W5 G a4 cu, W1h G a5 a6 a7 a8 a9 a10 ol tt, W5 G a7 s0, W5 G a8 s1, W5 G a9 s2, W5 G a10 s3, W5 G a11 fo, W5 G a12 sv]) (fun (z : Int) (u : Unit) => rg z ∧ P z) := by
  unfold wp_X6_count at hwp
  refine zm_i (cc := cX6_count) (maxL := 2) (ret := some .int) (own := RX6) (lvs := [(0, .ref a0), (1, .int (iI what))]) (by decide) rfl rfl (Nat.le_of_ble_eq_true rfl) rfl ?_
  intro p e sT m args below meth c ls A hx hb hr hml hown hts hlocks hK hP hD hS hA hl
  have k1 := hts (.fieldLink RX6 10 "GrantedSort" "current" "LGrantedSort$SortState;") (List.mem_of_getElem? (i := 1) rfl)
  have k2 := hts (.fieldLink RX6 51 "GrantedSort$SortState" "table" "LGrantedSort$RowTable;") (List.mem_of_getElem? (i := 2) rfl)
  have k3 := hts (.fieldLink RX6 69 "GrantedSort$RowTable" "total" "I") (List.mem_of_getElem? (i := 3) rfl)
  have k4 := hts (.fieldLink RX6 177 "GrantedSort$SortState" "costs" "I") (List.mem_of_getElem? (i := 4) rfl)
  have k5 := hts (.fieldLink RX6 180 "GrantedSort$SortState" "mergesBegun" "I") (List.mem_of_getElem? (i := 5) rfl)
  have k6 := hts (.fieldLink RX6 183 "GrantedSort$SortState" "mergesCut" "I") (List.mem_of_getElem? (i := 6) rfl)
  have k7 := hts (.fieldLink RX6 186 "GrantedSort$SortState" "runsNumbered" "I") (List.mem_of_getElem? (i := 7) rfl)
  refine lv_iload_n hx hb dX6_count_0 rfl (lv_at hl 1 rfl) ?_
  rcases (show what = 0 ∨ what = 1 ∨ what = 2 ∨ what = 3 ∨ what = 4 ∨ what = 5 ∨ what = 6 ∨ (what < 0 ∨ 6 < what) by omega) with c1 | c1 | c1 | c1 | c1 | c1 | c1 | c1
  · have h2 := hwp.1 c1
    refine zr_tsIn (x := what) (v := 0) (tgt := 44) hx hb r_what 0 c1 dX6_count_1 ⟨by decide, rfl⟩ (by decide) ?_
    refine lv_aload_n hx hb dX6_count_44 rfl (lv_at hl 0 rfl) ?_
    refine va_get (v := .ref (a4 0)) (ci := 6) (C := RX6) (T := TX6) (N := 7) hx hb hts imX6_count_X6 hown hK hP 0 rfl rfl 0 (by decide) k1 (fun _ h9 => h9) rfl dX6_count_45 ?_
    refine va_get (v := .ref (a4 1)) (ci := 5) (C := RX5) (T := TX5) (N := 16) hx hb hts imX6_count_X5 hown hK hP 4 rfl rfl 0 (by decide) k2 (fun _ h9 => h9) rfl dX6_count_48 ?_
    refine va_get (v := .int (iI (cu.1 16))) (ci := 3) (C := RX3) (T := TX3) (N := 4) hx hb hts imX6_count_X3 hown hK hP 5 rfl rfl 3 (by decide) k3 (fun _ h9 => h9) rfl dX6_count_51 ?_
    exact zr_iret (z := (cu.1 16)) hx hb hr hlocks hK () hP hD hS dX6_count_54 ⟨(r_cu.1 16), h2⟩
  · have h3 := hwp.2.1 c1
    refine zr_tsIn (x := what) (v := 1) (tgt := 55) hx hb r_what 1 c1 dX6_count_1 ⟨by decide, rfl⟩ (by decide) ?_
    refine lv_aload_n hx hb dX6_count_55 rfl (lv_at hl 0 rfl) ?_
    refine va_get (v := .ref (a4 0)) (ci := 6) (C := RX6) (T := TX6) (N := 7) hx hb hts imX6_count_X6 hown hK hP 0 rfl rfl 0 (by decide) k1 (fun _ h9 => h9) rfl dX6_count_56 ?_
    refine va_get (v := .ref (a4 1)) (ci := 5) (C := RX5) (T := TX5) (N := 16) hx hb hts imX6_count_X5 hown hK hP 4 rfl rfl 0 (by decide) k2 (fun _ h9 => h9) rfl dX6_count_59 ?_
    obtain ⟨b4, h5⟩ := h3
    refine zq_viR (As := []) (rest := []) (c_X3_rowsKept l G (a4 1) (a4 2) (a4 3) (a4 4) (cu.2 0) (cu.2 1) (cu.2 2) (cu.1 16) (r_cu.2 0) (r_cu.2 1) (r_cu.2 2) (r_cu.1 16) b4) ⟨hx, hb, hml, hown, hts⟩ (cwV 0 hts gX6_count_X3_rowsKept rfl rfl rfl hdX3_rowsKept ⟨Nat.le_of_ble_eq_true rfl, Nat.le_of_ble_eq_true rfl⟩) hK hP hD hS hA rfl rfl [5, 6, 7, 8] rfl rfl rfl hl.1 rfl (Nat.le_of_ble_eq_true rfl) dX6_count_62 ⟨Nat.zero_le _, Nat.zero_le _⟩ (fun z7 H locs hw hP hD hS => ?_)
    obtain ⟨rfl, r8⟩ := hw
    have hP : va_P G.1 vwCl (flt [W6o G a0 a4 a11 a12 a5 a1 a3 hs, W0 G a1 a2 cs ln, W2 G a3 kd fk hd va le mo, W5 G a4 cu, W1h G a5 a6 a7 a8 a9 a10 ol tt, W5 G a7 s0, W5 G a8 s1, W5 G a9 s2, W5 G a10 s3, W5 G a11 fo, W5 G a12 sv]) H := hP
    have hD : va_D A (flt [W6o G a0 a4 a11 a12 a5 a1 a3 hs, W0 G a1 a2 cs ln, W2 G a3 kd fk hd va le mo, W5 G a4 cu, W1h G a5 a6 a7 a8 a9 a10 ol tt, W5 G a7 s0, W5 G a8 s1, W5 G a9 s2, W5 G a10 s3, W5 G a11 fo, W5 G a12 sv]) := hD
    exact zr_iret (z := sumI (fun r => pz (0 < (cu.2 1) r)) (cu.1 16).toNat) hx hb hr hlocks hK () hP hD hS dX6_count_65 ⟨r8, h5⟩
  · have h9 := hwp.2.2.1 c1
    refine zr_tsIn (x := what) (v := 2) (tgt := 66) hx hb r_what 2 c1 dX6_count_1 ⟨by decide, rfl⟩ (by decide) ?_
    refine lv_aload_n hx hb dX6_count_66 rfl (lv_at hl 0 rfl) ?_
    refine va_get (v := .ref (a4 0)) (ci := 6) (C := RX6) (T := TX6) (N := 7) hx hb hts imX6_count_X6 hown hK hP 0 rfl rfl 0 (by decide) k1 (fun _ h9 => h9) rfl dX6_count_67 ?_
    refine va_get (v := .ref (a4 1)) (ci := 5) (C := RX5) (T := TX5) (N := 16) hx hb hts imX6_count_X5 hown hK hP 4 rfl rfl 0 (by decide) k2 (fun _ h9 => h9) rfl dX6_count_70 ?_
    refine lv_sipush (v := iI 1000) hx hb dX6_count_73 (by decide) ?_
    obtain ⟨b10, h11⟩ := h9
    obtain ⟨b12, h13⟩ := h11
    refine zq_viR (As := [.int (iI 1000)]) (rest := []) (c_X3_countsBelow l G (a4 1) (a4 2) (a4 3) (a4 4) (cu.2 0) (cu.2 1) (cu.2 2) (cu.1 16) 1000 (r_cu.2 0) (r_cu.2 1) (r_cu.2 2) (r_cu.1 16) rg_1000 b10 b12) ⟨hx, hb, hml, hown, hts⟩ (cwV 1 hts gX6_count_X3_countsBelow rfl rfl rfl hdX3_countsBelow ⟨Nat.le_of_ble_eq_true rfl, Nat.le_of_ble_eq_true rfl⟩) hK hP hD hS hA rfl rfl [5, 6, 7, 8] rfl rfl rfl hl.1 rfl (Nat.le_of_ble_eq_true rfl) dX6_count_76 ⟨Nat.zero_le _, Nat.zero_le _⟩ (fun z15 H locs hw hP hD hS => ?_)
    obtain ⟨rfl, r16⟩ := hw
    have hP : va_P G.1 vwCl (flt [W6o G a0 a4 a11 a12 a5 a1 a3 hs, W0 G a1 a2 cs ln, W2 G a3 kd fk hd va le mo, W5 G a4 cu, W1h G a5 a6 a7 a8 a9 a10 ol tt, W5 G a7 s0, W5 G a8 s1, W5 G a9 s2, W5 G a10 s3, W5 G a11 fo, W5 G a12 sv]) H := hP
    have hD : va_D A (flt [W6o G a0 a4 a11 a12 a5 a1 a3 hs, W0 G a1 a2 cs ln, W2 G a3 kd fk hd va le mo, W5 G a4 cu, W1h G a5 a6 a7 a8 a9 a10 ol tt, W5 G a7 s0, W5 G a8 s1, W5 G a9 s2, W5 G a10 s3, W5 G a11 fo, W5 G a12 sv]) := hD
    exact zr_iret (z := sumI (fun r => if (cu.2 0) r < (1000 : Int) then (cu.2 1) r else 0) (cu.1 16).toNat) hx hb hr hlocks hK () hP hD hS dX6_count_79 ⟨r16, h13⟩
  · have h17 := hwp.2.2.2.1 c1
    refine zr_tsIn (x := what) (v := 3) (tgt := 80) hx hb r_what 3 c1 dX6_count_1 ⟨by decide, rfl⟩ (by decide) ?_
    refine lv_aload_n hx hb dX6_count_80 rfl (lv_at hl 0 rfl) ?_
    refine va_get (v := .ref (a4 0)) (ci := 6) (C := RX6) (T := TX6) (N := 7) hx hb hts imX6_count_X6 hown hK hP 0 rfl rfl 0 (by decide) k1 (fun _ h9 => h9) rfl dX6_count_81 ?_
    refine va_get (v := .int (iI (cu.1 12))) (ci := 5) (C := RX5) (T := TX5) (N := 16) hx hb hts imX6_count_X5 hown hK hP 4 rfl rfl 12 (by decide) k4 (fun _ h9 => h9) rfl dX6_count_84 ?_
    exact zr_iret (z := (cu.1 12)) hx hb hr hlocks hK () hP hD hS dX6_count_87 ⟨(r_cu.1 12), h17⟩
  · have h18 := hwp.2.2.2.2.1 c1
    refine zr_tsIn (x := what) (v := 4) (tgt := 88) hx hb r_what 4 c1 dX6_count_1 ⟨by decide, rfl⟩ (by decide) ?_
    refine lv_aload_n hx hb dX6_count_88 rfl (lv_at hl 0 rfl) ?_
    refine va_get (v := .ref (a4 0)) (ci := 6) (C := RX6) (T := TX6) (N := 7) hx hb hts imX6_count_X6 hown hK hP 0 rfl rfl 0 (by decide) k1 (fun _ h9 => h9) rfl dX6_count_89 ?_
    refine va_get (v := .int (iI (cu.1 13))) (ci := 5) (C := RX5) (T := TX5) (N := 16) hx hb hts imX6_count_X5 hown hK hP 4 rfl rfl 13 (by decide) k5 (fun _ h9 => h9) rfl dX6_count_92 ?_
    exact zr_iret (z := (cu.1 13)) hx hb hr hlocks hK () hP hD hS dX6_count_95 ⟨(r_cu.1 13), h18⟩
  · have h19 := hwp.2.2.2.2.2.1 c1
    refine zr_tsIn (x := what) (v := 5) (tgt := 96) hx hb r_what 5 c1 dX6_count_1 ⟨by decide, rfl⟩ (by decide) ?_
    refine lv_aload_n hx hb dX6_count_96 rfl (lv_at hl 0 rfl) ?_
    refine va_get (v := .ref (a4 0)) (ci := 6) (C := RX6) (T := TX6) (N := 7) hx hb hts imX6_count_X6 hown hK hP 0 rfl rfl 0 (by decide) k1 (fun _ h9 => h9) rfl dX6_count_97 ?_
    refine va_get (v := .int (iI (cu.1 14))) (ci := 5) (C := RX5) (T := TX5) (N := 16) hx hb hts imX6_count_X5 hown hK hP 4 rfl rfl 14 (by decide) k6 (fun _ h9 => h9) rfl dX6_count_100 ?_
    exact zr_iret (z := (cu.1 14)) hx hb hr hlocks hK () hP hD hS dX6_count_103 ⟨(r_cu.1 14), h19⟩
  · have h20 := hwp.2.2.2.2.2.2.1 c1
    refine zr_tsIn (x := what) (v := 6) (tgt := 104) hx hb r_what 6 c1 dX6_count_1 ⟨by decide, rfl⟩ (by decide) ?_
    refine lv_aload_n hx hb dX6_count_104 rfl (lv_at hl 0 rfl) ?_
    refine va_get (v := .ref (a4 0)) (ci := 6) (C := RX6) (T := TX6) (N := 7) hx hb hts imX6_count_X6 hown hK hP 0 rfl rfl 0 (by decide) k1 (fun _ h9 => h9) rfl dX6_count_105 ?_
    refine va_get (v := .int (iI (cu.1 15))) (ci := 5) (C := RX5) (T := TX5) (N := 16) hx hb hts imX6_count_X5 hown hK hP 4 rfl rfl 15 (by decide) k7 (fun _ h9 => h9) rfl dX6_count_108 ?_
    exact zr_iret (z := (cu.1 15)) hx hb hr hlocks hK () hP hD hS dX6_count_111 ⟨(r_cu.1 15), h20⟩
  · have h21 := hwp.2.2.2.2.2.2.2 c1
    refine zr_tsOut (x := what) (tgt := 112) hx hb r_what c1 dX6_count_1 (by decide) ?_
    refine lv_bipush (v := iI (-2)) hx hb dX6_count_112 (by decide) ?_
    exact zr_iret (z := (-2)) hx hb hr hlocks hK () hP hD hS dX6_count_114 ⟨rg_m2, h21⟩
theorem c_X6_count (l : Launch) (G : ZG) (a0 : Nat) (a1 : Nat) (a2 : Nat) (a3 : Nat) (a4 : Nat → Nat) (a5 : Nat) (a6 : Nat) (a7 : Nat → Nat) (a8 : Nat → Nat) (a9 : Nat → Nat) (a10 : Nat → Nat) (a11 : Nat → Nat) (a12 : Nat → Nat) (cu : SS) (fo : SS) (sv : SS) (hs : Int) (ol : Int) (tt : Int) (s0 : SS) (s1 : SS) (s2 : SS) (s3 : SS) (cs : Int → Int) (ln : Int) (kd : Int) (fk : Int) (hd : Int) (va : Int) (le : Int) (mo : Int) (what : Int) (m : SS) (n : Int) (r_cu : RG cu) (r_fo : RG fo) (r_sv : RG sv) (r_hs : rg hs) (r_ol : rg ol) (r_tt : rg tt) (r_s0 : RG s0) (r_s1 : RG s1) (r_s2 : RG s2) (r_s3 : RG s3) (r_cs : rgA cs) (r_ln : rg ln) (r_kd : rg kd) (r_fk : rg fk) (r_hd : rg hd) (r_va : rg va) (r_le : rg le) (r_mo : rg mo) (r_what : rg what) (p0 : Rep6 cu sv hs ol tt s0 s1 s2 s3 cs ln m n) (p1 : 0 ≤ n ∧ n ≤ 600) : ZI l G yX6_count wsX6_count 2 44 [.ref a0, .int (iI what)] (flt [W6o G a0 a4 a11 a12 a5 a1 a3 hs, W0 G a1 a2 cs ln, W2 G a3 kd fk hd va le mo, W5 G a4 cu, W1h G a5 a6 a7 a8 a9 a10 ol tt, W5 G a7 s0, W5 G a8 s1, W5 G a9 s2, W5 G a10 s3, W5 G a11 fo, W5 G a12 sv]) (fun u : Unit => flt [W6o G a0 a4 a11 a12 a5 a1 a3 hs, W0 G a1 a2 cs ln, W2 G a3 kd fk hd va le mo, W5 G a4 cu, W1h G a5 a6 a7 a8 a9 a10 ol tt, W5 G a7 s0, W5 G a8 s1, W5 G a9 s2, W5 G a10 s3, W5 G a11 fo, W5 G a12 sv]) (fun (zq : Int) (u : Unit) => rg zq ∧ (zq = an_count (m.2 0) what)) :=
  c0_X6_count l G a0 a1 a2 a3 a4 a5 a6 a7 a8 a9 a10 a11 a12 cu fo sv hs ol tt s0 s1 s2 s3 cs ln kd fk hd va le mo what (fun r => r = an_count (m.2 0) what) r_cu r_fo r_sv r_hs r_ol r_tt r_s0 r_s1 r_s2 r_s3 r_cs r_ln r_kd r_fk r_hd r_va r_le r_mo r_what (sp_X6_count cu fo sv hs ol tt s0 s1 s2 s3 cs ln kd fk hd va le mo what m n r_cu r_fo r_sv r_hs r_ol r_tt r_s0 r_s1 r_s2 r_s3 r_cs r_ln r_kd r_fk r_hd r_va r_le r_mo r_what p0 p1)
theorem imX6_rank_X5 : ∀ w ∈ wsX50, w ∈ wsX6_rank := fun _ h => (List.mem_cons_of_mem _ (List.mem_append_left _ (List.mem_append_right _ h)))
theorem imX6_rank_X6 : ∀ w ∈ wsX60, w ∈ wsX6_rank := fun _ h => (List.mem_cons_of_mem _ (List.mem_append_left _ (List.mem_append_left _ (List.mem_append_right _ h))))
theorem hdX6_rank : yX6_rank.cls = RX6 ∧ yX6_rank.cls ≠ "java/lang/invoke/MethodHandle" ∧ yX6_rank.cls ≠ "java/lang/invoke/VarHandle" ∧ (parseMethodDescriptor yX6_rank.desc).map (fun d => d.parameters.length) = some 1 := by decide +kernel
set_option maxRecDepth 100000 in
set_option maxHeartbeats 4000000 in
theorem c0_X6_rank (l : Launch) (G : ZG) (a0 : Nat) (a1 : Nat) (a2 : Nat) (a3 : Nat) (a4 : Nat → Nat) (a5 : Nat) (a6 : Nat) (a7 : Nat → Nat) (a8 : Nat → Nat) (a9 : Nat → Nat) (a10 : Nat → Nat) (a11 : Nat → Nat) (a12 : Nat → Nat) (cu : SS) (fo : SS) (sv : SS) (hs : Int) (ol : Int) (tt : Int) (s0 : SS) (s1 : SS) (s2 : SS) (s3 : SS) (cs : Int → Int) (ln : Int) (kd : Int) (fk : Int) (hd : Int) (va : Int) (le : Int) (mo : Int) (key : Int) (P : Int → Prop) (r_cu : RG cu) (r_fo : RG fo) (r_sv : RG sv) (r_hs : rg hs) (r_ol : rg ol) (r_tt : rg tt) (r_s0 : RG s0) (r_s1 : RG s1) (r_s2 : RG s2) (r_s3 : RG s3) (r_cs : rgA cs) (r_ln : rg ln) (r_kd : rg kd) (r_fk : rg fk) (r_hd : rg hd) (r_va : rg va) (r_le : rg le) (r_mo : rg mo) (r_key : rg key) (hwp : wp_X6_rank cu fo sv hs ol tt s0 s1 s2 s3 cs ln kd fk hd va le mo key P) : ZI l G yX6_rank wsX6_rank 2 44 [.ref a0, .int (iI key)] (flt [W6o G a0 a4 a11 a12 a5 a1 a3 hs, W0 G a1 a2 cs ln, W2 G a3 kd fk hd va le mo, W5 G a4 cu, W1h G a5 a6 a7 a8 a9 a10 ol tt, W5 G a7 s0, W5 G a8 s1, W5 G a9 s2, W5 G a10 s3, W5 G a11 fo, W5 G a12 sv]) (fun u : Unit => flt [W6o G a0 a4 a11 a12 a5 a1 a3 hs, W0 G a1 a2 cs ln, W2 G a3 kd fk hd va le mo, W5 G a4 cu, W1h G a5 a6 a7 a8 a9 a10 ol tt, W5 G a7 s0, W5 G a8 s1, W5 G a9 s2, W5 G a10 s3, W5 G a11 fo, W5 G a12 sv]) (fun (z : Int) (u : Unit) => rg z ∧ P z) := by
  unfold wp_X6_rank at hwp
  refine zm_i (cc := cX6_rank) (maxL := 2) (ret := some .int) (own := RX6) (lvs := [(0, .ref a0), (1, .int (iI key))]) (by decide) rfl rfl (Nat.le_of_ble_eq_true rfl) rfl ?_
  intro p e sT m args below meth c ls A hx hb hr hml hown hts hlocks hK hP hD hS hA hl
  have k1 := hts (.fieldLink RX6 10 "GrantedSort" "current" "LGrantedSort$SortState;") (List.mem_of_getElem? (i := 1) rfl)
  have k2 := hts (.fieldLink RX6 51 "GrantedSort$SortState" "table" "LGrantedSort$RowTable;") (List.mem_of_getElem? (i := 2) rfl)
  refine lv_iload_n hx hb dX6_rank_0 rfl (lv_at hl 1 rfl) ?_
  refine zc_si (As := [.int (iI key)]) (rest := []) (c_X6_isKey l G key r_key) ⟨hx, hb, hml, hown, hts⟩ (va_cwS 1 hts gX6_rank_X6_isKey rfl rfl rfl hdX6_isKey ⟨Nat.le_of_ble_eq_true rfl, Nat.le_of_ble_eq_true rfl⟩) hK hP hD hS hA rfl hl.1 rfl (Nat.le_of_ble_eq_true rfl) dX6_rank_1 ⟨Nat.zero_le _, Nat.zero_le _⟩ (fun z2 H locs hw hP hD hS => ?_)
  obtain ⟨rfl, r3⟩ := hw
  have hP : va_P G.1 vwCl (flt [W6o G a0 a4 a11 a12 a5 a1 a3 hs, W0 G a1 a2 cs ln, W2 G a3 kd fk hd va le mo, W5 G a4 cu, W1h G a5 a6 a7 a8 a9 a10 ol tt, W5 G a7 s0, W5 G a8 s1, W5 G a9 s2, W5 G a10 s3, W5 G a11 fo, W5 G a12 sv]) H := hP
  have hD : va_D A (flt [W6o G a0 a4 a11 a12 a5 a1 a3 hs, W0 G a1 a2 cs ln, W2 G a3 kd fk hd va le mo, W5 G a4 cu, W1h G a5 a6 a7 a8 a9 a10 ol tt, W5 G a7 s0, W5 G a8 s1, W5 G a9 s2, W5 G a10 s3, W5 G a11 fo, W5 G a12 sv]) := hD
  refine zr_ifB_ne (tgt := 10)  hx hb dX6_rank_4 (by decide) (fun c4 => ?_) (fun c4 => ?_)
  · have h7 := hwp.1 c4
    refine lv_aload_n hx hb dX6_rank_10 rfl (lv_at hl 0 rfl) ?_
    refine va_get (v := .ref (a4 0)) (ci := 6) (C := RX6) (T := TX6) (N := 7) hx hb hts imX6_rank_X6 hown hK hP 0 rfl rfl 0 (by decide) k1 (fun _ h9 => h9) rfl dX6_rank_11 ?_
    refine va_get (v := .ref (a4 1)) (ci := 5) (C := RX5) (T := TX5) (N := 16) hx hb hts imX6_rank_X5 hown hK hP 4 rfl rfl 0 (by decide) k2 (fun _ h9 => h9) rfl dX6_rank_14 ?_
    refine lv_iload_n hx hb dX6_rank_17 rfl (lv_at hl 1 rfl) ?_
    obtain ⟨b8, h9⟩ := h7
    obtain ⟨b10, h11⟩ := h9
    refine zq_viR (As := [.int (iI key)]) (rest := []) (c_X3_countsBelow l G (a4 1) (a4 2) (a4 3) (a4 4) (cu.2 0) (cu.2 1) (cu.2 2) (cu.1 16) key (r_cu.2 0) (r_cu.2 1) (r_cu.2 2) (r_cu.1 16) r_key b8 b10) ⟨hx, hb, hml, hown, hts⟩ (cwV 1 hts gX6_rank_X3_countsBelow rfl rfl rfl hdX3_countsBelow ⟨Nat.le_of_ble_eq_true rfl, Nat.le_of_ble_eq_true rfl⟩) hK hP hD hS hA rfl rfl [5, 6, 7, 8] rfl rfl rfl hl.1 rfl (Nat.le_of_ble_eq_true rfl) dX6_rank_18 ⟨Nat.zero_le _, Nat.zero_le _⟩ (fun z13 H locs hw hP hD hS => ?_)
    obtain ⟨rfl, r14⟩ := hw
    have hP : va_P G.1 vwCl (flt [W6o G a0 a4 a11 a12 a5 a1 a3 hs, W0 G a1 a2 cs ln, W2 G a3 kd fk hd va le mo, W5 G a4 cu, W1h G a5 a6 a7 a8 a9 a10 ol tt, W5 G a7 s0, W5 G a8 s1, W5 G a9 s2, W5 G a10 s3, W5 G a11 fo, W5 G a12 sv]) H := hP
    have hD : va_D A (flt [W6o G a0 a4 a11 a12 a5 a1 a3 hs, W0 G a1 a2 cs ln, W2 G a3 kd fk hd va le mo, W5 G a4 cu, W1h G a5 a6 a7 a8 a9 a10 ol tt, W5 G a7 s0, W5 G a8 s1, W5 G a9 s2, W5 G a10 s3, W5 G a11 fo, W5 G a12 sv]) := hD
    exact zr_iret (z := sumI (fun r => if (cu.2 0) r < key then (cu.2 1) r else 0) (cu.1 16).toNat) hx hb hr hlocks hK () hP hD hS dX6_rank_21 ⟨r14, h11⟩
  · have h15 := hwp.2 c4
    refine lv_bipush (v := iI (-2)) hx hb dX6_rank_7 (by decide) ?_
    exact zr_iret (z := (-2)) hx hb hr hlocks hK () hP hD hS dX6_rank_9 ⟨rg_m2, h15⟩
theorem c_X6_rank (l : Launch) (G : ZG) (a0 : Nat) (a1 : Nat) (a2 : Nat) (a3 : Nat) (a4 : Nat → Nat) (a5 : Nat) (a6 : Nat) (a7 : Nat → Nat) (a8 : Nat → Nat) (a9 : Nat → Nat) (a10 : Nat → Nat) (a11 : Nat → Nat) (a12 : Nat → Nat) (cu : SS) (fo : SS) (sv : SS) (hs : Int) (ol : Int) (tt : Int) (s0 : SS) (s1 : SS) (s2 : SS) (s3 : SS) (cs : Int → Int) (ln : Int) (kd : Int) (fk : Int) (hd : Int) (va : Int) (le : Int) (mo : Int) (key : Int) (m : SS) (n : Int) (r_cu : RG cu) (r_fo : RG fo) (r_sv : RG sv) (r_hs : rg hs) (r_ol : rg ol) (r_tt : rg tt) (r_s0 : RG s0) (r_s1 : RG s1) (r_s2 : RG s2) (r_s3 : RG s3) (r_cs : rgA cs) (r_ln : rg ln) (r_kd : rg kd) (r_fk : rg fk) (r_hd : rg hd) (r_va : rg va) (r_le : rg le) (r_mo : rg mo) (r_key : rg key) (p0 : Rep6 cu sv hs ol tt s0 s1 s2 s3 cs ln m n) (p1 : 0 ≤ n ∧ n ≤ 600) : ZI l G yX6_rank wsX6_rank 2 44 [.ref a0, .int (iI key)] (flt [W6o G a0 a4 a11 a12 a5 a1 a3 hs, W0 G a1 a2 cs ln, W2 G a3 kd fk hd va le mo, W5 G a4 cu, W1h G a5 a6 a7 a8 a9 a10 ol tt, W5 G a7 s0, W5 G a8 s1, W5 G a9 s2, W5 G a10 s3, W5 G a11 fo, W5 G a12 sv]) (fun u : Unit => flt [W6o G a0 a4 a11 a12 a5 a1 a3 hs, W0 G a1 a2 cs ln, W2 G a3 kd fk hd va le mo, W5 G a4 cu, W1h G a5 a6 a7 a8 a9 a10 ol tt, W5 G a7 s0, W5 G a8 s1, W5 G a9 s2, W5 G a10 s3, W5 G a11 fo, W5 G a12 sv]) (fun (zq : Int) (u : Unit) => rg zq ∧ (zq = an_rank (m.2 0) key)) :=
  c0_X6_rank l G a0 a1 a2 a3 a4 a5 a6 a7 a8 a9 a10 a11 a12 cu fo sv hs ol tt s0 s1 s2 s3 cs ln kd fk hd va le mo key (fun r => r = an_rank (m.2 0) key) r_cu r_fo r_sv r_hs r_ol r_tt r_s0 r_s1 r_s2 r_s3 r_cs r_ln r_kd r_fk r_hd r_va r_le r_mo r_key (sp_X6_rank cu fo sv hs ol tt s0 s1 s2 s3 cs ln kd fk hd va le mo key m n r_cu r_fo r_sv r_hs r_ol r_tt r_s0 r_s1 r_s2 r_s3 r_cs r_ln r_kd r_fk r_hd r_va r_le r_mo r_key p0 p1)
