theorem imX2_beginNumber_X2 : ∀ w ∈ wsX20, w ∈ wsX2_beginNumber := fun _ h => (List.mem_cons_of_mem _ (List.mem_append_right _ h))
theorem hdX2_beginNumber : yX2_beginNumber.cls = RX2 ∧ yX2_beginNumber.cls ≠ "java/lang/invoke/MethodHandle" ∧ yX2_beginNumber.cls ≠ "java/lang/invoke/VarHandle" ∧ (parseMethodDescriptor yX2_beginNumber.desc).map (fun d => d.parameters.length) = some 3 := by decide +kernel
set_option maxRecDepth 100000 in
set_option maxHeartbeats 4000000 in
theorem c0_X2_beginNumber (l : Launch) (G : ZG) (a0 : Nat) (kd : Int) (fk : Int) (hd : Int) (va : Int) (le : Int) (mo : Int) (nk : Int) (nl : Int) (nm : Int) (P : Int → Int → Int → Int → Int → Prop) (r_kd : rg kd) (r_fk : rg fk) (r_hd : rg hd) (r_va : rg va) (r_le : rg le) (r_mo : rg mo) (r_nk : rg nk) (r_nl : rg nl) (r_nm : rg nm) (hwp : wp_X2_beginNumber kd fk hd va le mo nk nl nm P) : ZV l G yX2_beginNumber wsX2_beginNumber 0 0 [.ref a0, .int (iI nk), .int (iI nl), .int (iI nm)] (W2 G a0 kd fk hd va le mo) (fun u : Int × Int × Int × Int × Int => W2 G a0 u.1 fk u.2.1 u.2.2.1 u.2.2.2.1 u.2.2.2.2) (fun (u : Int × Int × Int × Int × Int) => rg u.1 ∧ rg u.2.1 ∧ rg u.2.2.1 ∧ rg u.2.2.2.1 ∧ rg u.2.2.2.2 ∧ P u.1 u.2.1 u.2.2.1 u.2.2.2.1 u.2.2.2.2) := by
  unfold wp_X2_beginNumber at hwp
  refine zm_v (cc := cX2_beginNumber) (maxL := 4) (ret := none) (own := RX2) (lvs := [(0, .ref a0), (1, .int (iI nk)), (2, .int (iI nl)), (3, .int (iI nm))]) (by decide) rfl rfl (Nat.le_of_ble_eq_true rfl) rfl ?_
  intro p e sT m args below meth c ls A hx hb hr hml hown hts hlocks hK hP hD hS hA hl
  have k1 := hts (.fieldLink RX2 15 "GrantedSort$ItemReader" "kind" "I") (List.mem_of_getElem? (i := 1) rfl)
  have k2 := hts (.fieldLink RX2 19 "GrantedSort$ItemReader" "hasDigit" "Z") (List.mem_of_getElem? (i := 2) rfl)
  have k3 := hts (.fieldLink RX2 23 "GrantedSort$ItemReader" "value" "I") (List.mem_of_getElem? (i := 3) rfl)
  have k4 := hts (.fieldLink RX2 26 "GrantedSort$ItemReader" "least" "I") (List.mem_of_getElem? (i := 4) rfl)
  have k5 := hts (.fieldLink RX2 29 "GrantedSort$ItemReader" "most" "I") (List.mem_of_getElem? (i := 5) rfl)
  refine lv_aload_n hx hb dX2_beginNumber_0 rfl (lv_at hl 0 rfl) ?_
  refine lv_iload_n hx hb dX2_beginNumber_1 rfl (lv_at hl 1 rfl) ?_
  refine va_put (v := .int (iI nk)) (ty := .int) (ci := 2) (C := RX2) (T := TX2) (N := 6) hx hb hts imX2_beginNumber_X2 tyX2 tyX2_ok nmX2 hown hK hP hD hS 0 rfl rfl 0 (by decide) k1 (fun _ h9 => h9) rfl (tyX2_ok 0 (by decide)) rfl rfl (Nat.le_of_ble_eq_true rfl) dX2_beginNumber_2 (fun H locs hP hD hS => ?_)
  have hP : va_P G.1 vwCl (W2 G a0 nk fk hd va le mo) H := hP
  have hD : va_D A (W2 G a0 nk fk hd va le mo) := hD
  refine lv_aload_n hx hb dX2_beginNumber_5 rfl (lv_at hl 0 rfl) ?_
  refine lv_iconst (v := iI 0) hx hb dX2_beginNumber_6 rfl ?_
  refine va_put (v := .int (iI 0)) (ty := .boolean) (ci := 2) (C := RX2) (T := TX2) (N := 6) hx hb hts imX2_beginNumber_X2 tyX2 tyX2_ok nmX2 hown hK hP hD hS 0 rfl rfl 2 (by decide) k2 (fun _ h9 => h9) rfl (tyX2_ok 2 (by decide)) rfl rfl (Nat.le_of_ble_eq_true rfl) dX2_beginNumber_7 (fun H locs hP hD hS => ?_)
  have hP : va_P G.1 vwCl (W2 G a0 nk fk 0 va le mo) H := hP
  have hD : va_D A (W2 G a0 nk fk 0 va le mo) := hD
  refine lv_aload_n hx hb dX2_beginNumber_10 rfl (lv_at hl 0 rfl) ?_
  refine lv_iconst (v := iI 0) hx hb dX2_beginNumber_11 rfl ?_
  refine va_put (v := .int (iI 0)) (ty := .int) (ci := 2) (C := RX2) (T := TX2) (N := 6) hx hb hts imX2_beginNumber_X2 tyX2 tyX2_ok nmX2 hown hK hP hD hS 0 rfl rfl 3 (by decide) k3 (fun _ h9 => h9) rfl (tyX2_ok 3 (by decide)) rfl rfl (Nat.le_of_ble_eq_true rfl) dX2_beginNumber_12 (fun H locs hP hD hS => ?_)
  have hP : va_P G.1 vwCl (W2 G a0 nk fk 0 0 le mo) H := hP
  have hD : va_D A (W2 G a0 nk fk 0 0 le mo) := hD
  refine lv_aload_n hx hb dX2_beginNumber_15 rfl (lv_at hl 0 rfl) ?_
  refine lv_iload_n hx hb dX2_beginNumber_16 rfl (lv_at hl 2 rfl) ?_
  refine va_put (v := .int (iI nl)) (ty := .int) (ci := 2) (C := RX2) (T := TX2) (N := 6) hx hb hts imX2_beginNumber_X2 tyX2 tyX2_ok nmX2 hown hK hP hD hS 0 rfl rfl 4 (by decide) k4 (fun _ h9 => h9) rfl (tyX2_ok 4 (by decide)) rfl rfl (Nat.le_of_ble_eq_true rfl) dX2_beginNumber_17 (fun H locs hP hD hS => ?_)
  have hP : va_P G.1 vwCl (W2 G a0 nk fk 0 0 nl mo) H := hP
  have hD : va_D A (W2 G a0 nk fk 0 0 nl mo) := hD
  refine lv_aload_n hx hb dX2_beginNumber_20 rfl (lv_at hl 0 rfl) ?_
  refine lv_iload_n hx hb dX2_beginNumber_21 rfl (lv_at hl 3 rfl) ?_
  refine va_put (v := .int (iI nm)) (ty := .int) (ci := 2) (C := RX2) (T := TX2) (N := 6) hx hb hts imX2_beginNumber_X2 tyX2 tyX2_ok nmX2 hown hK hP hD hS 0 rfl rfl 5 (by decide) k5 (fun _ h9 => h9) rfl (tyX2_ok 5 (by decide)) rfl rfl (Nat.le_of_ble_eq_true rfl) dX2_beginNumber_22 (fun H locs hP hD hS => ?_)
  have hP : va_P G.1 vwCl (W2 G a0 nk fk 0 0 nl nm) H := hP
  have hD : va_D A (W2 G a0 nk fk 0 0 nl nm) := hD
  exact zr_vret hx hb hr hlocks hK ((nk, 0, 0, nl, nm)) hP hD hS dX2_beginNumber_25 ⟨r_nk, rg_0, rg_0, r_nl, r_nm, hwp⟩
theorem c_X2_beginNumber (l : Launch) (G : ZG) (a0 : Nat) (kd : Int) (fk : Int) (hd : Int) (va : Int) (le : Int) (mo : Int) (nk : Int) (nl : Int) (nm : Int)  (r_kd : rg kd) (r_fk : rg fk) (r_hd : rg hd) (r_va : rg va) (r_le : rg le) (r_mo : rg mo) (r_nk : rg nk) (r_nl : rg nl) (r_nm : rg nm)  : ZV l G yX2_beginNumber wsX2_beginNumber 0 0 [.ref a0, .int (iI nk), .int (iI nl), .int (iI nm)] (W2 G a0 kd fk hd va le mo) (fun _ : Unit => W2 G a0 nk fk 0 0 nl nm) (fun (_ : Unit) => rg nk ∧ rg 0 ∧ rg 0 ∧ rg nl ∧ rg nm) := by
  refine ZV.fn (w1 := fun u : Int × Int × Int × Int × Int => W2 G a0 u.1 fk u.2.1 u.2.2.1 u.2.2.2.1 u.2.2.2.2) (fun  u hq => ?_) (c0_X2_beginNumber l G a0 kd fk hd va le mo nk nl nm (fun o0 o1 o2 o3 o4 => o0 = nk ∧ o1 = 0 ∧ o2 = 0 ∧ o3 = nl ∧ o4 = nm) r_kd r_fk r_hd r_va r_le r_mo r_nk r_nl r_nm (sp_X2_beginNumber kd fk hd va le mo nk nl nm r_kd r_fk r_hd r_va r_le r_mo r_nk r_nl r_nm ))
  obtain ⟨ro0, ro1, ro2, ro3, ro4, ⟨eo0, eo1, eo2, eo3, eo4⟩⟩ := hq
  exact ⟨by rw [eo0, eo1, eo2, eo3, eo4], ⟨(by rw [← eo0]; exact ro0), (by rw [← eo1]; exact ro1), (by rw [← eo2]; exact ro2), (by rw [← eo3]; exact ro3), (by rw [← eo4]; exact ro4)⟩⟩
theorem hdX2_beginItem : yX2_beginItem.cls = RX2 ∧ yX2_beginItem.cls ≠ "java/lang/invoke/MethodHandle" ∧ yX2_beginItem.cls ≠ "java/lang/invoke/VarHandle" ∧ (parseMethodDescriptor yX2_beginItem.desc).map (fun d => d.parameters.length) = some 0 := by decide +kernel
set_option maxRecDepth 100000 in
set_option maxHeartbeats 4000000 in
theorem c0_X2_beginItem (l : Launch) (G : ZG) (a0 : Nat) (kd : Int) (fk : Int) (hd : Int) (va : Int) (le : Int) (mo : Int)  (P : Int → Int → Int → Int → Int → Prop) (r_kd : rg kd) (r_fk : rg fk) (r_hd : rg hd) (r_va : rg va) (r_le : rg le) (r_mo : rg mo)  (hwp : wp_X2_beginItem kd fk hd va le mo P) : ZV l G yX2_beginItem wsX2_beginItem 1 23 [.ref a0] (W2 G a0 kd fk hd va le mo) (fun u : Int × Int × Int × Int × Int => W2 G a0 u.1 fk u.2.1 u.2.2.1 u.2.2.2.1 u.2.2.2.2) (fun (u : Int × Int × Int × Int × Int) => rg u.1 ∧ rg u.2.1 ∧ rg u.2.2.1 ∧ rg u.2.2.2.1 ∧ rg u.2.2.2.2 ∧ P u.1 u.2.1 u.2.2.1 u.2.2.2.1 u.2.2.2.2) := by
  unfold wp_X2_beginItem at hwp
  refine zm_v (cc := cX2_beginItem) (maxL := 1) (ret := none) (own := RX2) (lvs := [(0, .ref a0)]) (by decide) rfl rfl (Nat.le_of_ble_eq_true rfl) rfl ?_
  intro p e sT m args below meth c ls A hx hb hr hml hown hts hlocks hK hP hD hS hA hl
  refine lv_aload_n hx hb dX2_beginItem_0 rfl (lv_at hl 0 rfl) ?_
  refine lv_iconst (v := iI 0) hx hb dX2_beginItem_1 rfl ?_
  refine lv_iconst (v := iI 0) hx hb dX2_beginItem_2 rfl ?_
  refine lv_sipush (v := iI 999) hx hb dX2_beginItem_3 (by decide) ?_
  refine zc_vv (As := [.int (iI 0), .int (iI 0), .int (iI 999)]) (rest := []) (w2 := fun u_6 => W2 G a0 (0 : Int) fk 0 0 (0 : Int) (999 : Int)) (c_X2_beginNumber l G a0 kd fk hd va le mo 0 0 999 r_kd r_fk r_hd r_va r_le r_mo rg_0 rg_0 rg_999) ⟨hx, hb, hml, hown, hts⟩ (cwV 3 hts gX2_beginItem_X2_beginNumber rfl rfl rfl hdX2_beginNumber ⟨Nat.le_of_ble_eq_true rfl, Nat.le_of_ble_eq_true rfl⟩) hK hP hD hS hA (q0 := 0) rfl rfl [0] [] [0] rfl rfl rfl rfl (by decide) (fun _ => rfl) rfl rfl hl.1 rfl (Nat.le_of_ble_eq_true rfl) dX2_beginItem_6 ⟨Nat.zero_le _, Nat.zero_le _⟩ (fun u_6 H locs hw hP hD hS => ?_)
  obtain ⟨r1, r2, r3, r4, r5⟩ := hw
  have hP : va_P G.1 vwCl (W2 G a0 (0 : Int) fk 0 0 (0 : Int) (999 : Int)) H := hP
  have hD : va_D A (W2 G a0 (0 : Int) fk 0 0 (0 : Int) (999 : Int)) := hD
  exact zr_vret hx hb hr hlocks hK (((0 : Int), 0, 0, (0 : Int), (999 : Int))) hP hD hS dX2_beginItem_9 ⟨r1, r2, r3, r4, r5, hwp⟩
theorem c_X2_beginItem (l : Launch) (G : ZG) (a0 : Nat) (kd : Int) (fk : Int) (hd : Int) (va : Int) (le : Int) (mo : Int)   (r_kd : rg kd) (r_fk : rg fk) (r_hd : rg hd) (r_va : rg va) (r_le : rg le) (r_mo : rg mo)   : ZV l G yX2_beginItem wsX2_beginItem 1 23 [.ref a0] (W2 G a0 kd fk hd va le mo) (fun _ : Unit => W2 G a0 0 fk 0 0 0 999) (fun (_ : Unit) => rg 0 ∧ rg 0 ∧ rg 0 ∧ rg 0 ∧ rg 999) := by
  refine ZV.fn (w1 := fun u : Int × Int × Int × Int × Int => W2 G a0 u.1 fk u.2.1 u.2.2.1 u.2.2.2.1 u.2.2.2.2) (fun  u hq => ?_) (c0_X2_beginItem l G a0 kd fk hd va le mo (fun o0 o1 o2 o3 o4 => o0 = 0 ∧ o1 = 0 ∧ o2 = 0 ∧ o3 = 0 ∧ o4 = 999) r_kd r_fk r_hd r_va r_le r_mo  (sp_X2_beginItem kd fk hd va le mo r_kd r_fk r_hd r_va r_le r_mo  ))
  obtain ⟨ro0, ro1, ro2, ro3, ro4, ⟨eo0, eo1, eo2, eo3, eo4⟩⟩ := hq
  exact ⟨by rw [eo0, eo1, eo2, eo3, eo4], ⟨(by rw [← eo0]; exact ro0), (by rw [← eo1]; exact ro1), (by rw [← eo2]; exact ro2), (by rw [← eo3]; exact ro3), (by rw [← eo4]; exact ro4)⟩⟩
theorem imX2_meets_X2 : ∀ w ∈ wsX20, w ∈ wsX2_meets := fun _ h => (List.mem_cons_of_mem _ (List.mem_append_right _ h))
theorem hdX2_meets : yX2_meets.cls = RX2 ∧ yX2_meets.cls ≠ "java/lang/invoke/MethodHandle" ∧ yX2_meets.cls ≠ "java/lang/invoke/VarHandle" ∧ (parseMethodDescriptor yX2_meets.desc).map (fun d => d.parameters.length) = some 2 := by decide +kernel
set_option maxRecDepth 100000 in
set_option maxHeartbeats 4000000 in
theorem c0_X2_meets (l : Launch) (G : ZG) (a0 : Nat) (kd : Int) (fk : Int) (hd : Int) (va : Int) (le : Int) (mo : Int) (low : Int) (high : Int) (P : Int → Prop) (r_kd : rg kd) (r_fk : rg fk) (r_hd : rg hd) (r_va : rg va) (r_le : rg le) (r_mo : rg mo) (r_low : rg low) (r_high : rg high) (hwp : wp_X2_meets kd fk hd va le mo low high P) : ZI l G yX2_meets wsX2_meets 0 0 [.ref a0, .int (iI low), .int (iI high)] (W2 G a0 kd fk hd va le mo) (fun u : Unit => W2 G a0 kd fk hd va le mo) (fun (z : Int) (u : Unit) => rg z ∧ P z) := by
  unfold wp_X2_meets at hwp
  refine zm_i (cc := cX2_meets) (maxL := 3) (ret := some .boolean) (own := RX2) (lvs := [(0, .ref a0), (1, .int (iI low)), (2, .int (iI high))]) (by decide) rfl rfl (Nat.le_of_ble_eq_true rfl) rfl ?_
  intro p e sT m args below meth c ls A hx hb hr hml hown hts hlocks hK hP hD hS hA hl
  have k1 := hts (.fieldLink RX2 29 "GrantedSort$ItemReader" "most" "I") (List.mem_of_getElem? (i := 1) rfl)
  have k2 := hts (.fieldLink RX2 26 "GrantedSort$ItemReader" "least" "I") (List.mem_of_getElem? (i := 2) rfl)
  refine lv_iload_n hx hb dX2_meets_0 rfl (lv_at hl 1 rfl) ?_
  refine lv_aload_n hx hb dX2_meets_1 rfl (lv_at hl 0 rfl) ?_
  refine va_get (v := .int (iI mo)) (ci := 2) (C := RX2) (T := TX2) (N := 6) hx hb hts imX2_meets_X2 hown hK hP 0 rfl rfl 5 (by decide) k1 (fun _ h9 => h9) rfl dX2_meets_2 ?_
  refine zr_icmp_gt (tgt := 20) (x := low) (y := mo) hx hb r_low r_mo dX2_meets_5 (by decide) (fun c1 => ?_) (fun c1 => ?_)
  · have h4 := hwp.1 c1
    refine lv_iconst (v := iI 0) hx hb dX2_meets_20 rfl ?_
    exact zr_zret (z := 0) hx hb hr hlocks hK (Or.inl rfl) () hP hD hS dX2_meets_21 ⟨rg_0, h4⟩
  · have h5 := hwp.2 c1
    refine lv_iload_n hx hb dX2_meets_8 rfl (lv_at hl 2 rfl) ?_
    refine lv_aload_n hx hb dX2_meets_9 rfl (lv_at hl 0 rfl) ?_
    refine va_get (v := .int (iI le)) (ci := 2) (C := RX2) (T := TX2) (N := 6) hx hb hts imX2_meets_X2 hown hK hP 0 rfl rfl 4 (by decide) k2 (fun _ h9 => h9) rfl dX2_meets_10 ?_
    refine zr_icmp_lt (tgt := 20) (x := high) (y := le) hx hb r_high r_le dX2_meets_13 (by decide) (fun c6 => ?_) (fun c6 => ?_)
    · have h9 := h5.1 c6
      refine lv_iconst (v := iI 0) hx hb dX2_meets_20 rfl ?_
      exact zr_zret (z := 0) hx hb hr hlocks hK (Or.inl rfl) () hP hD hS dX2_meets_21 ⟨rg_0, h9⟩
    · have h10 := h5.2 c6
      refine lv_iconst (v := iI 1) hx hb dX2_meets_16 rfl ?_
      refine lv_goto (tgt := 21) hx hb dX2_meets_17 (by decide) ?_
      exact zr_zret (z := 1) hx hb hr hlocks hK (Or.inr rfl) () hP hD hS dX2_meets_21 ⟨rg_1, h10⟩
theorem c_X2_meets (l : Launch) (G : ZG) (a0 : Nat) (kd : Int) (fk : Int) (hd : Int) (va : Int) (le : Int) (mo : Int) (low : Int) (high : Int)  (r_kd : rg kd) (r_fk : rg fk) (r_hd : rg hd) (r_va : rg va) (r_le : rg le) (r_mo : rg mo) (r_low : rg low) (r_high : rg high)  : ZI l G yX2_meets wsX2_meets 0 0 [.ref a0, .int (iI low), .int (iI high)] (W2 G a0 kd fk hd va le mo) (fun _ : Unit => W2 G a0 kd fk hd va le mo) (fun (z : Int) (_ : Unit) => z = (pz (low ≤ mo ∧ le ≤ high)) ∧ rg z) := by
  refine ZI.fn (w1 := fun u : Unit => W2 G a0 kd fk hd va le mo) (fun z u hq => ?_) (c0_X2_meets l G a0 kd fk hd va le mo low high (fun z => z = (pz (low ≤ mo ∧ le ≤ high))) r_kd r_fk r_hd r_va r_le r_mo r_low r_high (sp_X2_meets kd fk hd va le mo low high r_kd r_fk r_hd r_va r_le r_mo r_low r_high ))
  obtain ⟨rz, ez⟩ := hq
  exact ⟨rfl, ⟨ez, rz⟩⟩
theorem imX2_canBegin_X2 : ∀ w ∈ wsX20, w ∈ wsX2_canBegin := fun _ h => (List.mem_cons_of_mem _ (List.mem_append_right _ h))
theorem hdX2_canBegin : yX2_canBegin.cls = RX2 ∧ yX2_canBegin.cls ≠ "java/lang/invoke/MethodHandle" ∧ yX2_canBegin.cls ≠ "java/lang/invoke/VarHandle" ∧ (parseMethodDescriptor yX2_canBegin.desc).map (fun d => d.parameters.length) = some 1 := by decide +kernel
set_option maxRecDepth 100000 in
set_option maxHeartbeats 4000000 in
theorem c0_X2_canBegin (l : Launch) (G : ZG) (a0 : Nat) (kd : Int) (fk : Int) (hd : Int) (va : Int) (le : Int) (mo : Int) (digits : Int) (P : Int → Prop) (r_kd : rg kd) (r_fk : rg fk) (r_hd : rg hd) (r_va : rg va) (r_le : rg le) (r_mo : rg mo) (r_digits : rg digits) (hwp : wp_X2_canBegin kd fk hd va le mo digits P) : ZI l G yX2_canBegin wsX2_canBegin 1 22 [.ref a0, .int (iI digits)] (W2 G a0 kd fk hd va le mo) (fun u : Unit => W2 G a0 kd fk hd va le mo) (fun (z : Int) (u : Unit) => rg z ∧ P z) := by
  unfold wp_X2_canBegin at hwp
  refine zm_i (cc := cX2_canBegin) (maxL := 2) (ret := some .boolean) (own := RX2) (lvs := [(0, .ref a0), (1, .int (iI digits))]) (by decide) rfl rfl (Nat.le_of_ble_eq_true rfl) rfl ?_
  intro p e sT m args below meth c ls A hx hb hr hml hown hts hlocks hK hP hD hS hA hl
  have k1 := hts (.fieldLink RX2 26 "GrantedSort$ItemReader" "least" "I") (List.mem_of_getElem? (i := 1) rfl)
  refine lv_iload_n hx hb dX2_canBegin_0 rfl (lv_at hl 1 rfl) ?_
  refine zr_if_ne (tgt := 17) (x := digits) hx hb r_digits dX2_canBegin_1 (by decide) (fun c1 => ?_) (fun c1 => ?_)
  · have h4 := hwp.2 c1
    refine lv_aload_n hx hb dX2_canBegin_17 rfl (lv_at hl 0 rfl) ?_
    refine lv_iload_n hx hb dX2_canBegin_18 rfl (lv_at hl 1 rfl) ?_
    refine lv_iload_n hx hb dX2_canBegin_19 rfl (lv_at hl 1 rfl) ?_
    refine zc_vi (As := [.int (iI digits), .int (iI digits)]) (rest := []) (w2 := fun u_5 => W2 G a0 kd fk hd va le mo) (c_X2_meets l G a0 kd fk hd va le mo digits digits r_kd r_fk r_hd r_va r_le r_mo r_digits r_digits) ⟨hx, hb, hml, hown, hts⟩ (cwV 2 hts gX2_canBegin_X2_meets rfl rfl rfl hdX2_meets ⟨Nat.le_of_ble_eq_true rfl, Nat.le_of_ble_eq_true rfl⟩) hK hP hD hS hA (q0 := 0) rfl rfl [0] [] [0] rfl rfl rfl rfl (by decide) (fun _ => rfl) rfl rfl hl.1 rfl (Nat.le_of_ble_eq_true rfl) dX2_canBegin_20 ⟨Nat.zero_le _, Nat.zero_le _⟩ (fun z6 u_5 H locs hw hP hD hS => ?_)
    obtain ⟨rfl, r7⟩ := hw
    have hP : va_P G.1 vwCl (W2 G a0 kd fk hd va le mo) H := hP
    have hD : va_D A (W2 G a0 kd fk hd va le mo) := hD
    refine zr_ifB_ne (tgt := 62)  hx hb dX2_canBegin_23 (by decide) (fun c8 => ?_) (fun c8 => ?_)
    · have h11 := h4.1 c8
      refine lv_iconst (v := iI 1) hx hb dX2_canBegin_62 rfl ?_
      refine lv_goto (tgt := 67) hx hb dX2_canBegin_63 (by decide) ?_
      exact zr_zret (z := 1) hx hb hr hlocks hK (Or.inr rfl) () hP hD hS dX2_canBegin_67 ⟨rg_1, h11⟩
    · have h12 := h4.2 c8
      refine lv_aload_n hx hb dX2_canBegin_26 rfl (lv_at hl 0 rfl) ?_
      refine lv_iload_n hx hb dX2_canBegin_27 rfl (lv_at hl 1 rfl) ?_
      refine lv_bipush (v := iI 10) hx hb dX2_canBegin_28 (by decide) ?_
      refine zr_imul (x := digits) (y := 10) hx hb dX2_canBegin_30 ?_
      obtain ⟨r13, h14⟩ := h12
      refine lv_iload_n hx hb dX2_canBegin_31 rfl (lv_at hl 1 rfl) ?_
      refine lv_bipush (v := iI 10) hx hb dX2_canBegin_32 (by decide) ?_
      refine zr_imul (x := digits) (y := 10) hx hb dX2_canBegin_34 ?_
      refine lv_bipush (v := iI 9) hx hb dX2_canBegin_35 (by decide) ?_
      refine zr_iadd (x := digits * 10) (y := 9) hx hb dX2_canBegin_37 ?_
      obtain ⟨r15, h16⟩ := h14
      refine zc_vi (As := [.int (iI (digits * 10)), .int (iI ((digits * 10) + 9))]) (rest := []) (w2 := fun u_17 => W2 G a0 kd fk hd va le mo) (c_X2_meets l G a0 kd fk hd va le mo (digits * 10) ((digits * 10) + 9) r_kd r_fk r_hd r_va r_le r_mo r13 r15) ⟨hx, hb, hml, hown, hts⟩ (cwV 2 hts gX2_canBegin_X2_meets rfl rfl rfl hdX2_meets ⟨Nat.le_of_ble_eq_true rfl, Nat.le_of_ble_eq_true rfl⟩) hK hP hD hS hA (q0 := 0) rfl rfl [0] [] [0] rfl rfl rfl rfl (by decide) (fun _ => rfl) rfl rfl hl.1 rfl (Nat.le_of_ble_eq_true rfl) dX2_canBegin_38 ⟨Nat.zero_le _, Nat.zero_le _⟩ (fun z18 u_17 H locs hw hP hD hS => ?_)
      obtain ⟨rfl, r19⟩ := hw
      have hP : va_P G.1 vwCl (W2 G a0 kd fk hd va le mo) H := hP
      have hD : va_D A (W2 G a0 kd fk hd va le mo) := hD
      refine zr_ifB_ne (tgt := 62)  hx hb dX2_canBegin_41 (by decide) (fun c20 => ?_) (fun c20 => ?_)
      · have h23 := h16.1 c20
        refine lv_iconst (v := iI 1) hx hb dX2_canBegin_62 rfl ?_
        refine lv_goto (tgt := 67) hx hb dX2_canBegin_63 (by decide) ?_
        exact zr_zret (z := 1) hx hb hr hlocks hK (Or.inr rfl) () hP hD hS dX2_canBegin_67 ⟨rg_1, h23⟩
      · have h24 := h16.2 c20
        refine lv_aload_n hx hb dX2_canBegin_44 rfl (lv_at hl 0 rfl) ?_
        refine lv_iload_n hx hb dX2_canBegin_45 rfl (lv_at hl 1 rfl) ?_
        refine lv_bipush (v := iI 100) hx hb dX2_canBegin_46 (by decide) ?_
        refine zr_imul (x := digits) (y := 100) hx hb dX2_canBegin_48 ?_
        obtain ⟨r25, h26⟩ := h24
        refine lv_iload_n hx hb dX2_canBegin_49 rfl (lv_at hl 1 rfl) ?_
        refine lv_bipush (v := iI 100) hx hb dX2_canBegin_50 (by decide) ?_
        refine zr_imul (x := digits) (y := 100) hx hb dX2_canBegin_52 ?_
        refine lv_bipush (v := iI 99) hx hb dX2_canBegin_53 (by decide) ?_
        refine zr_iadd (x := digits * 100) (y := 99) hx hb dX2_canBegin_55 ?_
        obtain ⟨r27, h28⟩ := h26
        refine zc_vi (As := [.int (iI (digits * 100)), .int (iI ((digits * 100) + 99))]) (rest := []) (w2 := fun u_29 => W2 G a0 kd fk hd va le mo) (c_X2_meets l G a0 kd fk hd va le mo (digits * 100) ((digits * 100) + 99) r_kd r_fk r_hd r_va r_le r_mo r25 r27) ⟨hx, hb, hml, hown, hts⟩ (cwV 2 hts gX2_canBegin_X2_meets rfl rfl rfl hdX2_meets ⟨Nat.le_of_ble_eq_true rfl, Nat.le_of_ble_eq_true rfl⟩) hK hP hD hS hA (q0 := 0) rfl rfl [0] [] [0] rfl rfl rfl rfl (by decide) (fun _ => rfl) rfl rfl hl.1 rfl (Nat.le_of_ble_eq_true rfl) dX2_canBegin_56 ⟨Nat.zero_le _, Nat.zero_le _⟩ (fun z30 u_29 H locs hw hP hD hS => ?_)
        obtain ⟨rfl, r31⟩ := hw
        have hP : va_P G.1 vwCl (W2 G a0 kd fk hd va le mo) H := hP
        have hD : va_D A (W2 G a0 kd fk hd va le mo) := hD
        refine zr_ifB_eq (tgt := 66)  hx hb dX2_canBegin_59 (by decide) (fun c32 => ?_) (fun c32 => ?_)
        · have h35 := h28.2 c32
          refine lv_iconst (v := iI 0) hx hb dX2_canBegin_66 rfl ?_
          exact zr_zret (z := 0) hx hb hr hlocks hK (Or.inl rfl) () hP hD hS dX2_canBegin_67 ⟨rg_0, h35⟩
        · have h36 := h28.1 c32
          refine lv_iconst (v := iI 1) hx hb dX2_canBegin_62 rfl ?_
          refine lv_goto (tgt := 67) hx hb dX2_canBegin_63 (by decide) ?_
          exact zr_zret (z := 1) hx hb hr hlocks hK (Or.inr rfl) () hP hD hS dX2_canBegin_67 ⟨rg_1, h36⟩
  · have h37 := hwp.1 c1
    refine lv_aload_n hx hb dX2_canBegin_4 rfl (lv_at hl 0 rfl) ?_
    refine va_get (v := .int (iI le)) (ci := 2) (C := RX2) (T := TX2) (N := 6) hx hb hts imX2_canBegin_X2 hown hK hP 0 rfl rfl 4 (by decide) k1 (fun _ h9 => h9) rfl dX2_canBegin_5 ?_
    refine zr_if_gt (tgt := 15) (x := le) hx hb r_le dX2_canBegin_8 (by decide) (fun c38 => ?_) (fun c38 => ?_)
    · have h41 := h37.1 c38
      refine lv_iconst (v := iI 0) hx hb dX2_canBegin_15 rfl ?_
      exact zr_zret (z := 0) hx hb hr hlocks hK (Or.inl rfl) () hP hD hS dX2_canBegin_16 ⟨rg_0, h41⟩
    · have h42 := h37.2 c38
      refine lv_iconst (v := iI 1) hx hb dX2_canBegin_11 rfl ?_
      refine lv_goto (tgt := 16) hx hb dX2_canBegin_12 (by decide) ?_
      exact zr_zret (z := 1) hx hb hr hlocks hK (Or.inr rfl) () hP hD hS dX2_canBegin_16 ⟨rg_1, h42⟩
theorem c_X2_canBegin (l : Launch) (G : ZG) (a0 : Nat) (kd : Int) (fk : Int) (hd : Int) (va : Int) (le : Int) (mo : Int) (digits : Int)  (r_kd : rg kd) (r_fk : rg fk) (r_hd : rg hd) (r_va : rg va) (r_le : rg le) (r_mo : rg mo) (r_digits : rg digits) (p0 : 0 ≤ digits ∧ digits ≤ 100000) : ZI l G yX2_canBegin wsX2_canBegin 1 22 [.ref a0, .int (iI digits)] (W2 G a0 kd fk hd va le mo) (fun _ : Unit => W2 G a0 kd fk hd va le mo) (fun (z : Int) (_ : Unit) => z = (pz (((digits = 0 ∧ le ≤ 0) ∨ (¬ digits = 0 ∧ ((digits ≤ mo ∧ le ≤ digits) ∨ (10 * digits ≤ mo ∧ le ≤ 10 * digits + 9) ∨ (100 * digits ≤ mo ∧ le ≤ 100 * digits + 99)))))) ∧ rg z) := by
  refine ZI.fn (w1 := fun u : Unit => W2 G a0 kd fk hd va le mo) (fun z u hq => ?_) (c0_X2_canBegin l G a0 kd fk hd va le mo digits (fun z => z = (pz (((digits = 0 ∧ le ≤ 0) ∨ (¬ digits = 0 ∧ ((digits ≤ mo ∧ le ≤ digits) ∨ (10 * digits ≤ mo ∧ le ≤ 10 * digits + 9) ∨ (100 * digits ≤ mo ∧ le ≤ 100 * digits + 99))))))) r_kd r_fk r_hd r_va r_le r_mo r_digits (sp_X2_canBegin kd fk hd va le mo digits r_kd r_fk r_hd r_va r_le r_mo r_digits p0))
  obtain ⟨rz, ez⟩ := hq
  exact ⟨rfl, ⟨ez, rz⟩⟩
theorem imX2_isWhole_X2 : ∀ w ∈ wsX20, w ∈ wsX2_isWhole := fun _ h => (List.mem_cons_of_mem _ (List.mem_append_right _ h))
theorem hdX2_isWhole : yX2_isWhole.cls = RX2 ∧ yX2_isWhole.cls ≠ "java/lang/invoke/MethodHandle" ∧ yX2_isWhole.cls ≠ "java/lang/invoke/VarHandle" ∧ (parseMethodDescriptor yX2_isWhole.desc).map (fun d => d.parameters.length) = some 0 := by decide +kernel
set_option maxRecDepth 100000 in
set_option maxHeartbeats 4000000 in
theorem c0_X2_isWhole (l : Launch) (G : ZG) (a0 : Nat) (kd : Int) (fk : Int) (hd : Int) (va : Int) (le : Int) (mo : Int)  (P : Int → Prop) (r_kd : rg kd) (r_fk : rg fk) (r_hd : rg hd) (r_va : rg va) (r_le : rg le) (r_mo : rg mo)  (hwp : wp_X2_isWhole kd fk hd va le mo P) : ZI l G yX2_isWhole wsX2_isWhole 1 22 [.ref a0] (W2 G a0 kd fk hd va le mo) (fun u : Unit => W2 G a0 kd fk hd va le mo) (fun (z : Int) (u : Unit) => rg z ∧ P z) := by
  unfold wp_X2_isWhole at hwp
  refine zm_i (cc := cX2_isWhole) (maxL := 1) (ret := some .boolean) (own := RX2) (lvs := [(0, .ref a0)]) (by decide) rfl rfl (Nat.le_of_ble_eq_true rfl) rfl ?_
  intro p e sT m args below meth c ls A hx hb hr hml hown hts hlocks hK hP hD hS hA hl
  have k1 := hts (.fieldLink RX2 19 "GrantedSort$ItemReader" "hasDigit" "Z") (List.mem_of_getElem? (i := 1) rfl)
  have k2 := hts (.fieldLink RX2 23 "GrantedSort$ItemReader" "value" "I") (List.mem_of_getElem? (i := 2) rfl)
  refine lv_aload_n hx hb dX2_isWhole_0 rfl (lv_at hl 0 rfl) ?_
  refine va_get (v := .int (iI hd)) (ci := 2) (C := RX2) (T := TX2) (N := 6) hx hb hts imX2_isWhole_X2 hown hK hP 0 rfl rfl 2 (by decide) k1 (fun _ h9 => h9) rfl dX2_isWhole_1 ?_
  refine zr_if_eq (tgt := 26) (x := hd) hx hb r_hd dX2_isWhole_4 (by decide) (fun c1 => ?_) (fun c1 => ?_)
  · have h4 := hwp.1 c1
    refine lv_iconst (v := iI 0) hx hb dX2_isWhole_26 rfl ?_
    exact zr_zret (z := 0) hx hb hr hlocks hK (Or.inl rfl) () hP hD hS dX2_isWhole_27 ⟨rg_0, h4⟩
  · have h5 := hwp.2 c1
    refine lv_aload_n hx hb dX2_isWhole_7 rfl (lv_at hl 0 rfl) ?_
    refine lv_aload_n hx hb dX2_isWhole_8 rfl (lv_at hl 0 rfl) ?_
    refine va_get (v := .int (iI va)) (ci := 2) (C := RX2) (T := TX2) (N := 6) hx hb hts imX2_isWhole_X2 hown hK hP 0 rfl rfl 3 (by decide) k2 (fun _ h9 => h9) rfl dX2_isWhole_9 ?_
    refine lv_aload_n hx hb dX2_isWhole_12 rfl (lv_at hl 0 rfl) ?_
    refine va_get (v := .int (iI va)) (ci := 2) (C := RX2) (T := TX2) (N := 6) hx hb hts imX2_isWhole_X2 hown hK hP 0 rfl rfl 3 (by decide) k2 (fun _ h9 => h9) rfl dX2_isWhole_13 ?_
    refine zc_vi (As := [.int (iI va), .int (iI va)]) (rest := []) (w2 := fun u_6 => W2 G a0 kd fk hd va le mo) (c_X2_meets l G a0 kd fk hd va le mo va va r_kd r_fk r_hd r_va r_le r_mo r_va r_va) ⟨hx, hb, hml, hown, hts⟩ (cwV 2 hts gX2_isWhole_X2_meets rfl rfl rfl hdX2_meets ⟨Nat.le_of_ble_eq_true rfl, Nat.le_of_ble_eq_true rfl⟩) hK hP hD hS hA (q0 := 0) rfl rfl [0] [] [0] rfl rfl rfl rfl (by decide) (fun _ => rfl) rfl rfl hl.1 rfl (Nat.le_of_ble_eq_true rfl) dX2_isWhole_16 ⟨Nat.zero_le _, Nat.zero_le _⟩ (fun z7 u_6 H locs hw hP hD hS => ?_)
    obtain ⟨rfl, r8⟩ := hw
    have hP : va_P G.1 vwCl (W2 G a0 kd fk hd va le mo) H := hP
    have hD : va_D A (W2 G a0 kd fk hd va le mo) := hD
    refine zr_ifB_eq (tgt := 26)  hx hb dX2_isWhole_19 (by decide) (fun c9 => ?_) (fun c9 => ?_)
    · have h12 := h5.2 c9
      refine lv_iconst (v := iI 0) hx hb dX2_isWhole_26 rfl ?_
      exact zr_zret (z := 0) hx hb hr hlocks hK (Or.inl rfl) () hP hD hS dX2_isWhole_27 ⟨rg_0, h12⟩
    · have h13 := h5.1 c9
      refine lv_iconst (v := iI 1) hx hb dX2_isWhole_22 rfl ?_
      refine lv_goto (tgt := 27) hx hb dX2_isWhole_23 (by decide) ?_
      exact zr_zret (z := 1) hx hb hr hlocks hK (Or.inr rfl) () hP hD hS dX2_isWhole_27 ⟨rg_1, h13⟩
theorem c_X2_isWhole (l : Launch) (G : ZG) (a0 : Nat) (kd : Int) (fk : Int) (hd : Int) (va : Int) (le : Int) (mo : Int)   (r_kd : rg kd) (r_fk : rg fk) (r_hd : rg hd) (r_va : rg va) (r_le : rg le) (r_mo : rg mo)  (p0 : hd = 0 ∨ hd = 1) : ZI l G yX2_isWhole wsX2_isWhole 1 22 [.ref a0] (W2 G a0 kd fk hd va le mo) (fun _ : Unit => W2 G a0 kd fk hd va le mo) (fun (z : Int) (_ : Unit) => z = (pz (hd = 1 ∧ va ≤ mo ∧ le ≤ va)) ∧ rg z) := by
  refine ZI.fn (w1 := fun u : Unit => W2 G a0 kd fk hd va le mo) (fun z u hq => ?_) (c0_X2_isWhole l G a0 kd fk hd va le mo (fun z => z = (pz (hd = 1 ∧ va ≤ mo ∧ le ≤ va))) r_kd r_fk r_hd r_va r_le r_mo  (sp_X2_isWhole kd fk hd va le mo r_kd r_fk r_hd r_va r_le r_mo  p0))
  obtain ⟨rz, ez⟩ := hq
  exact ⟨rfl, ⟨ez, rz⟩⟩
theorem imX2_takeDigit_X2 : ∀ w ∈ wsX20, w ∈ wsX2_takeDigit := fun _ h => (List.mem_cons_of_mem _ (List.mem_append_right _ h))
theorem hdX2_takeDigit : yX2_takeDigit.cls = RX2 ∧ yX2_takeDigit.cls ≠ "java/lang/invoke/MethodHandle" ∧ yX2_takeDigit.cls ≠ "java/lang/invoke/VarHandle" ∧ (parseMethodDescriptor yX2_takeDigit.desc).map (fun d => d.parameters.length) = some 1 := by decide +kernel
set_option maxRecDepth 100000 in
set_option maxHeartbeats 4000000 in
theorem c0_X2_takeDigit (l : Launch) (G : ZG) (a0 : Nat) (kd : Int) (fk : Int) (hd : Int) (va : Int) (le : Int) (mo : Int) (digit : Int) (P : Int → Int → Int → Prop) (r_kd : rg kd) (r_fk : rg fk) (r_hd : rg hd) (r_va : rg va) (r_le : rg le) (r_mo : rg mo) (r_digit : rg digit) (hwp : wp_X2_takeDigit kd fk hd va le mo digit P) : ZI l G yX2_takeDigit wsX2_takeDigit 2 43 [.ref a0, .int (iI digit)] (W2 G a0 kd fk hd va le mo) (fun u : Int × Int => W2 G a0 kd fk u.1 u.2 le mo) (fun (z : Int) (u : Int × Int) => rg z ∧ rg u.1 ∧ rg u.2 ∧ P z u.1 u.2) := by
  unfold wp_X2_takeDigit at hwp
  refine zm_i (cc := cX2_takeDigit) (maxL := 3) (ret := some .boolean) (own := RX2) (lvs := [(0, .ref a0), (1, .int (iI digit))]) (by decide) rfl rfl (Nat.le_of_ble_eq_true rfl) rfl ?_
  intro p e sT m args below meth c ls A hx hb hr hml hown hts hlocks hK hP hD hS hA hl
  have k1 := hts (.fieldLink RX2 19 "GrantedSort$ItemReader" "hasDigit" "Z") (List.mem_of_getElem? (i := 1) rfl)
  have k2 := hts (.fieldLink RX2 23 "GrantedSort$ItemReader" "value" "I") (List.mem_of_getElem? (i := 2) rfl)
  refine lv_aload_n hx hb dX2_takeDigit_0 rfl (lv_at hl 0 rfl) ?_
  refine va_get (v := .int (iI hd)) (ci := 2) (C := RX2) (T := TX2) (N := 6) hx hb hts imX2_takeDigit_X2 hown hK hP 0 rfl rfl 2 (by decide) k1 (fun _ h9 => h9) rfl dX2_takeDigit_1 ?_
  refine zr_if_eq (tgt := 16) (x := hd) hx hb r_hd dX2_takeDigit_4 (by decide) (fun c1 => ?_) (fun c1 => ?_)
  · have h4 := hwp.1 c1
    refine lv_aload_n hx hb dX2_takeDigit_16 rfl (lv_at hl 0 rfl) ?_
    refine va_get (v := .int (iI va)) (ci := 2) (C := RX2) (T := TX2) (N := 6) hx hb hts imX2_takeDigit_X2 hown hK hP 0 rfl rfl 3 (by decide) k2 (fun _ h9 => h9) rfl dX2_takeDigit_17 ?_
    refine lv_bipush (v := iI 10) hx hb dX2_takeDigit_20 (by decide) ?_
    refine zr_imul (x := va) (y := 10) hx hb dX2_takeDigit_22 ?_
    obtain ⟨r5, h6⟩ := h4
    refine lv_iload_n hx hb dX2_takeDigit_23 rfl (lv_at hl 1 rfl) ?_
    refine zr_iadd (x := va * 10) (y := digit) hx hb dX2_takeDigit_24 ?_
    obtain ⟨r7, h8⟩ := h6
    refine lv_istore_n (lv' := [(2, .int (iI ((va * 10) + digit))), (0, .ref a0), (1, .int (iI digit))]) hx hb dX2_takeDigit_25 rfl hl (by decide) rfl (fun ls hl => ?_)
    refine lv_aload_n hx hb dX2_takeDigit_26 rfl (lv_at hl 1 rfl) ?_
    refine lv_iload_n hx hb dX2_takeDigit_27 rfl (lv_at hl 0 rfl) ?_
    obtain ⟨b9, h10⟩ := h8
    refine zc_vi (As := [.int (iI ((va * 10) + digit))]) (rest := []) (w2 := fun u_11 => W2 G a0 kd fk hd va le mo) (c_X2_canBegin l G a0 kd fk hd va le mo ((va * 10) + digit) r_kd r_fk r_hd r_va r_le r_mo r7 b9) ⟨hx, hb, hml, hown, hts⟩ (cwV 1 hts gX2_takeDigit_X2_canBegin rfl rfl rfl hdX2_canBegin ⟨Nat.le_of_ble_eq_true rfl, Nat.le_of_ble_eq_true rfl⟩) hK hP hD hS hA (q0 := 0) rfl rfl [0] [] [0] rfl rfl rfl rfl (by decide) (fun _ => rfl) rfl rfl hl.1 rfl (Nat.le_of_ble_eq_true rfl) dX2_takeDigit_28 ⟨Nat.zero_le _, Nat.zero_le _⟩ (fun z12 u_11 H locs hw hP hD hS => ?_)
    obtain ⟨rfl, r13⟩ := hw
    have hP : va_P G.1 vwCl (W2 G a0 kd fk hd va le mo) H := hP
    have hD : va_D A (W2 G a0 kd fk hd va le mo) := hD
    refine zr_ifB_ne (tgt := 36)  hx hb dX2_takeDigit_31 (by decide) (fun c14 => ?_) (fun c14 => ?_)
    · have h17 := h10.1 c14
      refine lv_aload_n hx hb dX2_takeDigit_36 rfl (lv_at hl 1 rfl) ?_
      refine lv_iload_n hx hb dX2_takeDigit_37 rfl (lv_at hl 0 rfl) ?_
      refine va_put (v := .int (iI ((va * 10) + digit))) (ty := .int) (ci := 2) (C := RX2) (T := TX2) (N := 6) hx hb hts imX2_takeDigit_X2 tyX2 tyX2_ok nmX2 hown hK hP hD hS 0 rfl rfl 3 (by decide) k2 (fun _ h9 => h9) rfl (tyX2_ok 3 (by decide)) rfl rfl (Nat.le_of_ble_eq_true rfl) dX2_takeDigit_38 (fun H locs hP hD hS => ?_)
      have hP : va_P G.1 vwCl (W2 G a0 kd fk hd ((va * 10) + digit) le mo) H := hP
      have hD : va_D A (W2 G a0 kd fk hd ((va * 10) + digit) le mo) := hD
      refine lv_aload_n hx hb dX2_takeDigit_41 rfl (lv_at hl 1 rfl) ?_
      refine lv_iconst (v := iI 1) hx hb dX2_takeDigit_42 rfl ?_
      refine va_put (v := .int (iI 1)) (ty := .boolean) (ci := 2) (C := RX2) (T := TX2) (N := 6) hx hb hts imX2_takeDigit_X2 tyX2 tyX2_ok nmX2 hown hK hP hD hS 0 rfl rfl 2 (by decide) k1 (fun _ h9 => h9) rfl (tyX2_ok 2 (by decide)) rfl rfl (Nat.le_of_ble_eq_true rfl) dX2_takeDigit_43 (fun H locs hP hD hS => ?_)
      have hP : va_P G.1 vwCl (W2 G a0 kd fk 1 ((va * 10) + digit) le mo) H := hP
      have hD : va_D A (W2 G a0 kd fk 1 ((va * 10) + digit) le mo) := hD
      refine lv_iconst (v := iI 1) hx hb dX2_takeDigit_46 rfl ?_
      exact zr_zret (z := 1) hx hb hr hlocks hK (Or.inr rfl) ((1, (va * 10) + digit)) hP hD hS dX2_takeDigit_47 ⟨rg_1, rg_1, r7, h17⟩
    · have h18 := h10.2 c14
      refine lv_iconst (v := iI 0) hx hb dX2_takeDigit_34 rfl ?_
      exact zr_zret (z := 0) hx hb hr hlocks hK (Or.inl rfl) ((hd, va)) hP hD hS dX2_takeDigit_35 ⟨rg_0, r_hd, r_va, h18⟩
  · have h19 := hwp.2 c1
    refine lv_aload_n hx hb dX2_takeDigit_7 rfl (lv_at hl 0 rfl) ?_
    refine va_get (v := .int (iI va)) (ci := 2) (C := RX2) (T := TX2) (N := 6) hx hb hts imX2_takeDigit_X2 hown hK hP 0 rfl rfl 3 (by decide) k2 (fun _ h9 => h9) rfl dX2_takeDigit_8 ?_
    refine zr_if_ne (tgt := 16) (x := va) hx hb r_va dX2_takeDigit_11 (by decide) (fun c20 => ?_) (fun c20 => ?_)
    · have h23 := h19.2 c20
      refine lv_aload_n hx hb dX2_takeDigit_16 rfl (lv_at hl 0 rfl) ?_
      refine va_get (v := .int (iI va)) (ci := 2) (C := RX2) (T := TX2) (N := 6) hx hb hts imX2_takeDigit_X2 hown hK hP 0 rfl rfl 3 (by decide) k2 (fun _ h9 => h9) rfl dX2_takeDigit_17 ?_
      refine lv_bipush (v := iI 10) hx hb dX2_takeDigit_20 (by decide) ?_
      refine zr_imul (x := va) (y := 10) hx hb dX2_takeDigit_22 ?_
      obtain ⟨r24, h25⟩ := h23
      refine lv_iload_n hx hb dX2_takeDigit_23 rfl (lv_at hl 1 rfl) ?_
      refine zr_iadd (x := va * 10) (y := digit) hx hb dX2_takeDigit_24 ?_
      obtain ⟨r26, h27⟩ := h25
      refine lv_istore_n (lv' := [(2, .int (iI ((va * 10) + digit))), (0, .ref a0), (1, .int (iI digit))]) hx hb dX2_takeDigit_25 rfl hl (by decide) rfl (fun ls hl => ?_)
      refine lv_aload_n hx hb dX2_takeDigit_26 rfl (lv_at hl 1 rfl) ?_
      refine lv_iload_n hx hb dX2_takeDigit_27 rfl (lv_at hl 0 rfl) ?_
      obtain ⟨b28, h29⟩ := h27
      refine zc_vi (As := [.int (iI ((va * 10) + digit))]) (rest := []) (w2 := fun u_30 => W2 G a0 kd fk hd va le mo) (c_X2_canBegin l G a0 kd fk hd va le mo ((va * 10) + digit) r_kd r_fk r_hd r_va r_le r_mo r26 b28) ⟨hx, hb, hml, hown, hts⟩ (cwV 1 hts gX2_takeDigit_X2_canBegin rfl rfl rfl hdX2_canBegin ⟨Nat.le_of_ble_eq_true rfl, Nat.le_of_ble_eq_true rfl⟩) hK hP hD hS hA (q0 := 0) rfl rfl [0] [] [0] rfl rfl rfl rfl (by decide) (fun _ => rfl) rfl rfl hl.1 rfl (Nat.le_of_ble_eq_true rfl) dX2_takeDigit_28 ⟨Nat.zero_le _, Nat.zero_le _⟩ (fun z31 u_30 H locs hw hP hD hS => ?_)
      obtain ⟨rfl, r32⟩ := hw
      have hP : va_P G.1 vwCl (W2 G a0 kd fk hd va le mo) H := hP
      have hD : va_D A (W2 G a0 kd fk hd va le mo) := hD
      refine zr_ifB_ne (tgt := 36)  hx hb dX2_takeDigit_31 (by decide) (fun c33 => ?_) (fun c33 => ?_)
      · have h36 := h29.1 c33
        refine lv_aload_n hx hb dX2_takeDigit_36 rfl (lv_at hl 1 rfl) ?_
        refine lv_iload_n hx hb dX2_takeDigit_37 rfl (lv_at hl 0 rfl) ?_
        refine va_put (v := .int (iI ((va * 10) + digit))) (ty := .int) (ci := 2) (C := RX2) (T := TX2) (N := 6) hx hb hts imX2_takeDigit_X2 tyX2 tyX2_ok nmX2 hown hK hP hD hS 0 rfl rfl 3 (by decide) k2 (fun _ h9 => h9) rfl (tyX2_ok 3 (by decide)) rfl rfl (Nat.le_of_ble_eq_true rfl) dX2_takeDigit_38 (fun H locs hP hD hS => ?_)
        have hP : va_P G.1 vwCl (W2 G a0 kd fk hd ((va * 10) + digit) le mo) H := hP
        have hD : va_D A (W2 G a0 kd fk hd ((va * 10) + digit) le mo) := hD
        refine lv_aload_n hx hb dX2_takeDigit_41 rfl (lv_at hl 1 rfl) ?_
        refine lv_iconst (v := iI 1) hx hb dX2_takeDigit_42 rfl ?_
        refine va_put (v := .int (iI 1)) (ty := .boolean) (ci := 2) (C := RX2) (T := TX2) (N := 6) hx hb hts imX2_takeDigit_X2 tyX2 tyX2_ok nmX2 hown hK hP hD hS 0 rfl rfl 2 (by decide) k1 (fun _ h9 => h9) rfl (tyX2_ok 2 (by decide)) rfl rfl (Nat.le_of_ble_eq_true rfl) dX2_takeDigit_43 (fun H locs hP hD hS => ?_)
        have hP : va_P G.1 vwCl (W2 G a0 kd fk 1 ((va * 10) + digit) le mo) H := hP
        have hD : va_D A (W2 G a0 kd fk 1 ((va * 10) + digit) le mo) := hD
        refine lv_iconst (v := iI 1) hx hb dX2_takeDigit_46 rfl ?_
        exact zr_zret (z := 1) hx hb hr hlocks hK (Or.inr rfl) ((1, (va * 10) + digit)) hP hD hS dX2_takeDigit_47 ⟨rg_1, rg_1, r26, h36⟩
      · have h37 := h29.2 c33
        refine lv_iconst (v := iI 0) hx hb dX2_takeDigit_34 rfl ?_
        exact zr_zret (z := 0) hx hb hr hlocks hK (Or.inl rfl) ((hd, va)) hP hD hS dX2_takeDigit_35 ⟨rg_0, r_hd, r_va, h37⟩
    · have h38 := h19.1 c20
      refine lv_iconst (v := iI 0) hx hb dX2_takeDigit_14 rfl ?_
      exact zr_zret (z := 0) hx hb hr hlocks hK (Or.inl rfl) ((hd, va)) hP hD hS dX2_takeDigit_15 ⟨rg_0, r_hd, r_va, h38⟩
theorem c_X2_takeDigit (l : Launch) (G : ZG) (a0 : Nat) (kd : Int) (fk : Int) (hd : Int) (va : Int) (le : Int) (mo : Int) (digit : Int)  (r_kd : rg kd) (r_fk : rg fk) (r_hd : rg hd) (r_va : rg va) (r_le : rg le) (r_mo : rg mo) (r_digit : rg digit) (p0 : hd = 0 ∨ hd = 1) (p1 : (0 ≤ va ∧ va ≤ 999) ∧ 0 ≤ digit ∧ digit ≤ 9) : ZI l G yX2_takeDigit wsX2_takeDigit 2 43 [.ref a0, .int (iI digit)] (W2 G a0 kd fk hd va le mo) (fun u : Int × Int => W2 G a0 kd fk u.1 u.2 le mo) (fun (zq : Int) (u : Int × Int) => rg zq ∧ rg u.1 ∧ rg u.2 ∧ ((zq = 1 ∧ (¬ (hd = 1 ∧ va = 0) ∧ canQ le mo (va * 10 + digit)) ∧ u.1 = 1 ∧ u.2 = va * 10 + digit) ∨ (zq = 0 ∧ ¬ (¬ (hd = 1 ∧ va = 0) ∧ canQ le mo (va * 10 + digit)) ∧ u.1 = hd ∧ u.2 = va))) :=
  c0_X2_takeDigit l G a0 kd fk hd va le mo digit (fun r hd' va' => (r = 1 ∧ (¬ (hd = 1 ∧ va = 0) ∧ canQ le mo (va * 10 + digit)) ∧ hd' = 1 ∧ va' = va * 10 + digit) ∨ (r = 0 ∧ ¬ (¬ (hd = 1 ∧ va = 0) ∧ canQ le mo (va * 10 + digit)) ∧ hd' = hd ∧ va' = va)) r_kd r_fk r_hd r_va r_le r_mo r_digit (sp_X2_takeDigit kd fk hd va le mo digit  r_kd r_fk r_hd r_va r_le r_mo r_digit p0 p1)
theorem imX2_takeSign_X2 : ∀ w ∈ wsX20, w ∈ wsX2_takeSign := fun _ h => (List.mem_cons_of_mem _ (List.mem_append_right _ h))
theorem hdX2_takeSign : yX2_takeSign.cls = RX2 ∧ yX2_takeSign.cls ≠ "java/lang/invoke/MethodHandle" ∧ yX2_takeSign.cls ≠ "java/lang/invoke/VarHandle" ∧ (parseMethodDescriptor yX2_takeSign.desc).map (fun d => d.parameters.length) = some 1 := by decide +kernel
set_option maxRecDepth 100000 in
set_option maxHeartbeats 4000000 in
theorem c0_X2_takeSign (l : Launch) (G : ZG) (a0 : Nat) (kd : Int) (fk : Int) (hd : Int) (va : Int) (le : Int) (mo : Int) (code : Int) (P : Int → Int → Int → Int → Int → Int → Int → Prop) (r_kd : rg kd) (r_fk : rg fk) (r_hd : rg hd) (r_va : rg va) (r_le : rg le) (r_mo : rg mo) (r_code : rg code) (hwp : wp_X2_takeSign kd fk hd va le mo code P) : ZI l G yX2_takeSign wsX2_takeSign 1 23 [.ref a0, .int (iI code)] (W2 G a0 kd fk hd va le mo) (fun u : Int × Int × Int × Int × Int × Int => W2 G a0 u.1 u.2.1 u.2.2.1 u.2.2.2.1 u.2.2.2.2.1 u.2.2.2.2.2) (fun (z : Int) (u : Int × Int × Int × Int × Int × Int) => rg z ∧ rg u.1 ∧ rg u.2.1 ∧ rg u.2.2.1 ∧ rg u.2.2.2.1 ∧ rg u.2.2.2.2.1 ∧ rg u.2.2.2.2.2 ∧ P z u.1 u.2.1 u.2.2.1 u.2.2.2.1 u.2.2.2.2.1 u.2.2.2.2.2) := by
  unfold wp_X2_takeSign at hwp
  refine zm_i (cc := cX2_takeSign) (maxL := 2) (ret := some .boolean) (own := RX2) (lvs := [(0, .ref a0), (1, .int (iI code))]) (by decide) rfl rfl (Nat.le_of_ble_eq_true rfl) rfl ?_
  intro p e sT m args below meth c ls A hx hb hr hml hown hts hlocks hK hP hD hS hA hl
  have k1 := hts (.fieldLink RX2 23 "GrantedSort$ItemReader" "value" "I") (List.mem_of_getElem? (i := 1) rfl)
  have k2 := hts (.fieldLink RX2 53 "GrantedSort$ItemReader" "firstKey" "I") (List.mem_of_getElem? (i := 2) rfl)
  refine lv_iload_n hx hb dX2_takeSign_0 rfl (lv_at hl 1 rfl) ?_
  refine lv_bipush (v := iI 120) hx hb dX2_takeSign_1 (by decide) ?_
  refine zr_icmp_ne (tgt := 24) (x := code) (y := 120) hx hb r_code rg_120 dX2_takeSign_3 (by decide) (fun c1 => ?_) (fun c1 => ?_)
  · have h4 := hwp.2 c1
    refine lv_iload_n hx hb dX2_takeSign_24 rfl (lv_at hl 1 rfl) ?_
    refine lv_bipush (v := iI 45) hx hb dX2_takeSign_25 (by decide) ?_
    refine zr_icmp_ne (tgt := 64) (x := code) (y := 45) hx hb r_code rg_45 dX2_takeSign_27 (by decide) (fun c5 => ?_) (fun c5 => ?_)
    · have h8 := h4.2 c5
      refine lv_iconst (v := iI 0) hx hb dX2_takeSign_64 rfl ?_
      exact zr_zret (z := 0) hx hb hr hlocks hK (Or.inl rfl) ((kd, fk, hd, va, le, mo)) hP hD hS dX2_takeSign_65 ⟨rg_0, r_kd, r_fk, r_hd, r_va, r_le, r_mo, h8⟩
    · have h9 := h4.1 c5
      refine lv_aload_n hx hb dX2_takeSign_30 rfl (lv_at hl 0 rfl) ?_
      refine va_get (v := .int (iI va)) (ci := 2) (C := RX2) (T := TX2) (N := 6) hx hb hts imX2_takeSign_X2 hown hK hP 0 rfl rfl 3 (by decide) k1 (fun _ h9 => h9) rfl dX2_takeSign_31 ?_
      refine lv_sipush (v := iI 999) hx hb dX2_takeSign_34 (by decide) ?_
      refine zr_icmp_ge (tgt := 64) (x := va) (y := 999) hx hb r_va rg_999 dX2_takeSign_37 (by decide) (fun c10 => ?_) (fun c10 => ?_)
      · have h13 := h9.2 c10
        refine lv_iconst (v := iI 0) hx hb dX2_takeSign_64 rfl ?_
        exact zr_zret (z := 0) hx hb hr hlocks hK (Or.inl rfl) ((kd, fk, hd, va, le, mo)) hP hD hS dX2_takeSign_65 ⟨rg_0, r_kd, r_fk, r_hd, r_va, r_le, r_mo, h13⟩
      · have h14 := h9.1 c10
        refine lv_aload_n hx hb dX2_takeSign_40 rfl (lv_at hl 0 rfl) ?_
        refine lv_aload_n hx hb dX2_takeSign_41 rfl (lv_at hl 0 rfl) ?_
        refine va_get (v := .int (iI va)) (ci := 2) (C := RX2) (T := TX2) (N := 6) hx hb hts imX2_takeSign_X2 hown hK hP 0 rfl rfl 3 (by decide) k1 (fun _ h9 => h9) rfl dX2_takeSign_42 ?_
        refine va_put (v := .int (iI va)) (ty := .int) (ci := 2) (C := RX2) (T := TX2) (N := 6) hx hb hts imX2_takeSign_X2 tyX2 tyX2_ok nmX2 hown hK hP hD hS 0 rfl rfl 1 (by decide) k2 (fun _ h9 => h9) rfl (tyX2_ok 1 (by decide)) rfl rfl (Nat.le_of_ble_eq_true rfl) dX2_takeSign_45 (fun H locs hP hD hS => ?_)
        have hP : va_P G.1 vwCl (W2 G a0 kd va hd va le mo) H := hP
        have hD : va_D A (W2 G a0 kd va hd va le mo) := hD
        refine lv_aload_n hx hb dX2_takeSign_48 rfl (lv_at hl 0 rfl) ?_
        refine lv_iconst (v := iI 2) hx hb dX2_takeSign_49 rfl ?_
        refine lv_aload_n hx hb dX2_takeSign_50 rfl (lv_at hl 0 rfl) ?_
        refine va_get (v := .int (iI va)) (ci := 2) (C := RX2) (T := TX2) (N := 6) hx hb hts imX2_takeSign_X2 hown hK hP 0 rfl rfl 3 (by decide) k1 (fun _ h9 => h9) rfl dX2_takeSign_51 ?_
        refine lv_iconst (v := iI 1) hx hb dX2_takeSign_54 rfl ?_
        refine zr_iadd (x := va) (y := 1) hx hb dX2_takeSign_55 ?_
        obtain ⟨r15, h16⟩ := h14
        refine lv_sipush (v := iI 999) hx hb dX2_takeSign_56 (by decide) ?_
        refine zc_vv (As := [.int (iI 2), .int (iI (va + 1)), .int (iI 999)]) (rest := []) (w2 := fun u_22 => W2 G a0 (2 : Int) va 0 0 (va + 1) (999 : Int)) (c_X2_beginNumber l G a0 kd va hd va le mo 2 (va + 1) 999 r_kd r_va r_hd r_va r_le r_mo rg_2 r15 rg_999) ⟨hx, hb, hml, hown, hts⟩ (cwV 3 hts gX2_takeSign_X2_beginNumber rfl rfl rfl hdX2_beginNumber ⟨Nat.le_of_ble_eq_true rfl, Nat.le_of_ble_eq_true rfl⟩) hK hP hD hS hA (q0 := 0) rfl rfl [0] [] [0] rfl rfl rfl rfl (by decide) (fun _ => rfl) rfl rfl hl.1 rfl (Nat.le_of_ble_eq_true rfl) dX2_takeSign_59 ⟨Nat.zero_le _, Nat.zero_le _⟩ (fun u_22 H locs hw hP hD hS => ?_)
        obtain ⟨r17, r18, r19, r20, r21⟩ := hw
        have hP : va_P G.1 vwCl (W2 G a0 (2 : Int) va 0 0 (va + 1) (999 : Int)) H := hP
        have hD : va_D A (W2 G a0 (2 : Int) va 0 0 (va + 1) (999 : Int)) := hD
        refine lv_iconst (v := iI 1) hx hb dX2_takeSign_62 rfl ?_
        exact zr_zret (z := 1) hx hb hr hlocks hK (Or.inr rfl) (((2 : Int), va, 0, 0, (va + 1), (999 : Int))) hP hD hS dX2_takeSign_63 ⟨rg_1, r17, r_va, r18, r19, r20, r21, h16⟩
  · have h24 := hwp.1 c1
    refine lv_aload_n hx hb dX2_takeSign_6 rfl (lv_at hl 0 rfl) ?_
    refine lv_aload_n hx hb dX2_takeSign_7 rfl (lv_at hl 0 rfl) ?_
    refine va_get (v := .int (iI va)) (ci := 2) (C := RX2) (T := TX2) (N := 6) hx hb hts imX2_takeSign_X2 hown hK hP 0 rfl rfl 3 (by decide) k1 (fun _ h9 => h9) rfl dX2_takeSign_8 ?_
    refine va_put (v := .int (iI va)) (ty := .int) (ci := 2) (C := RX2) (T := TX2) (N := 6) hx hb hts imX2_takeSign_X2 tyX2 tyX2_ok nmX2 hown hK hP hD hS 0 rfl rfl 1 (by decide) k2 (fun _ h9 => h9) rfl (tyX2_ok 1 (by decide)) rfl rfl (Nat.le_of_ble_eq_true rfl) dX2_takeSign_11 (fun H locs hP hD hS => ?_)
    have hP : va_P G.1 vwCl (W2 G a0 kd va hd va le mo) H := hP
    have hD : va_D A (W2 G a0 kd va hd va le mo) := hD
    refine lv_aload_n hx hb dX2_takeSign_14 rfl (lv_at hl 0 rfl) ?_
    refine lv_iconst (v := iI 1) hx hb dX2_takeSign_15 rfl ?_
    refine lv_iconst (v := iI 2) hx hb dX2_takeSign_16 rfl ?_
    refine lv_bipush (v := iI 20) hx hb dX2_takeSign_17 (by decide) ?_
    refine zc_vv (As := [.int (iI 1), .int (iI 2), .int (iI 20)]) (rest := []) (w2 := fun u_30 => W2 G a0 (1 : Int) va 0 0 (2 : Int) (20 : Int)) (c_X2_beginNumber l G a0 kd va hd va le mo 1 2 20 r_kd r_va r_hd r_va r_le r_mo rg_1 rg_2 rg_20) ⟨hx, hb, hml, hown, hts⟩ (cwV 3 hts gX2_takeSign_X2_beginNumber rfl rfl rfl hdX2_beginNumber ⟨Nat.le_of_ble_eq_true rfl, Nat.le_of_ble_eq_true rfl⟩) hK hP hD hS hA (q0 := 0) rfl rfl [0] [] [0] rfl rfl rfl rfl (by decide) (fun _ => rfl) rfl rfl hl.1 rfl (Nat.le_of_ble_eq_true rfl) dX2_takeSign_19 ⟨Nat.zero_le _, Nat.zero_le _⟩ (fun u_30 H locs hw hP hD hS => ?_)
    obtain ⟨r25, r26, r27, r28, r29⟩ := hw
    have hP : va_P G.1 vwCl (W2 G a0 (1 : Int) va 0 0 (2 : Int) (20 : Int)) H := hP
    have hD : va_D A (W2 G a0 (1 : Int) va 0 0 (2 : Int) (20 : Int)) := hD
    refine lv_iconst (v := iI 1) hx hb dX2_takeSign_22 rfl ?_
    exact zr_zret (z := 1) hx hb hr hlocks hK (Or.inr rfl) (((1 : Int), va, 0, 0, (2 : Int), (20 : Int))) hP hD hS dX2_takeSign_23 ⟨rg_1, r25, r_va, r26, r27, r28, r29, h24⟩
theorem c_X2_takeSign (l : Launch) (G : ZG) (a0 : Nat) (kd : Int) (fk : Int) (hd : Int) (va : Int) (le : Int) (mo : Int) (code : Int)  (r_kd : rg kd) (r_fk : rg fk) (r_hd : rg hd) (r_va : rg va) (r_le : rg le) (r_mo : rg mo) (r_code : rg code) (p0 : 0 ≤ va ∧ va ≤ 999) : ZI l G yX2_takeSign wsX2_takeSign 1 23 [.ref a0, .int (iI code)] (W2 G a0 kd fk hd va le mo) (fun u : Int × Int × Int × Int × Int × Int => W2 G a0 u.1 u.2.1 u.2.2.1 u.2.2.2.1 u.2.2.2.2.1 u.2.2.2.2.2) (fun (zq : Int) (u : Int × Int × Int × Int × Int × Int) => rg zq ∧ rg u.1 ∧ rg u.2.1 ∧ rg u.2.2.1 ∧ rg u.2.2.2.1 ∧ rg u.2.2.2.2.1 ∧ rg u.2.2.2.2.2 ∧ ((zq = 1 ∧ code = 120 ∧ u.1 = 1 ∧ u.2.1 = va ∧ u.2.2.1 = 0 ∧ u.2.2.2.1 = 0 ∧ u.2.2.2.2.1 = 2 ∧ u.2.2.2.2.2 = 20) ∨ (zq = 1 ∧ code = 45 ∧ va < 999 ∧ u.1 = 2 ∧ u.2.1 = va ∧ u.2.2.1 = 0 ∧ u.2.2.2.1 = 0 ∧ u.2.2.2.2.1 = va + 1 ∧ u.2.2.2.2.2 = 999) ∨ (zq = 0 ∧ ¬ (code = 120 ∨ (code = 45 ∧ va < 999)) ∧ u.1 = kd ∧ u.2.1 = fk ∧ u.2.2.1 = hd ∧ u.2.2.2.1 = va ∧ u.2.2.2.2.1 = le ∧ u.2.2.2.2.2 = mo))) :=
  c0_X2_takeSign l G a0 kd fk hd va le mo code (fun r kd' fk' hd' va' le' mo' => (r = 1 ∧ code = 120 ∧ kd' = 1 ∧ fk' = va ∧ hd' = 0 ∧ va' = 0 ∧ le' = 2 ∧ mo' = 20) ∨ (r = 1 ∧ code = 45 ∧ va < 999 ∧ kd' = 2 ∧ fk' = va ∧ hd' = 0 ∧ va' = 0 ∧ le' = va + 1 ∧ mo' = 999) ∨ (r = 0 ∧ ¬ (code = 120 ∨ (code = 45 ∧ va < 999)) ∧ kd' = kd ∧ fk' = fk ∧ hd' = hd ∧ va' = va ∧ le' = le ∧ mo' = mo)) r_kd r_fk r_hd r_va r_le r_mo r_code (sp_X2_takeSign kd fk hd va le mo code  r_kd r_fk r_hd r_va r_le r_mo r_code p0)
theorem imX2_take_X2 : ∀ w ∈ wsX20, w ∈ wsX2_take := fun _ h => (List.mem_cons_of_mem _ (List.mem_append_right _ h))
theorem hdX2_take : yX2_take.cls = RX2 ∧ yX2_take.cls ≠ "java/lang/invoke/MethodHandle" ∧ yX2_take.cls ≠ "java/lang/invoke/VarHandle" ∧ (parseMethodDescriptor yX2_take.desc).map (fun d => d.parameters.length) = some 1 := by decide +kernel
set_option maxRecDepth 100000 in
set_option maxHeartbeats 4000000 in
theorem c0_X2_take (l : Launch) (G : ZG) (a0 : Nat) (kd : Int) (fk : Int) (hd : Int) (va : Int) (le : Int) (mo : Int) (code : Int) (P : Int → Int → Int → Int → Int → Int → Int → Prop) (r_kd : rg kd) (r_fk : rg fk) (r_hd : rg hd) (r_va : rg va) (r_le : rg le) (r_mo : rg mo) (r_code : rg code) (hwp : wp_X2_take kd fk hd va le mo code P) : ZI l G yX2_take wsX2_take 3 65 [.ref a0, .int (iI code)] (W2 G a0 kd fk hd va le mo) (fun u : Int × Int × Int × Int × Int × Int => W2 G a0 u.1 u.2.1 u.2.2.1 u.2.2.2.1 u.2.2.2.2.1 u.2.2.2.2.2) (fun (z : Int) (u : Int × Int × Int × Int × Int × Int) => rg z ∧ rg u.1 ∧ rg u.2.1 ∧ rg u.2.2.1 ∧ rg u.2.2.2.1 ∧ rg u.2.2.2.2.1 ∧ rg u.2.2.2.2.2 ∧ P z u.1 u.2.1 u.2.2.1 u.2.2.2.1 u.2.2.2.2.1 u.2.2.2.2.2) := by
  unfold wp_X2_take at hwp
  refine zm_i (cc := cX2_take) (maxL := 2) (ret := some .boolean) (own := RX2) (lvs := [(0, .ref a0), (1, .int (iI code))]) (by decide) rfl rfl (Nat.le_of_ble_eq_true rfl) rfl ?_
  intro p e sT m args below meth c ls A hx hb hr hml hown hts hlocks hK hP hD hS hA hl
  have k1 := hts (.fieldLink RX2 15 "GrantedSort$ItemReader" "kind" "I") (List.mem_of_getElem? (i := 1) rfl)
  refine lv_iload_n hx hb dX2_take_0 rfl (lv_at hl 1 rfl) ?_
  refine lv_bipush (v := iI 48) hx hb dX2_take_1 (by decide) ?_
  refine zr_icmp_lt (tgt := 21) (x := code) (y := 48) hx hb r_code rg_48 dX2_take_3 (by decide) (fun c1 => ?_) (fun c1 => ?_)
  · have h4 := hwp.1 c1
    refine lv_aload_n hx hb dX2_take_21 rfl (lv_at hl 0 rfl) ?_
    obtain ⟨b5, h6⟩ := h4
    refine zc_vi (As := []) (rest := []) (w2 := fun u_7 => W2 G a0 kd fk hd va le mo) (c_X2_isWhole l G a0 kd fk hd va le mo r_kd r_fk r_hd r_va r_le r_mo b5) ⟨hx, hb, hml, hown, hts⟩ (cwV 0 hts gX2_take_X2_isWhole rfl rfl rfl hdX2_isWhole ⟨Nat.le_of_ble_eq_true rfl, Nat.le_of_ble_eq_true rfl⟩) hK hP hD hS hA (q0 := 0) rfl rfl [0] [] [0] rfl rfl rfl rfl (by decide) (fun _ => rfl) rfl rfl hl.1 rfl (Nat.le_of_ble_eq_true rfl) dX2_take_22 ⟨Nat.zero_le _, Nat.zero_le _⟩ (fun z8 u_7 H locs hw hP hD hS => ?_)
    obtain ⟨rfl, r9⟩ := hw
    have hP : va_P G.1 vwCl (W2 G a0 kd fk hd va le mo) H := hP
    have hD : va_D A (W2 G a0 kd fk hd va le mo) := hD
    refine zr_ifB_ne (tgt := 30)  hx hb dX2_take_25 (by decide) (fun c10 => ?_) (fun c10 => ?_)
    · have h13 := h6.1 c10
      refine lv_iload_n hx hb dX2_take_30 rfl (lv_at hl 1 rfl) ?_
      refine lv_bipush (v := iI 44) hx hb dX2_take_31 (by decide) ?_
      refine zr_icmp_ne (tgt := 42) (x := code) (y := 44) hx hb r_code rg_44 dX2_take_33 (by decide) (fun c14 => ?_) (fun c14 => ?_)
      · have h17 := h13.2 c14
        refine lv_aload_n hx hb dX2_take_42 rfl (lv_at hl 0 rfl) ?_
        refine va_get (v := .int (iI kd)) (ci := 2) (C := RX2) (T := TX2) (N := 6) hx hb hts imX2_take_X2 hown hK hP 0 rfl rfl 0 (by decide) k1 (fun _ h9 => h9) rfl dX2_take_43 ?_
        refine zr_if_eq (tgt := 51) (x := kd) hx hb r_kd dX2_take_46 (by decide) (fun c18 => ?_) (fun c18 => ?_)
        · have h21 := h17.1 c18
          refine lv_aload_n hx hb dX2_take_51 rfl (lv_at hl 0 rfl) ?_
          refine lv_iload_n hx hb dX2_take_52 rfl (lv_at hl 1 rfl) ?_
          obtain ⟨b22, h23⟩ := h21
          refine zc_vi (As := [.int (iI code)]) (rest := []) (w2 := fun u_30 => W2 G a0 u_30.1 u_30.2.1 u_30.2.2.1 u_30.2.2.2.1 u_30.2.2.2.2.1 u_30.2.2.2.2.2) (c_X2_takeSign l G a0 kd fk hd va le mo code r_kd r_fk r_hd r_va r_le r_mo r_code b22) ⟨hx, hb, hml, hown, hts⟩ (cwV 1 hts gX2_take_X2_takeSign rfl rfl rfl hdX2_takeSign ⟨Nat.le_of_ble_eq_true rfl, Nat.le_of_ble_eq_true rfl⟩) hK hP hD hS hA (q0 := 0) rfl rfl [0] [] [0] rfl rfl rfl rfl (by decide) (fun _ => rfl) rfl rfl hl.1 rfl (Nat.le_of_ble_eq_true rfl) dX2_take_53 ⟨Nat.zero_le _, Nat.zero_le _⟩ (fun z31 u_30 H locs hw hP hD hS => ?_)
          obtain ⟨u_kd24, u_fk25, u_hd26, u_va27, u_le28, u_mo29⟩ := u_30
          obtain ⟨r33, ru_kd24, ru_fk25, ru_hd26, ru_va27, ru_le28, ru_mo29, h32⟩ := hw
          have h34 := h23 z31 u_kd24 u_fk25 u_hd26 u_va27 u_le28 u_mo29 r33 ru_kd24 ru_fk25 ru_hd26 ru_va27 ru_le28 ru_mo29 h32
          have hP : va_P G.1 vwCl (W2 G a0 u_kd24 u_fk25 u_hd26 u_va27 u_le28 u_mo29) H := hP
          have hD : va_D A (W2 G a0 u_kd24 u_fk25 u_hd26 u_va27 u_le28 u_mo29) := hD
          obtain ⟨b35, h36⟩ := h34
          exact zr_zret (z := z31) hx hb hr hlocks hK b35 ((u_kd24, u_fk25, u_hd26, u_va27, u_le28, u_mo29)) hP hD hS dX2_take_56 ⟨r33, ru_kd24, ru_fk25, ru_hd26, ru_va27, ru_le28, ru_mo29, h36⟩
        · have h37 := h17.2 c18
          refine lv_iconst (v := iI 0) hx hb dX2_take_49 rfl ?_
          exact zr_zret (z := 0) hx hb hr hlocks hK (Or.inl rfl) ((kd, fk, hd, va, le, mo)) hP hD hS dX2_take_50 ⟨rg_0, r_kd, r_fk, r_hd, r_va, r_le, r_mo, h37⟩
      · have h38 := h13.1 c14
        refine lv_aload_n hx hb dX2_take_36 rfl (lv_at hl 0 rfl) ?_
        refine zc_vv (As := []) (rest := []) (w2 := fun u_44 => W2 G a0 0 fk 0 0 0 999) (c_X2_beginItem l G a0 kd fk hd va le mo r_kd r_fk r_hd r_va r_le r_mo) ⟨hx, hb, hml, hown, hts⟩ (cwV 0 hts gX2_take_X2_beginItem rfl rfl rfl hdX2_beginItem ⟨Nat.le_of_ble_eq_true rfl, Nat.le_of_ble_eq_true rfl⟩) hK hP hD hS hA (q0 := 0) rfl rfl [0] [] [0] rfl rfl rfl rfl (by decide) (fun _ => rfl) rfl rfl hl.1 rfl (Nat.le_of_ble_eq_true rfl) dX2_take_37 ⟨Nat.zero_le _, Nat.zero_le _⟩ (fun u_44 H locs hw hP hD hS => ?_)
        obtain ⟨r39, r40, r41, r42, r43⟩ := hw
        have hP : va_P G.1 vwCl (W2 G a0 0 fk 0 0 0 999) H := hP
        have hD : va_D A (W2 G a0 0 fk 0 0 0 999) := hD
        refine lv_iconst (v := iI 1) hx hb dX2_take_40 rfl ?_
        exact zr_zret (z := 1) hx hb hr hlocks hK (Or.inr rfl) ((0, fk, 0, 0, 0, 999)) hP hD hS dX2_take_41 ⟨rg_1, r39, r_fk, r40, r41, r42, r43, h38⟩
    · have h46 := h6.2 c10
      refine lv_iconst (v := iI 0) hx hb dX2_take_28 rfl ?_
      exact zr_zret (z := 0) hx hb hr hlocks hK (Or.inl rfl) ((kd, fk, hd, va, le, mo)) hP hD hS dX2_take_29 ⟨rg_0, r_kd, r_fk, r_hd, r_va, r_le, r_mo, h46⟩
  · have h47 := hwp.2 c1
    refine lv_iload_n hx hb dX2_take_6 rfl (lv_at hl 1 rfl) ?_
    refine lv_bipush (v := iI 57) hx hb dX2_take_7 (by decide) ?_
    refine zr_icmp_gt (tgt := 21) (x := code) (y := 57) hx hb r_code rg_57 dX2_take_9 (by decide) (fun c48 => ?_) (fun c48 => ?_)
    · have h51 := h47.1 c48
      refine lv_aload_n hx hb dX2_take_21 rfl (lv_at hl 0 rfl) ?_
      obtain ⟨b52, h53⟩ := h51
      refine zc_vi (As := []) (rest := []) (w2 := fun u_54 => W2 G a0 kd fk hd va le mo) (c_X2_isWhole l G a0 kd fk hd va le mo r_kd r_fk r_hd r_va r_le r_mo b52) ⟨hx, hb, hml, hown, hts⟩ (cwV 0 hts gX2_take_X2_isWhole rfl rfl rfl hdX2_isWhole ⟨Nat.le_of_ble_eq_true rfl, Nat.le_of_ble_eq_true rfl⟩) hK hP hD hS hA (q0 := 0) rfl rfl [0] [] [0] rfl rfl rfl rfl (by decide) (fun _ => rfl) rfl rfl hl.1 rfl (Nat.le_of_ble_eq_true rfl) dX2_take_22 ⟨Nat.zero_le _, Nat.zero_le _⟩ (fun z55 u_54 H locs hw hP hD hS => ?_)
      obtain ⟨rfl, r56⟩ := hw
      have hP : va_P G.1 vwCl (W2 G a0 kd fk hd va le mo) H := hP
      have hD : va_D A (W2 G a0 kd fk hd va le mo) := hD
      refine zr_ifB_ne (tgt := 30)  hx hb dX2_take_25 (by decide) (fun c57 => ?_) (fun c57 => ?_)
      · have h60 := h53.1 c57
        refine lv_iload_n hx hb dX2_take_30 rfl (lv_at hl 1 rfl) ?_
        refine lv_bipush (v := iI 44) hx hb dX2_take_31 (by decide) ?_
        refine zr_icmp_ne (tgt := 42) (x := code) (y := 44) hx hb r_code rg_44 dX2_take_33 (by decide) (fun c61 => ?_) (fun c61 => ?_)
        · have h64 := h60.2 c61
          refine lv_aload_n hx hb dX2_take_42 rfl (lv_at hl 0 rfl) ?_
          refine va_get (v := .int (iI kd)) (ci := 2) (C := RX2) (T := TX2) (N := 6) hx hb hts imX2_take_X2 hown hK hP 0 rfl rfl 0 (by decide) k1 (fun _ h9 => h9) rfl dX2_take_43 ?_
          refine zr_if_eq (tgt := 51) (x := kd) hx hb r_kd dX2_take_46 (by decide) (fun c65 => ?_) (fun c65 => ?_)
          · have h68 := h64.1 c65
            refine lv_aload_n hx hb dX2_take_51 rfl (lv_at hl 0 rfl) ?_
            refine lv_iload_n hx hb dX2_take_52 rfl (lv_at hl 1 rfl) ?_
            obtain ⟨b69, h70⟩ := h68
            refine zc_vi (As := [.int (iI code)]) (rest := []) (w2 := fun u_77 => W2 G a0 u_77.1 u_77.2.1 u_77.2.2.1 u_77.2.2.2.1 u_77.2.2.2.2.1 u_77.2.2.2.2.2) (c_X2_takeSign l G a0 kd fk hd va le mo code r_kd r_fk r_hd r_va r_le r_mo r_code b69) ⟨hx, hb, hml, hown, hts⟩ (cwV 1 hts gX2_take_X2_takeSign rfl rfl rfl hdX2_takeSign ⟨Nat.le_of_ble_eq_true rfl, Nat.le_of_ble_eq_true rfl⟩) hK hP hD hS hA (q0 := 0) rfl rfl [0] [] [0] rfl rfl rfl rfl (by decide) (fun _ => rfl) rfl rfl hl.1 rfl (Nat.le_of_ble_eq_true rfl) dX2_take_53 ⟨Nat.zero_le _, Nat.zero_le _⟩ (fun z78 u_77 H locs hw hP hD hS => ?_)
            obtain ⟨u_kd71, u_fk72, u_hd73, u_va74, u_le75, u_mo76⟩ := u_77
            obtain ⟨r80, ru_kd71, ru_fk72, ru_hd73, ru_va74, ru_le75, ru_mo76, h79⟩ := hw
            have h81 := h70 z78 u_kd71 u_fk72 u_hd73 u_va74 u_le75 u_mo76 r80 ru_kd71 ru_fk72 ru_hd73 ru_va74 ru_le75 ru_mo76 h79
            have hP : va_P G.1 vwCl (W2 G a0 u_kd71 u_fk72 u_hd73 u_va74 u_le75 u_mo76) H := hP
            have hD : va_D A (W2 G a0 u_kd71 u_fk72 u_hd73 u_va74 u_le75 u_mo76) := hD
            obtain ⟨b82, h83⟩ := h81
            exact zr_zret (z := z78) hx hb hr hlocks hK b82 ((u_kd71, u_fk72, u_hd73, u_va74, u_le75, u_mo76)) hP hD hS dX2_take_56 ⟨r80, ru_kd71, ru_fk72, ru_hd73, ru_va74, ru_le75, ru_mo76, h83⟩
          · have h84 := h64.2 c65
            refine lv_iconst (v := iI 0) hx hb dX2_take_49 rfl ?_
            exact zr_zret (z := 0) hx hb hr hlocks hK (Or.inl rfl) ((kd, fk, hd, va, le, mo)) hP hD hS dX2_take_50 ⟨rg_0, r_kd, r_fk, r_hd, r_va, r_le, r_mo, h84⟩
        · have h85 := h60.1 c61
          refine lv_aload_n hx hb dX2_take_36 rfl (lv_at hl 0 rfl) ?_
          refine zc_vv (As := []) (rest := []) (w2 := fun u_91 => W2 G a0 0 fk 0 0 0 999) (c_X2_beginItem l G a0 kd fk hd va le mo r_kd r_fk r_hd r_va r_le r_mo) ⟨hx, hb, hml, hown, hts⟩ (cwV 0 hts gX2_take_X2_beginItem rfl rfl rfl hdX2_beginItem ⟨Nat.le_of_ble_eq_true rfl, Nat.le_of_ble_eq_true rfl⟩) hK hP hD hS hA (q0 := 0) rfl rfl [0] [] [0] rfl rfl rfl rfl (by decide) (fun _ => rfl) rfl rfl hl.1 rfl (Nat.le_of_ble_eq_true rfl) dX2_take_37 ⟨Nat.zero_le _, Nat.zero_le _⟩ (fun u_91 H locs hw hP hD hS => ?_)
          obtain ⟨r86, r87, r88, r89, r90⟩ := hw
          have hP : va_P G.1 vwCl (W2 G a0 0 fk 0 0 0 999) H := hP
          have hD : va_D A (W2 G a0 0 fk 0 0 0 999) := hD
          refine lv_iconst (v := iI 1) hx hb dX2_take_40 rfl ?_
          exact zr_zret (z := 1) hx hb hr hlocks hK (Or.inr rfl) ((0, fk, 0, 0, 0, 999)) hP hD hS dX2_take_41 ⟨rg_1, r86, r_fk, r87, r88, r89, r90, h85⟩
      · have h93 := h53.2 c57
        refine lv_iconst (v := iI 0) hx hb dX2_take_28 rfl ?_
        exact zr_zret (z := 0) hx hb hr hlocks hK (Or.inl rfl) ((kd, fk, hd, va, le, mo)) hP hD hS dX2_take_29 ⟨rg_0, r_kd, r_fk, r_hd, r_va, r_le, r_mo, h93⟩
    · have h94 := h47.2 c48
      refine lv_aload_n hx hb dX2_take_12 rfl (lv_at hl 0 rfl) ?_
      refine lv_iload_n hx hb dX2_take_13 rfl (lv_at hl 1 rfl) ?_
      refine lv_bipush (v := iI 48) hx hb dX2_take_14 (by decide) ?_
      refine zr_isub (x := code) (y := 48) hx hb dX2_take_16 ?_
      obtain ⟨r95, h96⟩ := h94
      obtain ⟨b97, h98⟩ := h96
      obtain ⟨b99, h100⟩ := h98
      refine zc_vi (As := [.int (iI (code - 48))]) (rest := []) (w2 := fun u_103 => W2 G a0 kd fk u_103.1 u_103.2 le mo) (c_X2_takeDigit l G a0 kd fk hd va le mo (code - 48) r_kd r_fk r_hd r_va r_le r_mo r95 b97 b99) ⟨hx, hb, hml, hown, hts⟩ (cwV 1 hts gX2_take_X2_takeDigit rfl rfl rfl hdX2_takeDigit ⟨Nat.le_of_ble_eq_true rfl, Nat.le_of_ble_eq_true rfl⟩) hK hP hD hS hA (q0 := 0) rfl rfl [0] [] [0] rfl rfl rfl rfl (by decide) (fun _ => rfl) rfl rfl hl.1 rfl (Nat.le_of_ble_eq_true rfl) dX2_take_17 ⟨Nat.zero_le _, Nat.zero_le _⟩ (fun z104 u_103 H locs hw hP hD hS => ?_)
      obtain ⟨u_hd101, u_va102⟩ := u_103
      obtain ⟨r106, ru_hd101, ru_va102, h105⟩ := hw
      have h107 := h100 z104 u_hd101 u_va102 r106 ru_hd101 ru_va102 h105
      have hP : va_P G.1 vwCl (W2 G a0 kd fk u_hd101 u_va102 le mo) H := hP
      have hD : va_D A (W2 G a0 kd fk u_hd101 u_va102 le mo) := hD
      obtain ⟨b108, h109⟩ := h107
      exact zr_zret (z := z104) hx hb hr hlocks hK b108 ((kd, fk, u_hd101, u_va102, le, mo)) hP hD hS dX2_take_20 ⟨r106, r_kd, r_fk, ru_hd101, ru_va102, r_le, r_mo, h109⟩
theorem c_X2_take (l : Launch) (G : ZG) (a0 : Nat) (kd : Int) (fk : Int) (hd : Int) (va : Int) (le : Int) (mo : Int) (code : Int) (a : AT) (r_kd : rg kd) (r_fk : rg fk) (r_hd : rg hd) (r_va : rg va) (r_le : rg le) (r_mo : rg mo) (r_code : rg code) (p0 : RA kd fk hd va le mo a) (p1 : 0 ≤ va ∧ va ≤ 999) : ZI l G yX2_take wsX2_take 3 65 [.ref a0, .int (iI code)] (W2 G a0 kd fk hd va le mo) (fun u : Int × Int × Int × Int × Int × Int => W2 G a0 u.1 u.2.1 u.2.2.1 u.2.2.2.1 u.2.2.2.2.1 u.2.2.2.2.2) (fun (zq : Int) (u : Int × Int × Int × Int × Int × Int) => rg zq ∧ rg u.1 ∧ rg u.2.1 ∧ rg u.2.2.1 ∧ rg u.2.2.2.1 ∧ rg u.2.2.2.2.1 ∧ rg u.2.2.2.2.2 ∧ ((zq = 1 ∧ accA a code ∧ RA u.1 u.2.1 u.2.2.1 u.2.2.2.1 u.2.2.2.2.1 u.2.2.2.2.2 (nxA a code)) ∨ (zq = 0 ∧ ¬ accA a code ∧ RA u.1 u.2.1 u.2.2.1 u.2.2.2.1 u.2.2.2.2.1 u.2.2.2.2.2 a))) :=
  c0_X2_take l G a0 kd fk hd va le mo code (fun r kd' fk' hd' va' le' mo' => (r = 1 ∧ accA a code ∧ RA kd' fk' hd' va' le' mo' (nxA a code)) ∨ (r = 0 ∧ ¬ accA a code ∧ RA kd' fk' hd' va' le' mo' a)) r_kd r_fk r_hd r_va r_le r_mo r_code (sp_X2_take kd fk hd va le mo code a r_kd r_fk r_hd r_va r_le r_mo r_code p0 p1)
theorem imX2_rowsOfItem_X2 : ∀ w ∈ wsX20, w ∈ wsX2_rowsOfItem := fun _ h => (List.mem_cons_of_mem _ (List.mem_append_right _ h))
theorem hdX2_rowsOfItem : yX2_rowsOfItem.cls = RX2 ∧ yX2_rowsOfItem.cls ≠ "java/lang/invoke/MethodHandle" ∧ yX2_rowsOfItem.cls ≠ "java/lang/invoke/VarHandle" ∧ (parseMethodDescriptor yX2_rowsOfItem.desc).map (fun d => d.parameters.length) = some 0 := by decide +kernel
set_option maxRecDepth 100000 in
set_option maxHeartbeats 4000000 in
theorem c0_X2_rowsOfItem (l : Launch) (G : ZG) (a0 : Nat) (kd : Int) (fk : Int) (hd : Int) (va : Int) (le : Int) (mo : Int)  (P : Int → Prop) (r_kd : rg kd) (r_fk : rg fk) (r_hd : rg hd) (r_va : rg va) (r_le : rg le) (r_mo : rg mo)  (hwp : wp_X2_rowsOfItem kd fk hd va le mo P) : ZI l G yX2_rowsOfItem wsX2_rowsOfItem 0 0 [.ref a0] (W2 G a0 kd fk hd va le mo) (fun u : Unit => W2 G a0 kd fk hd va le mo) (fun (z : Int) (u : Unit) => rg z ∧ P z) := by
  unfold wp_X2_rowsOfItem at hwp
  refine zm_i (cc := cX2_rowsOfItem) (maxL := 1) (ret := some .int) (own := RX2) (lvs := [(0, .ref a0)]) (by decide) rfl rfl (Nat.le_of_ble_eq_true rfl) rfl ?_
  intro p e sT m args below meth c ls A hx hb hr hml hown hts hlocks hK hP hD hS hA hl
  have k1 := hts (.fieldLink RX2 15 "GrantedSort$ItemReader" "kind" "I") (List.mem_of_getElem? (i := 1) rfl)
  have k2 := hts (.fieldLink RX2 23 "GrantedSort$ItemReader" "value" "I") (List.mem_of_getElem? (i := 2) rfl)
  have k3 := hts (.fieldLink RX2 53 "GrantedSort$ItemReader" "firstKey" "I") (List.mem_of_getElem? (i := 3) rfl)
  refine lv_aload_n hx hb dX2_rowsOfItem_0 rfl (lv_at hl 0 rfl) ?_
  refine va_get (v := .int (iI kd)) (ci := 2) (C := RX2) (T := TX2) (N := 6) hx hb hts imX2_rowsOfItem_X2 hown hK hP 0 rfl rfl 0 (by decide) k1 (fun _ h9 => h9) rfl dX2_rowsOfItem_1 ?_
  rcases (show kd = 1 ∨ kd = 2 ∨ (¬ kd = 1 ∧ ¬ kd = 2) by omega) with c1 | c1 | c1
  · have h2 := hwp.1 c1
    refine lv_lookup (tgt := 32) hx hb dX2_rowsOfItem_4 rfl (by rw [iI_toInt r_kd, c1]; (try rfl)) (by decide) ?_
    refine lv_aload_n hx hb dX2_rowsOfItem_32 rfl (lv_at hl 0 rfl) ?_
    refine va_get (v := .int (iI va)) (ci := 2) (C := RX2) (T := TX2) (N := 6) hx hb hts imX2_rowsOfItem_X2 hown hK hP 0 rfl rfl 3 (by decide) k2 (fun _ h9 => h9) rfl dX2_rowsOfItem_33 ?_
    exact zr_iret (z := va) hx hb hr hlocks hK () hP hD hS dX2_rowsOfItem_36 ⟨r_va, h2⟩
  · have h3 := hwp.2.1 c1
    refine lv_lookup (tgt := 37) hx hb dX2_rowsOfItem_4 rfl (by rw [iI_toInt r_kd, c1]; (try rfl)) (by decide) ?_
    refine lv_aload_n hx hb dX2_rowsOfItem_37 rfl (lv_at hl 0 rfl) ?_
    refine va_get (v := .int (iI va)) (ci := 2) (C := RX2) (T := TX2) (N := 6) hx hb hts imX2_rowsOfItem_X2 hown hK hP 0 rfl rfl 3 (by decide) k2 (fun _ h9 => h9) rfl dX2_rowsOfItem_38 ?_
    refine lv_aload_n hx hb dX2_rowsOfItem_41 rfl (lv_at hl 0 rfl) ?_
    refine va_get (v := .int (iI fk)) (ci := 2) (C := RX2) (T := TX2) (N := 6) hx hb hts imX2_rowsOfItem_X2 hown hK hP 0 rfl rfl 1 (by decide) k3 (fun _ h9 => h9) rfl dX2_rowsOfItem_42 ?_
    refine zr_isub (x := va) (y := fk) hx hb dX2_rowsOfItem_45 ?_
    obtain ⟨r4, h5⟩ := h3
    refine lv_iconst (v := iI 1) hx hb dX2_rowsOfItem_46 rfl ?_
    refine zr_iadd (x := va - fk) (y := 1) hx hb dX2_rowsOfItem_47 ?_
    obtain ⟨r6, h7⟩ := h5
    exact zr_iret (z := (va - fk) + 1) hx hb hr hlocks hK () hP hD hS dX2_rowsOfItem_48 ⟨r6, h7⟩
  · have h8 := hwp.2.2 c1
    refine lv_lookup (off := 45) (tgt := 49) hx hb dX2_rowsOfItem_4 rfl (by rw [iI_toInt r_kd]; show (if (1 : Int) = kd then 28 else (if (2 : Int) = kd then 33 else 45)) = 45; rw [if_neg (fun q => c1.1 q.symm), if_neg (fun q => c1.2 q.symm)]) (by decide) ?_
    refine lv_iconst (v := iI 1) hx hb dX2_rowsOfItem_49 rfl ?_
    exact zr_iret (z := 1) hx hb hr hlocks hK () hP hD hS dX2_rowsOfItem_50 ⟨rg_1, h8⟩
theorem c_X2_rowsOfItem (l : Launch) (G : ZG) (a0 : Nat) (kd : Int) (fk : Int) (hd : Int) (va : Int) (le : Int) (mo : Int)   (r_kd : rg kd) (r_fk : rg fk) (r_hd : rg hd) (r_va : rg va) (r_le : rg le) (r_mo : rg mo)  (p0 : -1000 ≤ va ∧ va ≤ 1000 ∧ -1000 ≤ fk ∧ fk ≤ 1000 ∨ kd = 0) : ZI l G yX2_rowsOfItem wsX2_rowsOfItem 0 0 [.ref a0] (W2 G a0 kd fk hd va le mo) (fun _ : Unit => W2 G a0 kd fk hd va le mo) (fun (z : Int) (_ : Unit) => z = (if kd = 1 then va else if kd = 2 then va - fk + 1 else 1) ∧ rg z) := by
  refine ZI.fn (w1 := fun u : Unit => W2 G a0 kd fk hd va le mo) (fun z u hq => ?_) (c0_X2_rowsOfItem l G a0 kd fk hd va le mo (fun z => z = (if kd = 1 then va else if kd = 2 then va - fk + 1 else 1)) r_kd r_fk r_hd r_va r_le r_mo  (sp_X2_rowsOfItem kd fk hd va le mo r_kd r_fk r_hd r_va r_le r_mo  p0))
  obtain ⟨rz, ez⟩ := hq
  exact ⟨rfl, ⟨ez, rz⟩⟩
theorem imX2_keyOfItem_X2 : ∀ w ∈ wsX20, w ∈ wsX2_keyOfItem := fun _ h => (List.mem_cons_of_mem _ (List.mem_append_right _ h))
theorem hdX2_keyOfItem : yX2_keyOfItem.cls = RX2 ∧ yX2_keyOfItem.cls ≠ "java/lang/invoke/MethodHandle" ∧ yX2_keyOfItem.cls ≠ "java/lang/invoke/VarHandle" ∧ (parseMethodDescriptor yX2_keyOfItem.desc).map (fun d => d.parameters.length) = some 1 := by decide +kernel
set_option maxRecDepth 100000 in
set_option maxHeartbeats 4000000 in
theorem c0_X2_keyOfItem (l : Launch) (G : ZG) (a0 : Nat) (kd : Int) (fk : Int) (hd : Int) (va : Int) (le : Int) (mo : Int) (index : Int) (P : Int → Prop) (r_kd : rg kd) (r_fk : rg fk) (r_hd : rg hd) (r_va : rg va) (r_le : rg le) (r_mo : rg mo) (r_index : rg index) (hwp : wp_X2_keyOfItem kd fk hd va le mo index P) : ZI l G yX2_keyOfItem wsX2_keyOfItem 0 0 [.ref a0, .int (iI index)] (W2 G a0 kd fk hd va le mo) (fun u : Unit => W2 G a0 kd fk hd va le mo) (fun (z : Int) (u : Unit) => rg z ∧ P z) := by
  unfold wp_X2_keyOfItem at hwp
  refine zm_i (cc := cX2_keyOfItem) (maxL := 2) (ret := some .int) (own := RX2) (lvs := [(0, .ref a0), (1, .int (iI index))]) (by decide) rfl rfl (Nat.le_of_ble_eq_true rfl) rfl ?_
  intro p e sT m args below meth c ls A hx hb hr hml hown hts hlocks hK hP hD hS hA hl
  have k1 := hts (.fieldLink RX2 15 "GrantedSort$ItemReader" "kind" "I") (List.mem_of_getElem? (i := 1) rfl)
  have k2 := hts (.fieldLink RX2 53 "GrantedSort$ItemReader" "firstKey" "I") (List.mem_of_getElem? (i := 2) rfl)
  have k3 := hts (.fieldLink RX2 23 "GrantedSort$ItemReader" "value" "I") (List.mem_of_getElem? (i := 3) rfl)
  refine lv_aload_n hx hb dX2_keyOfItem_0 rfl (lv_at hl 0 rfl) ?_
  refine va_get (v := .int (iI kd)) (ci := 2) (C := RX2) (T := TX2) (N := 6) hx hb hts imX2_keyOfItem_X2 hown hK hP 0 rfl rfl 0 (by decide) k1 (fun _ h9 => h9) rfl dX2_keyOfItem_1 ?_
  rcases (show kd = 1 ∨ kd = 2 ∨ (¬ kd = 1 ∧ ¬ kd = 2) by omega) with c1 | c1 | c1
  · have h2 := hwp.1 c1
    refine lv_lookup (tgt := 32) hx hb dX2_keyOfItem_4 rfl (by rw [iI_toInt r_kd, c1]; (try rfl)) (by decide) ?_
    refine lv_aload_n hx hb dX2_keyOfItem_32 rfl (lv_at hl 0 rfl) ?_
    refine va_get (v := .int (iI fk)) (ci := 2) (C := RX2) (T := TX2) (N := 6) hx hb hts imX2_keyOfItem_X2 hown hK hP 0 rfl rfl 1 (by decide) k2 (fun _ h9 => h9) rfl dX2_keyOfItem_33 ?_
    exact zr_iret (z := fk) hx hb hr hlocks hK () hP hD hS dX2_keyOfItem_36 ⟨r_fk, h2⟩
  · have h3 := hwp.2.1 c1
    refine lv_lookup (tgt := 37) hx hb dX2_keyOfItem_4 rfl (by rw [iI_toInt r_kd, c1]; (try rfl)) (by decide) ?_
    refine lv_aload_n hx hb dX2_keyOfItem_37 rfl (lv_at hl 0 rfl) ?_
    refine va_get (v := .int (iI fk)) (ci := 2) (C := RX2) (T := TX2) (N := 6) hx hb hts imX2_keyOfItem_X2 hown hK hP 0 rfl rfl 1 (by decide) k2 (fun _ h9 => h9) rfl dX2_keyOfItem_38 ?_
    refine lv_iload_n hx hb dX2_keyOfItem_41 rfl (lv_at hl 1 rfl) ?_
    refine zr_iadd (x := fk) (y := index) hx hb dX2_keyOfItem_42 ?_
    obtain ⟨r4, h5⟩ := h3
    exact zr_iret (z := fk + index) hx hb hr hlocks hK () hP hD hS dX2_keyOfItem_43 ⟨r4, h5⟩
  · have h6 := hwp.2.2 c1
    refine lv_lookup (off := 40) (tgt := 44) hx hb dX2_keyOfItem_4 rfl (by rw [iI_toInt r_kd]; show (if (1 : Int) = kd then 28 else (if (2 : Int) = kd then 33 else 40)) = 40; rw [if_neg (fun q => c1.1 q.symm), if_neg (fun q => c1.2 q.symm)]) (by decide) ?_
    refine lv_aload_n hx hb dX2_keyOfItem_44 rfl (lv_at hl 0 rfl) ?_
    refine va_get (v := .int (iI va)) (ci := 2) (C := RX2) (T := TX2) (N := 6) hx hb hts imX2_keyOfItem_X2 hown hK hP 0 rfl rfl 3 (by decide) k3 (fun _ h9 => h9) rfl dX2_keyOfItem_45 ?_
    exact zr_iret (z := va) hx hb hr hlocks hK () hP hD hS dX2_keyOfItem_48 ⟨r_va, h6⟩
theorem c_X2_keyOfItem (l : Launch) (G : ZG) (a0 : Nat) (kd : Int) (fk : Int) (hd : Int) (va : Int) (le : Int) (mo : Int) (index : Int)  (r_kd : rg kd) (r_fk : rg fk) (r_hd : rg hd) (r_va : rg va) (r_le : rg le) (r_mo : rg mo) (r_index : rg index) (p0 : rg (fk + index) ∨ ¬ kd = 2) : ZI l G yX2_keyOfItem wsX2_keyOfItem 0 0 [.ref a0, .int (iI index)] (W2 G a0 kd fk hd va le mo) (fun _ : Unit => W2 G a0 kd fk hd va le mo) (fun (z : Int) (_ : Unit) => z = (if kd = 1 then fk else if kd = 2 then fk + index else va) ∧ rg z) := by
  refine ZI.fn (w1 := fun u : Unit => W2 G a0 kd fk hd va le mo) (fun z u hq => ?_) (c0_X2_keyOfItem l G a0 kd fk hd va le mo index (fun z => z = (if kd = 1 then fk else if kd = 2 then fk + index else va)) r_kd r_fk r_hd r_va r_le r_mo r_index (sp_X2_keyOfItem kd fk hd va le mo index r_kd r_fk r_hd r_va r_le r_mo r_index p0))
  obtain ⟨rz, ez⟩ := hq
  exact ⟨rfl, ⟨ez, rz⟩⟩
