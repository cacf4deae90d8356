/-! ===== the history: its layout, and the row of states ===== -/
/-- the addresses of the four states -/
def adS (b0 b1 b2 b3 : Nat → Nat) (k : Int) : Nat := if k = 0 then b0 0 else if k = 1 then b1 0 else if k = 2 then b2 0 else b3 0
def qS (b0 b1 b2 b3 : Nat → Nat) : Nat → Option Nat := fun j => some (adS b0 b1 b2 b3 (j : Int))
def W1h (G : ZG) (h0 h1 : Nat) (b0 b1 b2 b3 : Nat → Nat) (ol tt : Int) : va_W := [(h0, .inr (1, [.ref h1, .int (iI ol), .int (iI tt)])), (h1, .inl (G.2.2.2, 4, .inr (.inr (.inr (.inr (qS b0 b1 b2 b3))))))]
def W1 (G : ZG) (h0 h1 : Nat) (b0 b1 b2 b3 : Nat → Nat) (ol tt : Int) (s0 s1 s2 s3 : SS) : va_W := (h0, .inr (1, [.ref h1, .int (iI ol), .int (iI tt)])) :: (h1, .inl (G.2.2.2, 4, .inr (.inr (.inr (.inr (qS b0 b1 b2 b3)))))) :: (W5 G b0 s0 ++ (W5 G b1 s1 ++ (W5 G b2 s2 ++ W5 G b3 s3)))
def W6 (G : ZG) (x : Nat) (ca fa va : Nat → Nat) (h0 h1 : Nat) (b0 b1 b2 b3 : Nat → Nat) (u0 u1 q0 : Nat) (c f v : SS) (hs ol tt : Int) (s0 s1 s2 s3 : SS) (cs : Int → Int) (ln kd fk hd va' le mo : Int) : va_W := (x, .inr (6, [.ref (ca 0), .ref (fa 0), .ref (va 0), .int (iI hs), .ref h0, .ref u0, .ref q0])) :: (W5 G ca c ++ (W5 G fa f ++ (W5 G va v ++ (W1 G h0 h1 b0 b1 b2 b3 ol tt s0 s1 s2 s3 ++ (W0 G u0 u1 cs ln ++ W2 G q0 kd fk hd va' le mo)))))
/-- a method that answers a reference and changes nothing -/
def ZR (l : Launch) (G : ZG) (y : MethodName) (wsy : List Cond) (fr lo : Nat) (vs : List Value) (wc : va_W) (ra : Nat) : Prop := ∀ sz : Nat, Met l y wsy ({ frames := fr, cells := 0, slots := 0, locals := lo }) (va_Pc vs (fun U => U.heap.size = sz ∧ va_P G.1 vwCl wc U.heap ∧ va_K G.1 vwCl (tz G) U ∧ va_D (fun _ => True) wc)) (va_Qr (fun (_ : Unit) => True) (fun _ a t => a = ra ∧ va_P G.1 vwCl wc t.heap ∧ va_K G.1 vwCl (tz G) t ∧ va_D (va_A wc sz) wc) (va_A wc sz)) 0 0 (va_A wc sz)
abbrev ZQr (G : ZG) (below : List Frame) (args : Array Value) (s : State) (A : Nat → Prop) (wc : va_W) (ra : Nat) : State → Prop := MQ below (va_Qr (fun (_ : Unit) => True) (fun _ a t => a = ra ∧ va_P G.1 vwCl wc t.heap ∧ va_K G.1 vwCl (tz G) t ∧ va_D A wc) A) args s 0 0 A
theorem zm_r {l : Launch} {G : ZG} {y : MethodName} {wsy ws' : List Cond} {fr lo maxL : Nat} {vs : List Value} {wc : va_W} {ra : Nat} {cc : ByteArray} {ret : Option FieldType} {own : String} {lvs : List (Nat × Value)} (hy : plainName y.cls = true) (hw : wsy = Cond.code y cc maxL ret :: ws') (hcl : y.cls = own) (hlen : (lg_sl vs).length ≤ maxL) (hlv : lv_args 0 vs = lvs)
    (body : ∀ (p : Program) (e : Env) (s : State) (m : MethodId) (args : Array Value) (below : List Frame) (meth : Method) (c : Code) (ls : Array Slot) (A : Nat → Prop), p.tables.exec = Jvm.exec → c.code = cc → meth.sig.returnType = ret → c.maxLocals = maxL → s.vm.findClass own = some m.cls → (∀ w ∈ wsy, w.before args s = true) → meth.locks = false → va_K G.1 vwCl (tz G) s → va_P G.1 vwCl wc s.heap → va_D A wc → va_S A s.heap s.heap [] → (∀ q : Nat, s.heap.size ≤ q → A q) → lv_has ls maxL lvs →
      W p l e (headSpec wsy ({ frames := fr, cells := 0, slots := 0, locals := lo })).room s m args below meth c s.heap [] 0 0 (ZQr G below args s A wc ra) (F0 m 0 ls [])) : ZR l G y wsy fr lo vs wc ra := by
  intro sz
  refine Met.ofW (cc := cc) (maxL := maxL) (ret := ret) hy hw ?_
  intro p e s m args below meth c s₁ B hml hv
  obtain ⟨rfl, hsz, hP, hK, hD0⟩ := hv
  subst hsz
  rw [lg_entry_eq]
  have hl := lv_entry vs (n := maxL) hlen
  rw [hlv] at hl
  have hown : s.vm.findClass own = some m.cls := by rw [← hcl]; exact findClass_of_methodNamed B.named
  exact body p e s m _ below meth c _ _ B.exec B.bytes B.returns hml hown (atoms_spec (ws := wsy) B.pre) B.notSynchronized hK hP (hD0.self (sz := s.heap.size)) va_S.rf (fun q h => Or.inr h) hl
section ZRR
variable {p : Program} {l : Launch} {e : Env} {R : Room} {s : State} {m : MethodId} {args : Array Value} {below : List Frame} {meth : Method} {c : Code} {H H0 : Heap} {locs : List Loc} {cells slots : Nat} {Q : State → Prop} {cc : ByteArray} {pc : Nat} {ls : Array Slot} {rest : List Value} {G : ZG} {A : Nat → Prop} {ws : va_W}
variable {nL n index maxL fr lo ci N q0 : Nat} {Ts wsy : List Cond} {own C : String} {y : MethodName} {bytes : ByteArray} {ret : Option FieldType} {wc : va_W} {b ra : Addr} {As : List Value} {w2 : va_W} {T : u_T} {fs st : List Value}
theorem zr_rret {rt : FieldType} (hx : p.tables.exec = Jvm.exec) (hb : c.code = cc) (hr : meth.sig.returnType = some rt) (hrt : (∃ n, rt = .object n) ∨ ∃ t, rt = .array t) (hlocks : meth.locks = false) (hK : va_K G.1 vwCl (tz G) s) (hP : va_P G.1 vwCl wc H) (hD : va_D A wc) (hS : va_S A s.heap H locs) (hdg : decode cc pc = .ok (.areturn, 1)) : W p l e R s m args below meth c H locs 0 0 (ZQr G below args s A wc ra) (F0 m pc ls [.ref ra]) := W.aret hx hb hr hrt (Or.inr ⟨_, rfl⟩) (fun t ht hW => ⟨⟨(), ra, rfl, trivial, rfl, by rw [ht]; exact hP, va_K.moved hW.alike hK, hD⟩, hS.F ht⟩) hS.2.2 hdg hlocks
theorem zc_vr (hM : ZR l G y wsy fr lo (.ref b :: As) wc ra) (F : CallFix p m c cc nL s args Ts own) (cw : CallW R s args own C index y bytes maxL ret wsy ({ frames := fr, cells := 0, slots := 0, locals := lo }) 0 0 n) (hK : va_K G.1 vwCl (tz G) s) (hP : va_P G.1 vwCl ws H) (hD : va_D A ws) (hS : va_S A H0 H locs) (hA : ∀ q : Nat, H0.size ≤ q → A q) (he : ws[q0]? = some (b, .inr (ci, fs))) (hc : vwCl[ci]? = some (C, T, N)) (isC isR perm : List Nat) (hC : isC.map (fun i => ws[i]?) = wc.map some) (hCd : va_nd isC = true) (hR : isR.map (fun i => ws[i]?) = (isR.filterMap (fun i => ws[i]?)).map some) (hn : va_nd isR = true) (hdis : ∀ i ∈ isR, i ∉ isC) (hpm : perm.map (fun i => (isR.filterMap (fun i => ws[i]?) ++ wc)[i]?) = w2.map some) (hpn : va_nd perm = true) (hAs : As.length = n) (hls : ls.size = nL) (hst : st = As.reverse ++ .ref b :: rest) (hW : 2 * 0 + (rest.map fun v => v.category).sum ≤ 8) (hdg : decode cc pc = .ok (.invokevirtual index, 3)) (hf : cells ≤ R.cells ∧ slots ≤ R.slots)
    (kk : ∀ (H1 : Heap) (locs1 : List Loc), va_P G.1 vwCl w2 H1 → va_D A w2 → va_S A H0 H1 locs1 → W p l e R s m args below meth c H1 locs1 cells slots Q (F0 m (pc + 3) ls (.ref ra :: rest))) : W p l e R s m args below meth c H locs cells slots Q (F0 m pc ls st) := by
  have hF := va_free (wc := wc) hD hS hA isC hC
  refine va_callr (va_runV (As := As) (rest := rest) F (hM H.size) cw ⟨zb_v, va_recv hK hP hc he, fun U hU hW => ⟨rfl, by rw [hU], ?_, va_K.moved hW.alike hK, (hD.sub isC hCd hC).weaken (fun _ _ _ _ => trivial)⟩⟩ rfl hAs hls hst hW hdg hf) hS (fun q _ h => hF q h) hF (fun u ra' t H1 locs ht hvm hw hB hz1 hk1 hS => ?_)
  · rw [hU]
    intro k q hk
    have h1 : (isC.map (fun i => ws[i]?))[k]? = some (some q) := by rw [hC, List.getElem?_map, hk]; rfl
    rw [List.getElem?_map] at h1
    cases hi : isC[k]? with
    | none => rw [hi] at h1; cases h1
    | some i => rw [hi] at h1; exact hP i q (Option.some.inj h1)
  · obtain ⟨era, hP1, hK1, hD1⟩ := hB
    rw [era]
    rw [ht] at hP1
    obtain ⟨hPj, hDj⟩ := va_join (wr := isR.filterMap (fun i => ws[i]?)) (w1 := wc) hP hD isC isR hC hR hn hdis hk1 hF hP1 hD1
    exact kk H1 locs (zp_perm perm hpm hPj) (hDj.sub perm hpn hpm) hS
end ZRR
theorem xor_nn {x : Int} (rx : rg x) (h : 0 ≤ x) : ¬ (iI x ^^^ iI 4).toInt < 0 := by
  have e : (iI x ^^^ iI 4).toBitVec.msb = false := by
    rw [Int32.toBitVec_xor, BitVec.msb_xor, BitVec.msb_eq_toInt, BitVec.msb_eq_toInt]
    show (decide ((iI x).toInt < 0) ^^ decide ((iI 4).toInt < 0)) = false
    rw [iI_toInt rx, iI_toInt rg_4, decide_eq_false (by omega), decide_eq_false (by omega)]
    rfl
  rw [BitVec.msb_eq_toInt] at e
  exact of_decide_eq_false e
theorem Met_ofWF {l : Launch} {y : MethodName} {ws ws' : List Cond} {rm : Room} {Pc : Array Value → State → Prop} {Qc : Array Value → State → Outcome → State → Prop} {mc ms : Nat} {free : Addr → Prop} {cc : ByteArray} {maxL : Nat} {ret : Option FieldType} (hy : plainFor y = true) (hw : ws = Cond.code y cc maxL ret :: ws')
    (body : ∀ p e s m args below meth c s₁, BodyLoose p l y (headSpec ws rm) cc maxL ret e s m args below meth c s₁ → c.maxLocals = maxL → Pc args s →
      W p l e (headSpec ws rm).room s m args below meth c s.heap [] 0 0 (MQ below Qc args s mc ms free) (entryFrame m args maxL)) : Met l y ws rm Pc Qc mc ms free := by
  refine MetFree.of_bodySF (code := cc) (maxLocals := maxL) (ret := ret) hy ?_ ?_
  · intro args s m h hn
    obtain ⟨meth, c, h1, h2, h3, h4, h5, h6, -, -⟩ := Cond.code_spec hn (atoms_spec (ws := ws) h _ (by rw [hw]; exact List.mem_cons_self))
    exact ⟨meth, c, h1, h2, h3, h4, h5, h6⟩
  · intro p e s m args below meth c s₁ B hml hP _
    have hh0 : s₁.heap = s.heap := by rw [B.state]; rfl
    obtain ⟨t, a1, o, b1, b2, b3⟩ := body p e s m args below meth c s₁ B hml hP s₁ hh0 (Stand.of_body B)
    exact ⟨t, o, a1, b1, b2, ⟨b3.1, b3.2⟩⟩
theorem zm_iF {l : Launch} {G : ZG} {y : MethodName} {wsy ws' : List Cond} {fr lo maxL : Nat} {vs : List Value} {wc : va_W} {S : Type} {w1 : S → va_W} {cc : ByteArray} {ret : Option FieldType} {own : String} {lvs : List (Nat × Value)} {post : Int → S → Prop} (hy : plainFor y = true) (hw : wsy = Cond.code y cc maxL ret :: ws') (hcl : y.cls = own) (hlen : (lg_sl vs).length ≤ maxL) (hlv : lv_args 0 vs = lvs)
    (body : ∀ (p : Program) (e : Env) (s : State) (m : MethodId) (args : Array Value) (below : List Frame) (meth : Method) (c : Code) (ls : Array Slot) (A : Nat → Prop), p.tables.exec = Jvm.exec → c.code = cc → meth.sig.returnType = ret → c.maxLocals = maxL → s.vm.findClass own = some m.cls → (∀ w ∈ wsy, w.before args s = true) → meth.locks = false → va_K G.1 vwCl (tz G) s → va_P G.1 vwCl wc s.heap → va_D A wc → va_S A s.heap s.heap [] → (∀ q : Nat, s.heap.size ≤ q → A q) → lv_has ls maxL lvs →
      W p l e (headSpec wsy ({ frames := fr, cells := 0, slots := 0, locals := lo })).room s m args below meth c s.heap [] 0 0 (ZQi G below args s A w1 post) (F0 m 0 ls [])) : ZI l G y wsy fr lo vs wc w1 post := by
  intro sz
  refine Met_ofWF (cc := cc) (maxL := maxL) (ret := ret) hy hw ?_
  intro p e s m args below meth c s₁ B hml hv
  obtain ⟨rfl, hsz, hP, hK, hD0⟩ := hv
  subst hsz
  rw [lg_entry_eq]
  have hl := lv_entry vs (n := maxL) hlen
  rw [hlv] at hl
  have hown : s.vm.findClass own = some m.cls := by rw [← hcl]; exact findClass_of_methodNamed B.named
  exact body p e s m _ below meth c _ _ B.exec B.bytes B.returns hml hown (atoms_spec (ws := wsy) B.pre) B.notSynchronized hK hP (hD0.self (sz := s.heap.size)) va_S.rf (fun q h => Or.inr h) hl
theorem hdJ9_floorMod : yJ9_floorMod_7cf53.cls ≠ "java/lang/invoke/MethodHandle" ∧ yJ9_floorMod_7cf53.cls ≠ "java/lang/invoke/VarHandle" ∧ (parseMethodDescriptor yJ9_floorMod_7cf53.desc).map (fun d => d.parameters.length) = some 2 := by decide +kernel
theorem c_J9_floorMod (l : Launch) (G : ZG) (x : Int) (rx : rg x) (h0 : 0 ≤ x) : ZI l G yJ9_floorMod_7cf53 wsJ9_floorMod_7cf53 0 0 [.int (iI x), .int (iI 4)] [] (fun _ : Unit => []) (fun z (_ : Unit) => z = x % 4) := by
  refine zm_iF (cc := cJ9_floorMod_7cf53) (maxL := 3) (ret := some .int) (own := RJ9) (lvs := [(0, .int (iI x)), (1, .int (iI 4))]) (by decide +kernel) rfl rfl (Nat.le_of_ble_eq_true rfl) rfl ?_
  intro p e sT m args below meth c ls A hx hb hr hml hown hts hlocks hK hP hD hS hA hl
  refine lv_iload_n hx hb dJ9_floorMod_7cf53_0 rfl (lv_at hl 0 rfl) ?_
  refine lv_iload_n hx hb dJ9_floorMod_7cf53_1 rfl (lv_at hl 1 rfl) ?_
  refine zr_irem (x := x) (y := 4) hx hb rx (by decide) (by decide) h0 dJ9_floorMod_7cf53_2 ?_
  refine lv_istore_n (lv' := [(2, .int (iI (x % 4))), (0, .int (iI x)), (1, .int (iI 4))]) hx hb dJ9_floorMod_7cf53_3 rfl hl (by decide) rfl (fun ls hl => ?_)
  refine lv_iload_n hx hb dJ9_floorMod_7cf53_4 rfl (lv_at hl 1 rfl) ?_
  refine lv_iload_n hx hb dJ9_floorMod_7cf53_5 rfl (lv_at hl 2 rfl) ?_
  refine lv_ixor hx hb dJ9_floorMod_7cf53_6 ?_
  rw [← iI_of (iI x ^^^ iI 4)]
  refine zr_if_ge (x := (iI x ^^^ iI 4).toInt) (tgt := 18) hx hb (rg_of _) dJ9_floorMod_7cf53_7 (by decide) (fun _ => ?_) (fun q => absurd q (xor_nn rx h0))
  refine lv_iload_n hx hb dJ9_floorMod_7cf53_18 rfl (lv_at hl 0 rfl) ?_
  exact zr_iret (z := x % 4) hx hb hr hlocks hK () hP hD hS dJ9_floorMod_7cf53_19 rfl
theorem imX1_stateAt : ∀ w ∈ wsX10, w ∈ wsX1_stateAt := fun _ h => List.mem_cons_of_mem _ (List.mem_append_right _ h)
theorem hdX1_stateAt : yX1_stateAt.cls = RX1 ∧ yX1_stateAt.cls ≠ "java/lang/invoke/MethodHandle" ∧ yX1_stateAt.cls ≠ "java/lang/invoke/VarHandle" ∧ (parseMethodDescriptor yX1_stateAt.desc).map (fun d => d.parameters.length) = some 1 := by decide +kernel
theorem c_X1_stateAt (l : Launch) (G : ZG) (h0 h1 : Nat) (b0 b1 b2 b3 : Nat → Nat) (ol tt age : Int) (rol : rg ol) (rag : rg age) (p0 : 0 ≤ ol ∧ ol < 4 ∧ 0 ≤ age ∧ age < 4) : ZR l G yX1_stateAt wsX1_stateAt 1 22 [.ref h0, .int (iI age)] (W1h G h0 h1 b0 b1 b2 b3 ol tt) (adS b0 b1 b2 b3 ((ol + age) % 4)) := by
  refine zm_r (cc := cX1_stateAt) (maxL := 3) (ret := some (.object "GrantedSort$SortState")) (own := RX1) (lvs := [(0, .ref h0), (1, .int (iI age))]) (by decide) rfl rfl (Nat.le_of_ble_eq_true rfl) rfl ?_
  intro p e sT m args below meth c ls A hx hb hr hml hown hts hlocks hK hP hD hS hA hl
  have k1 := hts (.fieldLink RX1 22 "GrantedSort$History" "oldest" "I") (List.mem_of_getElem? (i := 1) rfl)
  have k2 := hts (.fieldLink RX1 11 "GrantedSort$History" "states" "[LGrantedSort$SortState;") (List.mem_of_getElem? (i := 2) rfl)
  refine lv_aload_n hx hb dX1_stateAt_0 rfl (lv_at hl 0 rfl) ?_
  refine va_get (v := .int (iI ol)) (ci := 1) (C := RX1) (T := TX1) (N := 3) hx hb hts imX1_stateAt hown hK hP 0 rfl rfl 1 (by decide) k1 (fun _ h9 => h9) rfl dX1_stateAt_1 ?_
  refine lv_iload_n hx hb dX1_stateAt_4 rfl (lv_at hl 1 rfl) ?_
  refine zr_iadd (x := ol) (y := age) hx hb dX1_stateAt_5 ?_
  refine lv_iconst (v := iI 4) hx hb dX1_stateAt_6 rfl ?_
  refine zc_si (As := [.int (iI (ol + age)), .int (iI 4)]) (rest := []) (c_J9_floorMod l G (ol + age) (by unfold rg; omega) (by omega)) ⟨hx, hb, hml, hown, hts⟩ (va_cwS 2 hts gX1_stateAt_J9_floorMod_7cf53 rfl rfl rfl hdJ9_floorMod ⟨Nat.le_of_ble_eq_true rfl, Nat.le_of_ble_eq_true rfl⟩) hK hP hD hS hA rfl hl.1 rfl (Nat.le_of_ble_eq_true rfl) dX1_stateAt_7 ⟨Nat.zero_le _, Nat.zero_le _⟩ (fun z H locs hw hP hD hS => ?_)
  have rz : rg z := by unfold rg; omega
  have hz : 0 ≤ z ∧ z < 4 := by omega
  refine lv_istore_n (lv' := [(2, .int (iI z)), (0, .ref h0), (1, .int (iI age))]) hx hb dX1_stateAt_10 rfl hl (by decide) rfl (fun ls hl => ?_)
  refine lv_iload_n hx hb dX1_stateAt_11 rfl (lv_at hl 0 rfl) ?_
  refine zr_if_lt (x := z) (tgt := 29) hx hb rz dX1_stateAt_12 (by decide) (fun q => absurd q (by omega)) (fun _ => ?_)
  refine lv_iload_n hx hb dX1_stateAt_15 rfl (lv_at hl 0 rfl) ?_
  refine lv_iconst (v := iI 4) hx hb dX1_stateAt_16 rfl ?_
  refine zr_icmp_ge (x := z) (y := 4) (tgt := 29) hx hb rz rg_4 dX1_stateAt_17 (by decide) (fun q => absurd q (by omega)) (fun _ => ?_)
  refine lv_aload_n hx hb dX1_stateAt_20 rfl (lv_at hl 1 rfl) ?_
  refine va_get (v := .ref h1) (ci := 1) (C := RX1) (T := TX1) (N := 3) hx hb hts imX1_stateAt hown hK hP 0 rfl rfl 0 (by decide) k2 (fun _ h9 => h9) rfl dX1_stateAt_21 ?_
  refine lv_iload_n hx hb dX1_stateAt_24 rfl (lv_at hl 0 rfl) ?_
  refine va_aldq (C := "GrantedSort$SortState") (f := qS b0 b1 b2 b3) hx hb hK hP 1 2 rfl rfl (iI_in (n := 4) rz hz.1 (by omega)) dX1_stateAt_25 ?_
  have ez : va_rf (qS b0 b1 b2 b3 (iI z).toNatClampNeg) = .ref (adS b0 b1 b2 b3 ((ol + age) % 4)) := by
    rw [iI_clamp rz hz.1]
    unfold qS
    rw [show ((z.toNat : Nat) : Int) = (ol + age) % 4 by omega]
    rfl
  rw [ez]
  refine lv_goto (tgt := 30) hx hb dX1_stateAt_26 (by decide) ?_
  exact zr_rret hx hb hr (Or.inl ⟨_, rfl⟩) hlocks hK hP hD hS dX1_stateAt_30
