/-! ===== copies, cells of the script, the lower bits ===== -/
theorem vaP_same {H : Heap} {G : ZG} {ws : va_W} {q1 a n0 : Nat} {f g : Int → Int} (ha1 : ws[q1]? = some (a, eI G n0 f)) (h : ∀ j, 0 ≤ j → j < (n0 : Int) → f j = g j) (hP : va_P G.1 vwCl ws H) : va_P G.1 vwCl (ws.set q1 (a, eI G n0 g)) H := by
  have hl := (List.getElem?_eq_some_iff.mp ha1).1
  intro k q hk
  by_cases hkp : k = q1
  · subst hkp
    rw [List.getElem?_set_self hl] at hk
    cases hk
    have h1 := hP k (a, eI G n0 f) ha1
    show H[a]? = some (vp_cell _ _)
    rw [show H[a]? = some (vp_cell G.2.1 (n0, .inl (iA f))) from h1, vp_cell_i, vp_cell_i]
    congr 1
    refine zr_arrV (fun j hj => ?_)
    show Value.int (iI _) = Value.int (iI _)
    rw [h (j : Int) (by omega) (by omega)]
  · rw [List.getElem?_set_ne (Ne.symm hkp)] at hk
    exact hP k q hk
/-- a static method that answers the reference ra -/
def ZA (l : Launch) (G : ZG) (y : MethodName) (wsy : List Cond) (fr lo : Nat) (vs : List Value) (wc w1 : va_W) (ra : Nat) : Prop := ∀ sz : Nat, Met l y wsy ({ frames := fr, cells := 0, slots := 0, locals := lo }) (va_Pc vs (fun U => U.heap.size = sz ∧ va_P G.1 vwCl wc U.heap ∧ va_K G.1 vwCl (tz G) U ∧ va_D (fun _ => True) wc)) (va_Qr (fun (_ : Unit) => True) (fun _ a t => a = ra ∧ va_P G.1 vwCl w1 t.heap ∧ va_K G.1 vwCl (tz G) t ∧ va_D (va_A wc sz) w1) (va_A wc sz)) 0 0 (va_A wc sz)
abbrev ZQa (G : ZG) (below : List Frame) (args : Array Value) (s : State) (A : Nat → Prop) (w1 : va_W) (ra : Nat) : State → Prop := MQ below (va_Qr (fun (_ : Unit) => True) (fun _ a t => a = ra ∧ va_P G.1 vwCl w1 t.heap ∧ va_K G.1 vwCl (tz G) t ∧ va_D A w1) A) args s 0 0 A
theorem zm_a {l : Launch} {G : ZG} {y : MethodName} {wsy ws' : List Cond} {fr lo maxL : Nat} {vs : List Value} {wc w1 : va_W} {ra : Nat} {cc : ByteArray} {ret : Option FieldType} {own : String} {lvs : List (Nat × Value)} (hy : plainName y.cls = true) (hw : wsy = Cond.code y cc maxL ret :: ws') (hcl : y.cls = own) (hlen : (lg_sl vs).length ≤ maxL) (hlv : lv_args 0 vs = lvs)
    (body : ∀ (p : Program) (e : Env) (s : State) (m : MethodId) (args : Array Value) (below : List Frame) (meth : Method) (c : Code) (ls : Array Slot) (A : Nat → Prop), p.tables.exec = Jvm.exec → c.code = cc → meth.sig.returnType = ret → c.maxLocals = maxL → s.vm.findClass own = some m.cls → (∀ w ∈ wsy, w.before args s = true) → meth.locks = false → va_K G.1 vwCl (tz G) s → va_P G.1 vwCl wc s.heap → va_D A wc → va_S A s.heap s.heap [] → (∀ q : Nat, s.heap.size ≤ q → A q) → lv_has ls maxL lvs →
      W p l e (headSpec wsy ({ frames := fr, cells := 0, slots := 0, locals := lo })).room s m args below meth c s.heap [] 0 0 (ZQa G below args s A w1 ra) (F0 m 0 ls [])) : ZA l G y wsy fr lo vs wc w1 ra := by
  intro sz
  refine Met.ofW (cc := cc) (maxL := maxL) (ret := ret) hy hw ?_
  intro p e s m args below meth c s₁ B hml hv
  obtain ⟨rfl, hsz, hP, hK, hD0⟩ := hv
  subst hsz
  rw [lg_entry_eq]
  have hl := lv_entry vs (n := maxL) hlen
  rw [hlv] at hl
  have hown : s.vm.findClass own = some m.cls := by rw [← hcl]; exact findClass_of_methodNamed B.named
  exact body p e s m _ below meth c _ _ B.exec B.bytes B.returns hml hown (atoms_spec (ws := wsy) B.pre) B.notSynchronized hK hP (hD0.self (sz := s.heap.size)) va_S.rf (fun q h => Or.inr h) hl
/-- a contract with cells that it makes -/
def ZIc (l : Launch) (G : ZG) (y : MethodName) (wsy : List Cond) (fr lo mc ms : Nat) (vs : List Value) (wc : va_W) {S : Type} (w1 : S → va_W) (post : Int → S → Prop) : Prop := ∀ sz : Nat, Met l y wsy ({ frames := fr, cells := mc, slots := ms, locals := lo }) (va_Pc vs (fun U => U.heap.size = sz ∧ va_P G.1 vwCl wc U.heap ∧ va_K G.1 vwCl (tz G) U ∧ va_D (fun _ => True) wc)) (va_Qi (fun (r : Int32) (u : S) => ∃ z : Int, r = iI z ∧ post z u) (fun u t => va_P G.1 vwCl (w1 u) t.heap ∧ va_K G.1 vwCl (tz G) t ∧ va_D (va_A wc sz) (w1 u)) (va_A wc sz)) mc ms (va_A wc sz)
abbrev ZQic (G : ZG) (below : List Frame) (args : Array Value) (s : State) (A : Nat → Prop) (mc ms : Nat) {S : Type} (w1 : S → va_W) (post : Int → S → Prop) : State → Prop := MQ below (va_Qi (fun (r : Int32) (u : S) => ∃ z : Int, r = iI z ∧ post z u) (fun u t => va_P G.1 vwCl (w1 u) t.heap ∧ va_K G.1 vwCl (tz G) t ∧ va_D A (w1 u)) A) args s mc ms A
theorem zm_ic {l : Launch} {G : ZG} {y : MethodName} {wsy ws' : List Cond} {fr lo mc ms maxL : Nat} {vs : List Value} {wc : va_W} {S : Type} {w1 : S → va_W} {post : Int → S → Prop} {cc : ByteArray} {ret : Option FieldType} {own : String} {lvs : List (Nat × Value)} (hy : plainName y.cls = true) (hw : wsy = Cond.code y cc maxL ret :: ws') (hcl : y.cls = own) (hlen : (lg_sl vs).length ≤ maxL) (hlv : lv_args 0 vs = lvs)
    (body : ∀ (p : Program) (e : Env) (s : State) (m : MethodId) (args : Array Value) (below : List Frame) (meth : Method) (c : Code) (ls : Array Slot) (A : Nat → Prop), p.tables.exec = Jvm.exec → c.code = cc → meth.sig.returnType = ret → c.maxLocals = maxL → s.vm.findClass own = some m.cls → (∀ w ∈ wsy, w.before args s = true) → meth.locks = false → va_K G.1 vwCl (tz G) s → va_P G.1 vwCl wc s.heap → va_D A wc → va_S A s.heap s.heap [] → (∀ q : Nat, s.heap.size ≤ q → A q) → lv_has ls maxL lvs →
      W p l e (headSpec wsy ({ frames := fr, cells := mc, slots := ms, locals := lo })).room s m args below meth c s.heap [] 0 0 (ZQic G below args s A mc ms w1 post) (F0 m 0 ls [])) : ZIc l G y wsy fr lo mc ms vs wc w1 post := by
  intro sz
  refine Met.ofW (cc := cc) (maxL := maxL) (ret := ret) hy hw ?_
  intro p e s m args below meth c s₁ B hml hv
  obtain ⟨rfl, hsz, hP, hK, hD0⟩ := hv
  subst hsz
  rw [lg_entry_eq]
  have hl := lv_entry vs (n := maxL) hlen
  rw [hlv] at hl
  have hown : s.vm.findClass own = some m.cls := by rw [← hcl]; exact findClass_of_methodNamed B.named
  exact body p e s m _ below meth c _ _ B.exec B.bytes B.returns hml hown (atoms_spec (ws := wsy) B.pre) B.notSynchronized hK hP (hD0.self (sz := s.heap.size)) va_S.rf (fun q h => Or.inr h) hl
theorem zq_drop {D : va_G} {cl : List vw_C} {L M : List va_W} {H : Heap} (h : va_P D cl (flt (L ++ M)) H) : va_P D cl (flt L) H := by
  rw [flt_app] at h
  exact zq_P.mpr (fun q hq => zq_P.mp h q (List.mem_append_left _ hq))
theorem zq_dropD {A : Nat → Prop} {L M : List va_W} (h : va_D A (flt (L ++ M))) : va_D A (flt L) := by
  rw [flt_app] at h
  obtain ⟨a, b⟩ := zq_D.mp h
  rw [List.map_append, List.nodup_append] at a
  exact zq_D.mpr ⟨a.1, fun q hq => b q (List.mem_append_left _ hq)⟩
section ZSD
variable {p : Program} {l : Launch} {e : Env} {R : Room} {s : State} {m : MethodId} {args : Array Value} {below : List Frame} {meth : Method} {c : Code} {H H0 : Heap} {locs : List Loc} {cells slots : Nat} {Q : State → Prop} {cc : ByteArray} {pc : Nat} {ls : Array Slot} {rest : List Value} {G : ZG} {A : Nat → Prop} {ws : va_W}
variable {nL n index maxL fr lo ci N : Nat} {Ts wsy : List Cond} {own C : String} {y : MethodName} {bytes : ByteArray} {ret : Option FieldType} {wc : va_W} {b : Addr} {As : List Value} {S : Type} {T : u_T} {fs st : List Value} {L LC LR : List va_W} {LC1 L2 : S → List va_W}
theorem zs_va {ra : Nat} {LC1 L2 : List va_W} (hM : ZA l G y wsy fr lo As (flt LC) (flt LC1) ra) (F : CallFix p m c cc nL s args Ts own) (cw : CallB R s args own index y bytes maxL ret wsy ({ frames := fr, cells := 0, slots := 0, locals := lo }) 0 0 n ∧ (Cond.static y).before args s = true) (hK : va_K G.1 vwCl (tz G) s) (hP : va_P G.1 vwCl (flt L) H) (hD : va_D A (flt L)) (hS : va_S A H0 H locs) (hA : ∀ q : Nat, H0.size ≤ q → A q) (isC isR perm : List Nat) (hC : isC.map (fun i => L.getD i []) = LC) (hR : isR.map (fun i => L.getD i []) = LR) (nL1 : Nat) (hL1 : L.length = nL1) (hp0 : (isC ++ isR).isPerm (List.range nL1) = true) (hp2 : perm.map (fun i => (LC1 ++ LR).getD i []) = L2) (hL2 : (LC1 ++ LR).length = nL1) (hpn0 : perm.isPerm (List.range nL1) = true) (hAs : As.length = n) (hls : ls.size = nL) (hst : st = As.reverse ++ rest) (hW : 2 * 0 + (rest.map fun v => v.category).sum ≤ 8) (hdg : decode cc pc = .ok (.invokestatic index, 3)) (hf : cells ≤ R.cells ∧ slots ≤ R.slots)
    (kk : ∀ (H1 : Heap) (locs1 : List Loc), va_P G.1 vwCl (flt L2) H1 → va_D A (flt L2) → va_S A H0 H1 locs1 → W p l e R s m args below meth c H1 locs1 cells slots Q (F0 m (pc + 3) ls (.ref ra :: rest))) : W p l e R s m args below meth c H locs cells slots Q (F0 m pc ls st) := by
  have hp : (isC ++ isR).isPerm (List.range L.length) = true := by rw [hL1]; exact hp0
  have hpn : perm.isPerm (List.range (LC1 ++ LR).length) = true := by rw [hL2]; exact hpn0
  obtain ⟨hP', hD'⟩ := zq_split isC isR hC hR hp hP hD
  have hPc : va_P G.1 vwCl (flt LC) H := zq_P.mpr (fun q hq => zq_P.mp hP' q (List.mem_append_left _ hq))
  have hDc : va_D A (flt LC) := by
    obtain ⟨a, b⟩ := zq_D.mp hD'
    rw [List.map_append, List.nodup_append] at a
    exact zq_D.mpr ⟨a.1, fun q hq => b q (List.mem_append_left _ hq)⟩
  have hF : ∀ q, va_A (flt LC) H.size q → A q := fun q h => by
    rcases h with ⟨k, e, h⟩ | h
    · exact hDc.2 k _ h
    · exact hA q (Nat.le_trans hS.1 h)
  refine va_callr (va_runS (As := As) (rest := rest) F (hM H.size) cw ⟨zb_s, fun U hU hW => ⟨rfl, by rw [hU], by rw [hU]; exact hPc, va_K.moved hW.alike hK, hDc.weaken (fun _ _ _ _ => trivial)⟩⟩ rfl hAs hls hst hW hdg hf) hS (fun q _ h => hF q h) hF (fun u ra' t H1 locs ht hvm hw hB hz1 hk1 hS => ?_)
  obtain ⟨era, hP1, hK1, hD1⟩ := hB
  rw [era]
  rw [ht] at hP1
  obtain ⟨hPj, hDj⟩ := zq_join hP' hD' hk1 hF hP1 hD1
  rw [← flt_app] at hPj hDj
  have pp := flt_perm perm hpn hp2
  exact kk H1 locs (zq_Pp pp hPj) (zq_Dp pp hDj) hS
theorem zs_viRc {mc ms : Nat} {post : Int → Unit → Prop} (hM : ZIc l G y wsy fr lo mc ms As wc (fun _ : Unit => wc) post) (F : CallFix p m c cc nL s args Ts own) (cw : CallB R s args own index y bytes maxL ret wsy ({ frames := fr, cells := mc, slots := ms, locals := lo }) mc ms n ∧ (Cond.static y).before args s = true) (hK : va_K G.1 vwCl (tz G) s) (hP : va_P G.1 vwCl ws H) (hD : va_D A ws) (hS : va_S A H0 H locs) (hA : ∀ q : Nat, H0.size ≤ q → A q) (isC : List Nat) (hC : isC.map (fun i => ws[i]?) = wc.map some) (hCd : va_nd isC = true) (hAs : As.length = n) (hls : ls.size = nL) (hst : st = As.reverse ++ rest) (hW : 2 * 0 + (rest.map fun v => v.category).sum ≤ 8) (hdg : decode cc pc = .ok (.invokestatic index, 3)) (hf : cells + mc ≤ R.cells ∧ slots + ms ≤ R.slots)
    (kk : ∀ (z : Int) (H1 : Heap) (locs1 : List Loc), post z () → va_P G.1 vwCl ws H1 → va_D A ws → va_S A H0 H1 locs1 → W p l e R s m args below meth c H1 locs1 (cells + mc) (slots + ms) Q (F0 m (pc + 3) ls (.int (iI z) :: rest))) : W p l e R s m args below meth c H locs cells slots Q (F0 m pc ls st) := by
  have hF := va_free (wc := wc) hD hS hA isC hC
  have hDc := hD.sub isC hCd hC
  have hPc : va_P G.1 vwCl wc H := by
    intro k q hk
    have h1 : (isC.map (fun i => ws[i]?))[k]? = some (some q) := by rw [hC, List.getElem?_map, hk]; rfl
    rw [List.getElem?_map] at h1
    cases hi : isC[k]? with
    | none => rw [hi] at h1; cases h1
    | some i => rw [hi] at h1; exact hP i q (Option.some.inj h1)
  refine va_calli (va_runS (As := As) (rest := rest) F (hM H.size) cw ⟨zb_s, fun U hU hW => ⟨rfl, by rw [hU], by rw [hU]; exact hPc, va_K.moved hW.alike hK, hDc.weaken (fun _ _ _ _ => trivial)⟩⟩ rfl hAs hls hst hW hdg hf) hS (fun q _ h => hF q h) hF (fun r u t H1 locs ht hvm hw hB hz1 hk1 hS => ?_)
  obtain ⟨z, rfl, hpo⟩ := hw
  obtain ⟨hP1, hK1, hD1⟩ := hB
  rw [ht] at hP1
  exact kk z H1 locs hpo (zq_read isC hC hP hD hk1 hP1) hD hS
theorem zr_iretc {mc ms : Nat} (hx : p.tables.exec = Jvm.exec) (hb : c.code = cc) (hr : meth.sig.returnType = some .int) (hlocks : meth.locks = false) (hK : va_K G.1 vwCl (tz G) s) {w1 : S → va_W} {post : Int → S → Prop} {z : Int} (u : S) (hP : va_P G.1 vwCl (w1 u) H) (hD : va_D A (w1 u)) (hS : va_S A s.heap H locs) (hdg : decode cc pc = .ok (.ireturn, 1)) (hp : post z u) : W p l e R s m args below meth c H locs mc ms (ZQic G below args s A mc ms w1 post) (F0 m pc ls [.int (iI z)]) := W.iret hx hb hr (fun t ht hW => ⟨⟨iI z, u, rfl, ⟨z, rfl, hp⟩, by rw [ht]; exact hP, va_K.moved hW.alike hK, hD⟩, hS.F ht⟩) hS.2.2 hdg hlocks
theorem zr_aret {rt : FieldType} {w1 : va_W} {ra : Nat} (hx : p.tables.exec = Jvm.exec) (hb : c.code = cc) (hr : meth.sig.returnType = some rt) (hrt : (∃ n, rt = .object n) ∨ ∃ t, rt = .array t) (hlocks : meth.locks = false) (hK : va_K G.1 vwCl (tz G) s) (hP : va_P G.1 vwCl w1 H) (hD : va_D A w1) (hS : va_S A s.heap H locs) (hdg : decode cc pc = .ok (.areturn, 1)) : W p l e R s m args below meth c H locs 0 0 (ZQa G below args s A w1 ra) (F0 m pc ls [.ref ra]) := W.aret hx hb hr hrt (Or.inr ⟨_, rfl⟩) (fun t ht hW => ⟨⟨(), ra, rfl, trivial, rfl, by rw [ht]; exact hP, va_K.moved hW.alike hK, hD⟩, hS.F ht⟩) hS.2.2 hdg hlocks
end ZSD
theorem hdL_copy : yL_copy.cls ≠ "java/lang/invoke/MethodHandle" ∧ yL_copy.cls ≠ "java/lang/invoke/VarHandle" ∧ (parseMethodDescriptor yL_copy.desc).map (fun d => d.parameters.length) = some 2 := by decide +kernel
set_option maxRecDepth 100000 in
theorem c_L_copy (l : Launch) (G : ZG) (ra ta : Nat) (N : Nat) (f g : Int → Int) (rf : rgA f) (hN : N ≤ 64) : ZA l G yL_copy wsL_copy 0 0 [.ref ra, .ref ta] (flt [[(ra, eI G N f)], [(ta, eI G N g)]]) (flt [[(ra, eI G N f)], [(ta, eI G N f)]]) ta := by
  refine zm_a (cc := cL_copy) (maxL := 3) (ret := some (.array .int)) (own := RL) (lvs := [(0, .ref ra), (1, .ref ta)]) (by decide) rfl rfl (Nat.le_of_ble_eq_true rfl) rfl ?_
  intro p e sT m args below meth c ls A hx hb hr hml hown hts hlocks hK hP hD hS hA hl
  refine lv_iconst (v := iI 0) hx hb dL_copy_0 rfl ?_
  refine lv_istore_n (lv' := [(2, .int (iI 0)), (0, .ref ra), (1, .ref ta)]) hx hb dL_copy_1 rfl hl (by decide) rfl (fun ls hl => ?_)
  refine zr_loop (G := G) (σ := Int × (Int → Int)) (fun x => (0 ≤ x.1 ∧ x.1 ≤ (N : Int)) ∧ ∀ j, 0 ≤ j → j < x.1 → x.2 j = f j) (fun x => ((N : Int) - x.1).toNat) (fun x => flt [[(ra, eI G N f)], [(ta, eI G N x.2)]]) (fun x => [(2, .int (iI x.1)), (0, .ref ra), (1, .ref ta)]) (0, g) ⟨⟨Int.le_refl _, by omega⟩, fun j a b => by (have : j < 0 := b); omega⟩ hP hD hS hl ?_
  clear hP hD hS hl
  intro x H locs ls ih hI hP hD hS hl
  obtain ⟨i, h⟩ := x
  obtain ⟨h0, hj⟩ := hI
  have hP : va_P G.1 vwCl (flt [[(ra, eI G N f)], [(ta, eI G N h)]]) H := hP
  have hD : va_D A (flt [[(ra, eI G N f)], [(ta, eI G N h)]]) := hD
  have hl : lv_has ls 3 [(2, .int (iI i)), (0, .ref ra), (1, .ref ta)] := hl
  have h0 : 0 ≤ i ∧ i ≤ (N : Int) := h0
  have hj : ∀ j, 0 ≤ j → j < i → h j = f j := hj
  have ri : rg i := by unfold rg; omega
  refine lv_iload_n hx hb dL_copy_2 rfl (lv_at hl 0 rfl) ?_
  refine lv_aload_n hx hb dL_copy_3 rfl (lv_at hl 1 rfl) ?_
  refine va_alen (v := iI (N : Int)) hx hb hK hP 0 0 rfl rfl rfl dL_copy_4 ?_
  refine zr_icmp_ge (tgt := 20) (x := i) (y := (N : Int)) hx hb ri (by unfold rg; omega) dL_copy_5 (by decide) (fun c1 => ?_) (fun c1 => ?_)
  · refine lv_aload_n hx hb dL_copy_20 rfl (lv_at hl 2 rfl) ?_
    have hP2 := vaP_same (q1 := 1) (g := f) rfl (fun j a b => hj j a (by omega)) hP
    exact zr_aret hx hb hr (Or.inr ⟨_, rfl⟩) hlocks hK hP2 (hD.set (show (flt [[(ra, eI G N f)], [(ta, eI G N h)]])[1]? = some (ta, eI G N h) from rfl)) hS dL_copy_21
  · refine lv_aload_n hx hb dL_copy_8 rfl (lv_at hl 2 rfl) ?_
    refine lv_iload_n hx hb dL_copy_9 rfl (lv_at hl 0 rfl) ?_
    refine lv_aload_n hx hb dL_copy_10 rfl (lv_at hl 1 rfl) ?_
    refine lv_iload_n hx hb dL_copy_11 rfl (lv_at hl 0 rfl) ?_
    refine zr_iald (n := N) (f := f) (i := i) hx hb hK hP 0 rfl ri (by omega) dL_copy_12 ?_
    refine zr_iast (n := N) (f := h) (i := i) (x := f i) hx hb hK hP hD hS 1 rfl ri (by omega) dL_copy_13 (fun H locs hP hD hS => ?_)
    refine zr_iinc (x := i) (lv' := [(2, .int (iI (i + 1))), (0, .ref ra), (1, .ref ta)]) hx hb dL_copy_14 hl (k := 0) rfl (by decide) rfl (fun ls hl => ?_)
    refine lv_goto (tgt := 2) hx hb dL_copy_17 (by decide) ?_
    refine ih (i + 1, uZ h i (f i)) _ _ _ ⟨⟨by (show 0 ≤ i + 1); omega, by (show i + 1 ≤ (N : Int)); omega⟩, fun j a b => ?_⟩ (by (show ((N : Int) - (i + 1)).toNat < ((N : Int) - i).toNat); omega) hP hD hS hl
    have b : j < i + 1 := b
    show uZ h i (f i) j = f j
    by_cases w : j = i
    · rw [w, uZ_at]
    · rw [uZ_ne w]; exact hj j a (by omega)
theorem hdL_low : yL_low.cls ≠ "java/lang/invoke/MethodHandle" ∧ yL_low.cls ≠ "java/lang/invoke/VarHandle" ∧ (parseMethodDescriptor yL_low.desc).map (fun d => d.parameters.length) = some 2 := by decide +kernel
theorem c_L_low (l : Launch) (G : ZG) (v n : Int) (r_v : rg v) (r_n : rg n) (p0 : 0 < n) : ZI l G yL_low wsL_low 0 0 [.int (iI v), .int (iI n)] ([] : va_W) (fun _ : Unit => ([] : va_W)) (fun (zq : Int) (_ : Unit) => rg zq ∧ (0 ≤ zq ∧ zq < n)) := by
  refine zm_i (cc := cL_low) (maxL := 2) (ret := some .int) (own := RL) (lvs := [(0, .int (iI v)), (1, .int (iI n))]) (by decide) rfl rfl (Nat.le_of_ble_eq_true rfl) rfl ?_
  intro p e sT m args below meth c ls A hx hb hr hml hown hts hlocks hK hP hD hS hA hl
  refine lv_iload_n hx hb dL_low_0 rfl (lv_at hl 0 rfl) ?_
  refine lv_ldc hx hb hown (hts (.constant RL 9 (2147483647)) (List.mem_of_getElem? (i := 1) rfl)) dL_low_1 ?_
  refine lv_iand hx hb dL_low_3 ?_
  obtain ⟨j, hj, ej⟩ := pk_andE (iI v) (m := 2147483647) 31 rfl
  have e2 : nI j = iI (j : Int) := rfl
  rw [ej, e2]
  refine lv_iload_n hx hb dL_low_4 rfl (lv_at hl 1 rfl) ?_
  refine zr_irem (x := (j : Int)) (y := n) hx hb (by unfold rg; omega) p0 r_n.2 (by omega) dL_low_5 ?_
  have m0 := Int.emod_nonneg (j : Int) (show n ≠ 0 by omega)
  have m1 := Int.emod_lt_of_pos (j : Int) p0
  have hn := r_n.2
  exact zr_iret (z := (j : Int) % n) hx hb hr hlocks hK () hP hD hS dL_low_6 ⟨by unfold rg; omega, m0, m1⟩
theorem hdL_cell : yL_cell.cls ≠ "java/lang/invoke/MethodHandle" ∧ yL_cell.cls ≠ "java/lang/invoke/VarHandle" ∧ (parseMethodDescriptor yL_cell.desc).map (fun d => d.parameters.length) = some 2 := by decide +kernel
def ZC (G : ZG) (b L : Nat) (xs : Nat → Int32) (sz : Nat) (k : Int) : Array Value → State → Prop := va_Pc [.ref b, .int (iI k)] (fun U => (U.heap.size = sz ∧ b < sz) ∧ va_X b L xs U U.heap ∧ va_K G.1 vwCl (tz G) U)
theorem ZC_blind {G : ZG} {b L : Nat} {xs : Nat → Int32} {sz : Nat} {k : Int} : FrameBlind (ZC G b L xs sz k) := fun a U g mk q => ⟨q.1, q.2.1, va_X.moved (u := U) (U := U.calling g mk a) (Vm.Alike.refl U.vm) q.2.2.1, va_K.moved (u := U) (U := U.calling g mk a) (Vm.Alike.refl U.vm) q.2.2.2⟩
theorem c_L_cell (l : Launch) (G : ZG) (b L : Nat) (xs : Nat → Int32) (k : Int) (rk : rg k) (k0 : 0 ≤ k) (hL : L ≤ 260) (sz : Nat) : Met l yL_cell wsL_cell ({ frames := 0, cells := 0, slots := 0, locals := 0 }) (ZC G b L xs sz k) (va_Qi (fun (_ : Int32) (_ : Unit) => True) (fun _ t => va_K G.1 vwCl (tz G) t) (fun q : Nat => sz ≤ q)) 0 0 (fun q : Nat => sz ≤ q) := by
  refine Met.ofW (cc := cL_cell) (maxL := 2) (ret := some .int) (by decide) rfl ?_
  intro p e s m args below meth c s₁ B hml hv
  obtain ⟨rfl, ⟨hsz, hbs⟩, hX, hK⟩ := hv
  subst hsz
  rw [lg_entry_eq]
  have hl := lv_entry [.ref b, .int (iI k)] (n := 2) (Nat.le_of_ble_eq_true rfl)
  have hl : lv_has _ 2 [(0, .ref b), (1, .int (iI k))] := hl
  have hown : s.vm.findClass RL = some m.cls := findClass_of_methodNamed B.named
  have hx := B.exec
  have hb := B.bytes
  have hts := atoms_spec (ws := wsL_cell) B.pre
  have hS : va_S (fun q : Nat => s.heap.size ≤ q) s.heap s.heap [] := va_S.rf
  have hbA : ¬ (fun q : Nat => s.heap.size ≤ q) b := Nat.not_le.mpr hbs
  have fin : ∀ (r : Int32) (ls : Array Slot), W p l e (headSpec wsL_cell ({ frames := 0, cells := 0, slots := 0, locals := 0 })).room s m [Value.ref b, .int (iI k)].toArray below meth c s.heap [] 0 0 (MQ below (va_Qi (fun (_ : Int32) (_ : Unit) => True) (fun _ t => va_K G.1 vwCl (tz G) t) (fun q : Nat => s.heap.size ≤ q)) [Value.ref b, .int (iI k)].toArray s 0 0 (fun q : Nat => s.heap.size ≤ q)) (F0 m 19 ls [.int r]) := fun r ls => W.iret hx hb B.returns (fun t ht hW => ⟨⟨r, (), rfl, trivial, va_K.moved hW.alike hK⟩, hS.F ht⟩) hS.2.2 dL_cell_19 B.notSynchronized
  refine lv_iload_n hx hb dL_cell_0 rfl (lv_at hl 1 rfl) ?_
  refine lv_aload_n hx hb dL_cell_1 rfl (lv_at hl 0 rfl) ?_
  refine va_slen hx hb hX hbs hbA hS dL_cell_2 ?_
  rw [show Int32.ofNat L = iI (L : Int) from rfl]
  refine zr_icmp_ge (tgt := 12) (x := k) (y := (L : Int)) hx hb rk (by unfold rg; omega) dL_cell_3 (by decide) (fun c1 => ?_) (fun c1 => ?_)
  · refine lv_ldc hx hb hown (hts (.constant RL 7 (32452867)) (List.mem_of_getElem? (i := 1) rfl)) dL_cell_12 ?_
    refine lv_iload_n hx hb dL_cell_14 rfl (lv_at hl 1 rfl) ?_
    refine lv_imul hx hb dL_cell_15 ?_
    refine lv_ldc hx hb hown (hts (.constant RL 8 (15485863)) (List.mem_of_getElem? (i := 2) rfl)) dL_cell_16 ?_
    refine lv_iadd hx hb dL_cell_18 ?_
    exact fin _ _
  · refine lv_aload_n hx hb dL_cell_6 rfl (lv_at hl 0 rfl) ?_
    refine lv_iload_n hx hb dL_cell_7 rfl (lv_at hl 1 rfl) ?_
    refine va_sld hx hb hX hbs hbA hS (iI_in rk k0 (by omega)) dL_cell_8 ?_
    refine lv_goto (tgt := 19) hx hb dL_cell_9 (by decide) ?_
    exact fin _ _
section ZCL
variable {p : Program} {l : Launch} {e : Env} {R : Room} {s : State} {m : MethodId} {args : Array Value} {below : List Frame} {meth : Method} {c : Code} {H H0 : Heap} {locs : List Loc} {cells slots : Nat} {Q : State → Prop} {cc : ByteArray} {pc : Nat} {ls : Array Slot} {rest : List Value} {G : ZG} {A : Nat → Prop} {ws : va_W}
variable {nL n index maxL fr lo ci N : Nat} {Ts wsy : List Cond} {own C : String} {y : MethodName} {bytes : ByteArray} {ret : Option FieldType} {wc : va_W} {b : Addr} {As : List Value} {S : Type} {T : u_T} {fs st : List Value} {L LC LR : List va_W} {LC1 L2 : S → List va_W}
/-- a cell of the script, told by the law's own method -/
theorem zc_cell {L : Nat} {xs : Nat → Int32} {k : Int} (rk : rg k) (k0 : 0 ≤ k) (hL : L ≤ 260) (hX : va_X b L xs s H0) (hbl : b < H0.size) (hbA : ¬ A b) (F : CallFix p m c cc nL s args Ts own) (cw : CallB R s args own index yL_cell bytes maxL ret wsL_cell ({ frames := 0, cells := 0, slots := 0, locals := 0 }) 0 0 2 ∧ (Cond.static yL_cell).before args s = true) (hK : va_K G.1 vwCl (tz G) s) (hP : va_P G.1 vwCl ws H) (hD : va_D A ws) (hS : va_S A H0 H locs) (hA : ∀ q : Nat, H0.size ≤ q → A q) (hls : ls.size = nL) (hW : 2 * 0 + (rest.map fun v => v.category).sum ≤ 8) (hdg : decode cc pc = .ok (.invokestatic index, 3)) (hf : cells ≤ R.cells ∧ slots ≤ R.slots)
    (kk : ∀ (z : Int) (H1 : Heap) (locs1 : List Loc), rg z → va_P G.1 vwCl ws H1 → va_D A ws → va_S A H0 H1 locs1 → W p l e R s m args below meth c H1 locs1 cells slots Q (F0 m (pc + 3) ls (.int (iI z) :: rest))) : W p l e R s m args below meth c H locs cells slots Q (F0 m pc ls (.int (iI k) :: .ref b :: rest)) := by
  have hF : ∀ q : Nat, H.size ≤ q → A q := fun q h => hA q (Nat.le_trans hS.1 h)
  have hXH : va_X b L xs s H := hX.kept (hS.2.1 b hbl hbA)
  refine va_calli (va_runS (As := [.ref b, .int (iI k)]) (rest := rest) F (c_L_cell l G b L xs k rk k0 hL H.size) cw ⟨ZC_blind, fun U hU hW => ⟨rfl, ⟨by rw [hU], Nat.lt_of_lt_of_le hbl hS.1⟩, by rw [hU]; exact va_X.moved hW.alike hXH, va_K.moved hW.alike hK⟩⟩ rfl rfl hls rfl hW hdg hf) hS (fun q _ h => hF q h) hF (fun r u t H1 locs ht hvm hw hB hz1 hk1 hS => ?_)
  have e := iI_of r
  rw [← e]
  exact kk r.toInt H1 locs (rg_of r) (hP.kept fun k q hk => hk1 q.1 (hP k q hk).lt (fun h => by
    have := (hP k q hk).lt
    omega)) hD hS
end ZCL
