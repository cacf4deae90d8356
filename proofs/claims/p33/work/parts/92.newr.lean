/-! ===== constructors: rows ===== -/
def NW (U : State) : Prop := va_Nw (.methodLinkNest RX6 9 yX5_init RX6) U ∧ va_Nw (.methodLinkNest RX5 11 yX3_init RX6) U ∧ va_Nw (.methodLinkNest RX5 20 yX4_init RX6) U ∧ va_Nw (.methodLinkNest RX1 17 yX5_init RX6) U ∧ va_Nw (.methodLinkNest RX6 31 yX0_init RX6) U ∧ va_Nw (.methodLinkNest RX6 38 yX2_init RX6) U ∧ va_AO "GrantedSort$SortState" U
theorem NW.warm {s U : State} (hW : s.WarmedH U.vm) (h : NW s) : NW U := by
  obtain ⟨a, b, c, d, e, f, g⟩ := h
  exact ⟨a.warmM hW, b.warmM hW, c.warmM hW, d.warmM hW, e.warmM hW, f.warmM hW, g.moved hW.alike⟩
theorem NW.same {u U : State} (h : u.vm = U.vm) (hZ : NW u) : NW U := by
  obtain ⟨a, b, c, d, e, f, g⟩ := hZ
  exact ⟨a.same rfl h, b.same rfl h, c.same rfl h, d.same rfl h, e.same rfl h, f.same rfl h, g.moved (by rw [h]; exact Vm.Alike.refl _)⟩
def ZN (l : Launch) (G : ZG) (y : MethodName) (wsy : List Cond) (fr lo mc ms : Nat) (e0 : va_E) {S : Type} (w1 : Nat → S → va_W) : Prop := ∀ (q sz : Nat), Met l y wsy ({ frames := fr, cells := mc, slots := ms, locals := lo }) (va_Pc [.ref q] (fun U => U.heap.size = sz ∧ va_P G.1 vwCl [(q, e0)] U.heap ∧ va_K G.1 vwCl (tz G) U ∧ va_D (fun _ => True) [(q, e0)] ∧ NW U)) (va_Qv (fun (_ : S) => True) (fun u t => va_P G.1 vwCl (w1 q u) t.heap ∧ va_K G.1 vwCl (tz G) t ∧ va_D (va_A [(q, e0)] sz) (w1 q u)) (va_A [(q, e0)] sz)) mc ms (va_A [(q, e0)] sz)
abbrev ZQn (G : ZG) (below : List Frame) (args : Array Value) (s : State) (A : Nat → Prop) {S : Type} (w1 : S → va_W) (mc ms : Nat) : State → Prop := MQ below (va_Qv (fun (_ : S) => True) (fun u t => va_P G.1 vwCl (w1 u) t.heap ∧ va_K G.1 vwCl (tz G) t ∧ va_D A (w1 u)) A) args s mc ms A
theorem zm_n {l : Launch} {G : ZG} {y : MethodName} {wsy ws' : List Cond} {fr lo mc ms maxL : Nat} {e0 : va_E} {S : Type} {w1 : Nat → S → va_W} {cc : ByteArray} {own : String} (hy : plainName y.cls = true) (hw : wsy = Cond.code y cc maxL none :: ws') (hcl : y.cls = own) (hn : y.name = "<init>") (hlen : 1 ≤ maxL)
    (body : ∀ (q : Nat) (p : Program) (e : Env) (s : State) (m : MethodId) (args : Array Value) (below : List Frame) (meth : Method) (c : Code) (ls : Array Slot) (A : Nat → Prop), p.tables.exec = Jvm.exec → c.code = cc → meth.sig.returnType = none → c.maxLocals = maxL → s.vm.findClass own = some m.cls → (∀ w ∈ wsy, w.before args s = true) → meth.locks = false → meth.name = "<init>" → va_K G.1 vwCl (tz G) s → va_P G.1 vwCl [(q, e0)] s.heap → va_D A [(q, e0)] → va_S A s.heap s.heap [] → (∀ x : Nat, s.heap.size ≤ x → A x) → NW s → lv_has ls maxL [(0, .ref q)] →
      W p l e (headSpec wsy ({ frames := fr, cells := mc, slots := ms, locals := lo })).room s m args below meth c s.heap [] 0 0 (ZQn G below args s A (w1 q) mc ms) (F0 m 0 ls [])) : ZN l G y wsy fr lo mc ms e0 w1 := by
  intro q sz
  refine Met.ofW (cc := cc) (maxL := maxL) (ret := none) hy hw ?_
  intro p e s m args below meth c s₁ B hml hv
  obtain ⟨rfl, hsz, hP, hK, hD0, hN⟩ := hv
  subst hsz
  rw [lg_entry_eq]
  have hl := lv_entry [.ref q] (n := maxL) hlen
  have hown : s.vm.findClass own = some m.cls := by rw [← hcl]; exact findClass_of_methodNamed B.named
  exact body q p e s m _ below meth c _ _ B.exec B.bytes B.returns hml hown (atoms_spec (ws := wsy) B.pre) B.notSynchronized ((name_of_methodNamed B.named B.method).1.trans hn) hK hP (hD0.self (sz := s.heap.size)) va_S.rf (fun q h => Or.inr h) hN hl
section ZNR
variable {p : Program} {l : Launch} {e : Env} {R : Room} {s : State} {m : MethodId} {args : Array Value} {below : List Frame} {meth : Method} {c : Code} {H H0 : Heap} {locs : List Loc} {cells slots : Nat} {Q : State → Prop} {cc : ByteArray} {pc : Nat} {ls : Array Slot} {rest : List Value} {G : ZG} {A : Nat → Prop} {ws : va_W}
theorem zn_ret {S : Type} {w1 : S → va_W} {mc ms : Nat} (hx : p.tables.exec = Jvm.exec) (hb : c.code = cc) (hr : meth.sig.returnType = none) (hlocks : meth.locks = false) (hK : va_K G.1 vwCl (tz G) s) (u : S) (hP : va_P G.1 vwCl (w1 u) H) (hD : va_D A (w1 u)) (hS : va_S A s.heap H locs) (hdg : decode cc pc = .ok (.return_, 1)) : W p l e R s m args below meth c H locs mc ms (ZQn G below args s A w1 mc ms) (F0 m pc ls []) := W.vret hx hb hr (fun t ht hW => ⟨⟨u, rfl, trivial, by rw [ht]; exact hP, va_K.moved hW.alike hK, hD⟩, hS.F ht⟩) hS.2.2 hdg hlocks
theorem zn_iarr (hx : p.tables.exec = Jvm.exec) (hb : c.code = cc) (harr : (Cond.arrayClass .int).before args s = true) (hK : va_K G.1 vwCl (tz G) s) (hP : va_P G.1 vwCl ws H) (hD : va_D A ws) (hS : va_S A H0 H locs) (hA : ∀ q, H0.size ≤ q → A q) {n : Int32} (N : Nat) (hn : ¬ n < 0) (hN : n.toNatClampNeg = N) (hbytes : N * componentBytes .int ≤ 536870912) (hcells : cells + 1 ≤ R.cells) (hslots : slots + N ≤ R.slots) (hdg : decode cc pc = .ok (.newarray .int, 2))
    (kk : ∀ (q : Nat) (H1 : Heap), va_P G.1 vwCl (ws ++ [(q, eI G N (fun _ => 0))]) H1 → va_D A (ws ++ [(q, eI G N (fun _ => 0))]) → va_S A H0 H1 locs → W p l e R s m args below meth c H1 locs (cells + 1) (slots + N) Q (F0 m (pc + 2) ls (.ref q :: rest))) : W p l e R s m args below meth c H locs cells slots Q (F0 m pc ls (.int n :: rest)) := by
  refine va_newa (atype := .int) (ty := .int) (N' := N) (a0 := (N, .inl (iA (fun _ => 0)))) hx hb harr rfl hK hP hD hS hA (fun _ => rfl) hn hN hbytes hcells hslots hdg (fun q cA H1 hK' hP hD hS => ?_)
  have e : cA = G.2.1 := by
    have h1 : s.vm.findClass ("[" ++ FieldType.int.toString) = some G.2.1 := (hK.2 0 _ rfl).2
    have h2 : s.vm.findClass ("[" ++ FieldType.int.toString) = some cA := (hK'.2 3 _ rfl).2
    exact Option.some.inj (h2.symm.trans h1)
  subst e
  exact kk q H1 hP hD hS
theorem zn_qarr (hx : p.tables.exec = Jvm.exec) (hb : c.code = cc) {own : String} {index : Nat} (hown : s.vm.findClass own = some m.cls) (hclink : (Cond.classLink own index "GrantedSort$SortState").before args s = true) (hover : va_AO "GrantedSort$SortState" s) (hK : va_K G.1 vwCl (tz G) s) (hP : va_P G.1 vwCl ws H) (hD : va_D A ws) (hS : va_S A H0 H locs) (hA : ∀ q, H0.size ≤ q → A q) {n : Int32} (N : Nat) (hn : ¬ n < 0) (hN : n.toNatClampNeg = N) (hbytes : N * 4 ≤ 536870912) (hcells : cells + 1 ≤ R.cells) (hslots : slots + N ≤ R.slots) (hdg : decode cc pc = .ok (.anewarray index, 3))
    (kk : ∀ (q : Nat) (H1 : Heap), va_P G.1 vwCl (ws ++ [(q, .inl (G.2.2.2, N, .inr (.inr (.inr (.inr (fun _ => none))))))]) H1 → va_D A (ws ++ [(q, .inl (G.2.2.2, N, .inr (.inr (.inr (.inr (fun _ => none))))))]) → va_S A H0 H1 locs → W p l e R s m args below meth c H1 locs (cells + 1) (slots + N) Q (F0 m (pc + 3) ls (.ref q :: rest))) : W p l e R s m args below meth c H locs cells slots Q (F0 m pc ls (.int n :: rest)) := by
  refine va_newq (C := "GrantedSort$SortState") (N' := N) hx hb hown hclink hover hK hP hD hS hA hn hN hbytes hcells hslots hdg (fun q cA H1 hK' hP hD hS => ?_)
  have e : cA = G.2.2.2 := by
    obtain ⟨_, _, _, _, _, h1⟩ := (hK.2 2 _ rfl).2
    obtain ⟨_, _, _, _, _, h2⟩ := (hK'.2 3 _ rfl).2
    exact Option.some.inj (h2.symm.trans h1)
  subst e
  exact kk q H1 hP hD hS
variable {nL index maxL fr lo mc ms : Nat} {Ts wsy : List Cond} {own host : String} {y : MethodName} {bytes : ByteArray} {e0 : va_E} {q : Nat} {S : Type} {w1 : Nat → S → va_W}
theorem zn_pre {sz : Nat} : FrameBlind (va_Pc [.ref q] (fun U => U.heap.size = sz ∧ va_P G.1 vwCl [(q, e0)] U.heap ∧ va_K G.1 vwCl (tz G) U ∧ va_D (fun _ => True) [(q, e0)] ∧ NW U)) := fun a U g mk h => ⟨h.1, h.2.1, h.2.2.1, va_K.moved (u := U) (U := U.calling g mk a) (Vm.Alike.refl U.vm) h.2.2.2.1, h.2.2.2.2.1, h.2.2.2.2.2.same rfl⟩
/-- what a constructor's call leaves, given its run -/
theorem zn_go (hM : va_Run p l e R s m args below meth c H locs cells slots mc ms (F0 m pc ls (.ref q :: rest)) rest (va_Qv (fun (_ : S) => True) (fun u t => va_P G.1 vwCl (w1 q u) t.heap ∧ va_K G.1 vwCl (tz G) t ∧ va_D (va_A [(q, e0)] H.size) (w1 q u)) (va_A [(q, e0)] H.size) (Value.ref q :: []).toArray) (va_A [(q, e0)] H.size)) (hP : va_P G.1 vwCl (ws ++ [(q, e0)]) H) (hD : va_D A (ws ++ [(q, e0)])) (hS : va_S A H0 H locs) (hA : ∀ q, H0.size ≤ q → A q)
    (kk : ∀ (u : S) (H1 : Heap) (locs1 : List Loc), va_P G.1 vwCl (ws ++ w1 q u) H1 → va_D A (ws ++ w1 q u) → va_S A H0 H1 locs1 → W p l e R s m args below meth c H1 locs1 (cells + mc) (slots + ms) Q (F0 m (pc + 3) ls rest)) : W p l e R s m args below meth c H locs cells slots Q (F0 m pc ls (.ref q :: rest)) := by
  have hP' := zq_Pp (List.perm_append_comm (l₁ := ws) (l₂ := [(q, e0)])) hP
  have hD' := zq_Dp (List.perm_append_comm (l₁ := ws) (l₂ := [(q, e0)])) hD
  have hDc : A q := (zq_D.mp hD').2 (q, e0) (List.mem_append_left _ (List.mem_singleton.mpr rfl))
  have hF : ∀ x, va_A [(q, e0)] H.size x → A x := fun x h => by
    rcases h with ⟨k, e, h⟩ | h
    · have := List.mem_singleton.mp (List.mem_of_getElem? h)
      cases this
      exact hDc
    · exact hA x (Nat.le_trans hS.1 h)
  refine va_callv hM hS (fun x _ h => hF x h) hF (fun u t H1 locs ht hvm _ hB hz1 hk1 hS => ?_)
  obtain ⟨hP1, hK1, hD1⟩ := hB
  rw [ht] at hP1
  obtain ⟨hPj, hDj⟩ := zq_join hP' hD' hk1 hF hP1 hD1
  exact kk u H1 locs (zq_Pp List.perm_append_comm hPj) (zq_Dp List.perm_append_comm hDj) hS
theorem zn_PreS (hK : va_K G.1 vwCl (tz G) s) (hN : NW s) (hP : va_P G.1 vwCl (ws ++ [(q, e0)]) H) (hD : va_D A (ws ++ [(q, e0)])) : PreS s H (va_Pc [.ref q] (fun U => U.heap.size = H.size ∧ va_P G.1 vwCl [(q, e0)] U.heap ∧ va_K G.1 vwCl (tz G) U ∧ va_D (fun _ => True) [(q, e0)] ∧ NW U)) (.ref q :: []) := by
  have hPc : va_P G.1 vwCl [(q, e0)] H := zq_P.mpr (fun x hx => zq_P.mp hP x (List.mem_append_right _ hx))
  have hDc : va_D (fun _ => True) [(q, e0)] := zq_D.mpr ⟨List.nodup_cons.mpr ⟨List.not_mem_nil, List.nodup_nil⟩, fun _ _ => trivial⟩
  exact ⟨zn_pre, fun U hU hW => ⟨rfl, by rw [hU], by rw [hU]; exact hPc, va_K.moved hW.alike hK, hDc, hN.warm hW⟩⟩
/-- a constructor of a nest mate -/
theorem zn_nest (hM : ZN l G y wsy fr lo mc ms e0 w1) (F : CallFix p m c cc nL s args Ts own) (cw : va_CN R s args own index y host bytes maxL none wsy ({ frames := fr, cells := mc, slots := ms, locals := lo }) mc ms 0 ∧ y.name = "<init>" ∧ (Cond.instanceMethod y).before args s = true) (hK : va_K G.1 vwCl (tz G) s) (hN : NW s) (hP : va_P G.1 vwCl (ws ++ [(q, e0)]) H) (hD : va_D A (ws ++ [(q, e0)])) (hS : va_S A H0 H locs) (hA : ∀ q, H0.size ≤ q → A q) (hls : ls.size = nL) (hW : 2 * 0 + (rest.map fun v => v.category).sum ≤ 8) (hdg : decode cc pc = .ok (.invokespecial index, 3)) (hf : cells + mc ≤ R.cells ∧ slots + ms ≤ R.slots)
    (kk : ∀ (u : S) (H1 : Heap) (locs1 : List Loc), va_P G.1 vwCl (ws ++ w1 q u) H1 → va_D A (ws ++ w1 q u) → va_S A H0 H1 locs1 → W p l e R s m args below meth c H1 locs1 (cells + mc) (slots + ms) Q (F0 m (pc + 3) ls rest)) : W p l e R s m args below meth c H locs cells slots Q (F0 m pc ls (.ref q :: rest)) :=
  zn_go (va_runIN (As := []) (rest := rest) F (hM q H.size) cw (zn_PreS hK hN hP hD) rfl rfl hls rfl hW hdg hf) hP hD hS hA kk
theorem zn_call (hM : ZN l G y wsy fr lo mc ms e0 w1) (F : CallFix p m c cc nL s args Ts own) (cw : CallB R s args own index y bytes maxL none wsy ({ frames := fr, cells := mc, slots := ms, locals := lo }) mc ms 0 ∧ y.name = "<init>" ∧ (Cond.instanceMethod y).before args s = true) (hK : va_K G.1 vwCl (tz G) s) (hN : NW s) (hP : va_P G.1 vwCl (ws ++ [(q, e0)]) H) (hD : va_D A (ws ++ [(q, e0)])) (hS : va_S A H0 H locs) (hA : ∀ q, H0.size ≤ q → A q) (hls : ls.size = nL) (hW : 2 * 0 + (rest.map fun v => v.category).sum ≤ 8) (hdg : decode cc pc = .ok (.invokespecial index, 3)) (hf : cells + mc ≤ R.cells ∧ slots + ms ≤ R.slots)
    (kk : ∀ (u : S) (H1 : Heap) (locs1 : List Loc), va_P G.1 vwCl (ws ++ w1 q u) H1 → va_D A (ws ++ w1 q u) → va_S A H0 H1 locs1 → W p l e R s m args below meth c H1 locs1 (cells + mc) (slots + ms) Q (F0 m (pc + 3) ls rest)) : W p l e R s m args below meth c H locs cells slots Q (F0 m pc ls (.ref q :: rest)) :=
  zn_go (va_runI (As := []) (rest := rest) F (hM q H.size) cw (zn_PreS hK hN hP hD) rfl rfl hls rfl hW hdg hf) hP hD hS hA kk
end ZNR
def adr (q : Nat) (u : Nat → Nat) : Nat → Nat := fun k => match k with
  | 0 => q
  | n + 1 => u (n + 1)
/-- a new state, and the reference's new state -/
def init0 : SS := (fun k => if k = 3 then 1 else if k = 4 then 6 else 0, fun _ _ => 0)
def initM : SS := (fun _ => 0, fun k => if k = 0 then uZ (uZ (fun _ => 0) 0 6) 2 1 else fun _ => 0)
def W1x (G : ZG) (q h1 : Nat) (b0 b1 b2 b3 : Nat → Nat) : va_W := W1h G q h1 b0 b1 b2 b3 0 0 ++ (W5 G b0 init0 ++ (W5 G b1 init0 ++ (W5 G b2 init0 ++ W5 G b3 init0)))
def W6x (G : ZG) (q : Nat) (u : Nat × Nat × Nat × (Nat → Nat) × Nat × Nat × (Nat → Nat) × (Nat → Nat) × (Nat → Nat) × (Nat → Nat) × (Nat → Nat) × (Nat → Nat)) : List va_W := match u with
  | (u0, u1, q0, c, h0, h1, b0, b1, b2, b3, f, v) => [W6o G q c f v h0 u0 q0 0, W0 G u0 u1 (fun _ => 0) 0, W2 G q0 0 0 0 0 0 0, W5 G c init0, W1h G h0 h1 b0 b1 b2 b3 0 0, W5 G b0 init0, W5 G b1 init0, W5 G b2 init0, W5 G b3 init0, W5 G f init0, W5 G v init0]
theorem flt_permN {L L' : List va_W} (n : Nat) (is : List Nat) (hl : L.length = n) (h : is.isPerm (List.range n) = true) (hL : is.map (fun i => L.getD i []) = L') : (flt L).Perm (flt L') := flt_perm is (by rw [hl]; exact h) hL
theorem zn_cell {D : va_G} {cl : List vw_C} {A : Nat → Prop} {H : Heap} {cA : ClassId} {h1 : Nat} {f g : Nat → Option Nat} {l1 l2 : va_W} (hf : ∀ j, j < 4 → f j = g j) (hP : va_P D cl (l1 ++ ((h1, .inl (cA, 4, .inr (.inr (.inr (.inr f))))) :: l2)) H) (hD : va_D A (l1 ++ ((h1, .inl (cA, 4, .inr (.inr (.inr (.inr f))))) :: l2))) : va_P D cl (l1 ++ ((h1, .inl (cA, 4, .inr (.inr (.inr (.inr g))))) :: l2)) H ∧ va_D A (l1 ++ ((h1, .inl (cA, 4, .inr (.inr (.inr (.inr g))))) :: l2)) := by
  have P := zq_P.mp hP
  obtain ⟨n1, n2⟩ := zq_D.mp hD
  refine ⟨zq_P.mpr (fun q hq => ?_), zq_D.mpr ⟨?_, fun q hq => ?_⟩⟩
  · rcases List.mem_append.mp hq with h | h
    · exact P q (List.mem_append_left _ h)
    · rcases List.mem_cons.mp h with h | h
      · subst h
        have q := P _ (List.mem_append_right _ (List.mem_cons_self))
        have e : vp_cell cA (4, .inr (.inr (.inr (.inr f)))) = vp_cell cA (4, .inr (.inr (.inr (.inr g)))) := by
          rw [vp_cell_q, vp_cell_q]
          exact zr_arrV (fun j hj => by rw [hf j hj])
        show H[h1]? = some (vp_cell cA (4, .inr (.inr (.inr (.inr g)))))
        rw [← e]
        exact q
      · exact P q (List.mem_append_right _ (List.mem_cons_of_mem _ h))
  · rw [List.map_append, List.map_cons] at n1 ⊢
    exact n1
  · rcases List.mem_append.mp hq with h | h
    · exact n2 q (List.mem_append_left _ h)
    · rcases List.mem_cons.mp h with h | h
      · subst h
        exact n2 (h1, .inl (cA, 4, .inr (.inr (.inr (.inr f))))) (List.mem_append_right _ (List.mem_cons_self))
      · exact n2 q (List.mem_append_right _ (List.mem_cons_of_mem _ h))
theorem zn_W1x {G : ZG} {A : Nat → Prop} {H : Heap} {q h1 : Nat} {b0 b1 b2 b3 : Nat → Nat} {f : Nat → Option Nat} (hf : ∀ j, j < 4 → f j = qS b0 b1 b2 b3 j) (hP : va_P G.1 vwCl (((((([(q, .inr (1, [.ref h1, .int (iI 0), .int (iI 0)]))] ++ [(h1, .inl (G.2.2.2, 4, .inr (.inr (.inr (.inr f)))))]) ++ (W5 G b0 init0)) ++ (W5 G b1 init0)) ++ (W5 G b2 init0)) ++ (W5 G b3 init0))) H) (hD : va_D A (((((([(q, .inr (1, [.ref h1, .int (iI 0), .int (iI 0)]))] ++ [(h1, .inl (G.2.2.2, 4, .inr (.inr (.inr (.inr f)))))]) ++ (W5 G b0 init0)) ++ (W5 G b1 init0)) ++ (W5 G b2 init0)) ++ (W5 G b3 init0)))) : va_P G.1 vwCl (W1x G q h1 b0 b1 b2 b3) H ∧ va_D A (W1x G q h1 b0 b1 b2 b3) := by
  simp only [List.append_assoc] at hP hD
  exact zn_cell (l1 := [(q, .inr (1, [.ref h1, .int (iI 0), .int (iI 0)]))]) hf hP hD
theorem zn_W6x (G : ZG) (q u0 u1 q0 : Nat) (c : Nat → Nat) (h0 h1 : Nat) (b0 b1 b2 b3 f v : Nat → Nat) : (((((((([(q, .inr (6, [.ref (c 0), .ref (f 0), .ref (v 0), .int (iI 0), .ref h0, .ref u0, .ref q0]))] : va_W) ++ (W5 G c init0)) ++ (W5 G f init0)) ++ (W5 G v init0)) ++ (W1x G h0 h1 b0 b1 b2 b3)) ++ (W0 G u0 u1 (fun _ => 0) 0)) ++ (W2 G q0 0 0 0 0 0 0))).Perm (flt (W6x G q (u0, u1, q0, c, h0, h1, b0, b1, b2, b3, f, v))) := by
  have e : (((((((([(q, .inr (6, [.ref (c 0), .ref (f 0), .ref (v 0), .int (iI 0), .ref h0, .ref u0, .ref q0]))] : va_W) ++ (W5 G c init0)) ++ (W5 G f init0)) ++ (W5 G v init0)) ++ (W1x G h0 h1 b0 b1 b2 b3)) ++ (W0 G u0 u1 (fun _ => 0) 0)) ++ (W2 G q0 0 0 0 0 0 0))) = flt [W6o G q c f v h0 u0 q0 0, W5 G c init0, W5 G f init0, W5 G v init0, W1h G h0 h1 b0 b1 b2 b3 0 0, W5 G b0 init0, W5 G b1 init0, W5 G b2 init0, W5 G b3 init0, W0 G u0 u1 (fun _ => 0) 0, W2 G q0 0 0 0 0 0 0] := by
    rw [flt_eq]
    simp only [List.flatten_cons, List.flatten_nil, List.append_nil, List.append_assoc, W1x]
    rfl
  rw [e]
  exact flt_permN 11 [0, 9, 10, 1, 4, 5, 6, 7, 8, 2, 3] rfl (by decide) rfl
