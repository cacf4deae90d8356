/-! ===== ints as iI z with z : Int; arrays of ints as functions of Int; rows of the kit in this form ===== -/
def iI (z : Int) : Int32 := Int32.ofInt z
def rg (z : Int) : Prop := -2147483648 ≤ z ∧ z ≤ 2147483647
def rgA (f : Int → Int) : Prop := ∀ i, rg (f i)
def iA (f : Int → Int) : Nat → Int32 := fun j => iI (f (j : Int))
def uZ (f : Int → Int) (i v : Int) : Int → Int := fun j => if j = i then v else f j
abbrev SS : Type := (Nat → Int) × (Nat → Int → Int)
def sS (s : SS) (k : Nat) (v : Int) : SS := (fun j => if j = k then v else s.1 j, s.2)
def sA (s : SS) (k : Nat) (f : Int → Int) : SS := (s.1, fun j => if j = k then f else s.2 j)
def RG (s : SS) : Prop := (∀ k, rg (s.1 k)) ∧ ∀ k, rgA (s.2 k)
def cI (f g : Int → Int) (sp dp n : Int) : Int → Int := fun k => if dp ≤ k ∧ k < dp + n then f (sp + (k - dp)) else g k
theorem rgA_u {f : Int → Int} {i v : Int} (h : rgA f) (hv : rg v) : rgA (uZ f i v) := by
  intro j
  unfold uZ
  split
  · exact hv
  · exact h j
theorem rgA_c {f g : Int → Int} {sp dp n : Int} (h : rgA f) (h2 : rgA g) : rgA (cI f g sp dp n) := by
  intro j
  unfold cI
  split
  · exact h _
  · exact h2 _
theorem RG_S {s : SS} {k : Nat} {v : Int} (h : RG s) (hv : rg v) : RG (sS s k v) := by
  refine ⟨fun j => ?_, h.2⟩
  show rg (if j = k then v else s.1 j)
  split
  · exact hv
  · exact h.1 j
theorem RG_A {s : SS} {k : Nat} {f : Int → Int} (h : RG s) (hf : rgA f) : RG (sA s k f) := by
  refine ⟨h.1, fun j => ?_⟩
  show rgA (if j = k then f else s.2 j)
  split
  · exact hf
  · exact h.2 j
theorem iI_toInt {z : Int} (h : rg z) : (iI z).toInt = z := by
  unfold iI
  rw [Int32.toInt_ofInt]
  obtain ⟨h1, h2⟩ := h
  rw [Int.bmod_def]
  have h3 : ((2 ^ 32 : Nat) : Int) = 4294967296 := by norm_cast
  rw [h3]
  split <;> omega
theorem iI_of (x : Int32) : iI x.toInt = x := by
  unfold iI
  exact Int32.ofInt_toInt x
theorem rg_of (x : Int32) : rg x.toInt := by
  have h1 := Int32.le_toInt x
  have h2 := Int32.toInt_lt x
  unfold rg
  omega
theorem iI_add (x y : Int) : iI x + iI y = iI (x + y) := by
  unfold iI
  rw [Int32.ofInt_add]
theorem iI_sub (x y : Int) : iI x - iI y = iI (x - y) := by
  unfold iI
  rw [Int32.ofInt_sub]
theorem iI_mul (x y : Int) : iI x * iI y = iI (x * y) := by
  unfold iI
  rw [Int32.ofInt_mul]
theorem iI_lt {x y : Int} (hx : rg x) (hy : rg y) : iI x < iI y ↔ x < y := by
  rw [Int32.lt_iff_toInt_lt, iI_toInt hx, iI_toInt hy]
theorem iI_le {x y : Int} (hx : rg x) (hy : rg y) : iI x ≤ iI y ↔ x ≤ y := by
  rw [Int32.le_iff_toInt_le, iI_toInt hx, iI_toInt hy]
theorem iI_eq {x y : Int} (hx : rg x) (hy : rg y) : iI x = iI y ↔ x = y := by
  rw [← Int32.toInt_inj, iI_toInt hx, iI_toInt hy]
theorem rg_0 : rg 0 := by unfold rg; omega
theorem iI_0 : (0 : Int32) = iI 0 := rfl
theorem iI_clamp {i : Int} (h : rg i) (h0 : 0 ≤ i) : (iI i).toNatClampNeg = i.toNat := by
  show (iI i).toInt.toNat = i.toNat
  rw [iI_toInt h]
theorem iI_in {i : Int} {n : Nat} (hr : rg i) (h0 : 0 ≤ i) (h1 : i < n) : vp_in (iI i) n := by
  rw [vp_in_iff, iI_toInt hr]
  exact ⟨h0, h1⟩
theorem iA_at {f : Int → Int} {i : Int} (hr : rg i) (h0 : 0 ≤ i) : iA f (iI i).toNatClampNeg = iI (f i) := by
  rw [iI_clamp hr h0]
  unfold iA
  rw [Int.toNat_of_nonneg h0]
theorem iA_upd {f : Int → Int} {i v : Int} (hr : rg i) (h0 : 0 ≤ i) : upd (iA f) (iI i).toNatClampNeg (iI v) = iA (uZ f i v) := by
  rw [iI_clamp hr h0]
  funext j
  unfold upd iA uZ
  by_cases h : (j : Int) = i
  · rw [if_pos h, if_pos (by omega)]
  · rw [if_neg h, if_neg (by omega)]
abbrev ZG : Type := va_G × (ClassId × ClassId × ClassId)
abbrev tz (G : ZG) : List (ClassId × FieldType) := [(G.2.1, .int), (G.2.2.1, .char), (G.2.2.2, .object "GrantedSort$SortState")]
abbrev eI (G : ZG) (n : Nat) (f : Int → Int) : va_E := .inl (G.2.1, n, .inl (iA f))
abbrev eC (G : ZG) (n : Nat) (f : Int → Int) : va_E := .inl (G.2.2.1, n, .inl (iA f))
def ZI (l : Launch) (G : ZG) (y : MethodName) (wsy : List Cond) (fr lo : Nat) (vs : List Value) (wc : va_W) {S : Type} (w1 : S → va_W) (post : Int → S → Prop) : Prop := ∀ sz : Nat, Met l y wsy ({ frames := fr, cells := 0, slots := 0, locals := lo }) (va_Pc vs (fun U => U.heap.size = sz ∧ va_P G.1 vwCl wc U.heap ∧ va_K G.1 vwCl (tz G) U ∧ va_D (fun _ => True) wc)) (va_Qi (fun (r : Int32) (u : S) => ∃ z : Int, r = iI z ∧ post z u) (fun u t => va_P G.1 vwCl (w1 u) t.heap ∧ va_K G.1 vwCl (tz G) t ∧ va_D (va_A wc sz) (w1 u)) (va_A wc sz)) 0 0 (va_A wc sz)
def ZV (l : Launch) (G : ZG) (y : MethodName) (wsy : List Cond) (fr lo : Nat) (vs : List Value) (wc : va_W) {S : Type} (w1 : S → va_W) (post : S → Prop) : Prop := ∀ sz : Nat, Met l y wsy ({ frames := fr, cells := 0, slots := 0, locals := lo }) (va_Pc vs (fun U => U.heap.size = sz ∧ va_P G.1 vwCl wc U.heap ∧ va_K G.1 vwCl (tz G) U ∧ va_D (fun _ => True) wc)) (va_Qv (fun (u : S) => post u) (fun u t => va_P G.1 vwCl (w1 u) t.heap ∧ va_K G.1 vwCl (tz G) t ∧ va_D (va_A wc sz) (w1 u)) (va_A wc sz)) 0 0 (va_A wc sz)
abbrev ZQi (G : ZG) (below : List Frame) (args : Array Value) (s : State) (A : Nat → Prop) {S : Type} (w1 : S → va_W) (post : Int → S → Prop) : State → Prop := MQ below (va_Qi (fun (r : Int32) (u : S) => ∃ z : Int, r = iI z ∧ post z u) (fun u t => va_P G.1 vwCl (w1 u) t.heap ∧ va_K G.1 vwCl (tz G) t ∧ va_D A (w1 u)) A) args s 0 0 A
abbrev ZQv (G : ZG) (below : List Frame) (args : Array Value) (s : State) (A : Nat → Prop) {S : Type} (w1 : S → va_W) (post : S → Prop) : State → Prop := MQ below (va_Qv (fun (u : S) => post u) (fun u t => va_P G.1 vwCl (w1 u) t.heap ∧ va_K G.1 vwCl (tz G) t ∧ va_D A (w1 u)) A) args s 0 0 A
theorem ZI.weak {l : Launch} {G : ZG} {y : MethodName} {wsy : List Cond} {fr lo : Nat} {vs : List Value} {wc : va_W} {S : Type} {w1 : S → va_W} {post post' : Int → S → Prop} (h : ∀ z u, post z u → post' z u) (hM : ZI l G y wsy fr lo vs wc w1 post) : ZI l G y wsy fr lo vs wc w1 post' := by
  intro sz p e ha hc hk s m args below hf happ hpre hx
  obtain ⟨k, o, h1, h2, h3, ⟨⟨⟨r, u, q1, ⟨z, q2, q3⟩, q4⟩, q5⟩, q6⟩⟩ := hM sz p e ha hc hk s m args below hf happ hpre hx
  exact ⟨k, o, h1, h2, h3, ⟨⟨⟨r, u, q1, ⟨z, q2, h z u q3⟩, q4⟩, q5⟩, q6⟩⟩
theorem ZV.weak {l : Launch} {G : ZG} {y : MethodName} {wsy : List Cond} {fr lo : Nat} {vs : List Value} {wc : va_W} {S : Type} {w1 : S → va_W} {post post' : S → Prop} (h : ∀ u, post u → post' u) (hM : ZV l G y wsy fr lo vs wc w1 post) : ZV l G y wsy fr lo vs wc w1 post' := by
  intro sz p e ha hc hk s m args below hf happ hpre hx
  obtain ⟨k, o, h1, h2, h3, ⟨⟨⟨u, q1, q3, q4⟩, q5⟩, q6⟩⟩ := hM sz p e ha hc hk s m args below hf happ hpre hx
  exact ⟨k, o, h1, h2, h3, ⟨⟨⟨u, q1, h u q3, q4⟩, q5⟩, q6⟩⟩
section ZM
variable {l : Launch} {G : ZG} {y : MethodName} {wsy ws' : List Cond} {fr lo maxL : Nat} {vs : List Value} {wc : va_W} {S : Type} {w1 : S → va_W} {cc : ByteArray} {ret : Option FieldType} {own : String} {lvs : List (Nat × Value)}
/-- a method's body, from its entry -/
theorem zm_i {post : Int → S → Prop} (hy : plainName y.cls = true) (hw : wsy = Cond.code y cc maxL ret :: ws') (hcl : y.cls = own) (hlen : (lg_sl vs).length ≤ maxL) (hlv : lv_args 0 vs = lvs)
    (body : ∀ (p : Program) (e : Env) (s : State) (m : MethodId) (args : Array Value) (below : List Frame) (meth : Method) (c : Code) (ls : Array Slot) (A : Nat → Prop), p.tables.exec = Jvm.exec → c.code = cc → meth.sig.returnType = ret → c.maxLocals = maxL → s.vm.findClass own = some m.cls → (∀ w ∈ wsy, w.before args s = true) → meth.locks = false → va_K G.1 vwCl (tz G) s → va_P G.1 vwCl wc s.heap → va_D A wc → va_S A s.heap s.heap [] → (∀ q : Nat, s.heap.size ≤ q → A q) → lv_has ls maxL lvs →
      W p l e (headSpec wsy ({ frames := fr, cells := 0, slots := 0, locals := lo })).room s m args below meth c s.heap [] 0 0 (ZQi G below args s A w1 post) (F0 m 0 ls [])) : ZI l G y wsy fr lo vs wc w1 post := by
  intro sz
  refine Met.ofW (cc := cc) (maxL := maxL) (ret := ret) hy hw ?_
  intro p e s m args below meth c s₁ B hml hv
  obtain ⟨rfl, hsz, hP, hK, hD0⟩ := hv
  subst hsz
  rw [lg_entry_eq]
  have hl := lv_entry vs (n := maxL) hlen
  rw [hlv] at hl
  have hown : s.vm.findClass own = some m.cls := by rw [← hcl]; exact findClass_of_methodNamed B.named
  exact body p e s m _ below meth c _ _ B.exec B.bytes B.returns hml hown (atoms_spec (ws := wsy) B.pre) B.notSynchronized hK hP (hD0.self (sz := s.heap.size)) va_S.rf (fun q h => Or.inr h) hl
theorem zm_v {post : S → Prop} (hy : plainName y.cls = true) (hw : wsy = Cond.code y cc maxL ret :: ws') (hcl : y.cls = own) (hlen : (lg_sl vs).length ≤ maxL) (hlv : lv_args 0 vs = lvs)
    (body : ∀ (p : Program) (e : Env) (s : State) (m : MethodId) (args : Array Value) (below : List Frame) (meth : Method) (c : Code) (ls : Array Slot) (A : Nat → Prop), p.tables.exec = Jvm.exec → c.code = cc → meth.sig.returnType = ret → c.maxLocals = maxL → s.vm.findClass own = some m.cls → (∀ w ∈ wsy, w.before args s = true) → meth.locks = false → va_K G.1 vwCl (tz G) s → va_P G.1 vwCl wc s.heap → va_D A wc → va_S A s.heap s.heap [] → (∀ q : Nat, s.heap.size ≤ q → A q) → lv_has ls maxL lvs →
      W p l e (headSpec wsy ({ frames := fr, cells := 0, slots := 0, locals := lo })).room s m args below meth c s.heap [] 0 0 (ZQv G below args s A w1 post) (F0 m 0 ls [])) : ZV l G y wsy fr lo vs wc w1 post := by
  intro sz
  refine Met.ofW (cc := cc) (maxL := maxL) (ret := ret) hy hw ?_
  intro p e s m args below meth c s₁ B hml hv
  obtain ⟨rfl, hsz, hP, hK, hD0⟩ := hv
  subst hsz
  rw [lg_entry_eq]
  have hl := lv_entry vs (n := maxL) hlen
  rw [hlv] at hl
  have hown : s.vm.findClass own = some m.cls := by rw [← hcl]; exact findClass_of_methodNamed B.named
  exact body p e s m _ below meth c _ _ B.exec B.bytes B.returns hml hown (atoms_spec (ws := wsy) B.pre) B.notSynchronized hK hP (hD0.self (sz := s.heap.size)) va_S.rf (fun q h => Or.inr h) hl
end ZM
section ZR
variable {p : Program} {l : Launch} {e : Env} {R : Room} {s : State} {m : MethodId} {args : Array Value} {below : List Frame} {meth : Method} {c : Code} {H : Heap} {locs : List Loc} {cells slots : Nat} {Q : State → Prop}
variable {cc : ByteArray} {pc : Nat} {ls : Array Slot} {rest : List Value} {A : Nat → Prop} {a : Nat} {ws : va_W} {H0 : Heap} {G : ZG}
theorem zr_iadd (hx : p.tables.exec = Jvm.exec) (hb : c.code = cc) {x y : Int} (hdg : decode cc pc = .ok (.iadd, 1)) (k : W p l e R s m args below meth c H locs cells slots Q (F0 m (pc + 1) ls (.int (iI (x + y)) :: rest))) : W p l e R s m args below meth c H locs cells slots Q (F0 m pc ls (.int (iI y) :: .int (iI x) :: rest)) := lv_iadd hx hb hdg (by rw [iI_add]; exact k)
theorem zr_isub (hx : p.tables.exec = Jvm.exec) (hb : c.code = cc) {x y : Int} (hdg : decode cc pc = .ok (.isub, 1)) (k : W p l e R s m args below meth c H locs cells slots Q (F0 m (pc + 1) ls (.int (iI (x - y)) :: rest))) : W p l e R s m args below meth c H locs cells slots Q (F0 m pc ls (.int (iI y) :: .int (iI x) :: rest)) := lv_isub hx hb hdg (by rw [iI_sub]; exact k)
theorem zr_imul (hx : p.tables.exec = Jvm.exec) (hb : c.code = cc) {x y : Int} (hdg : decode cc pc = .ok (.imul, 1)) (k : W p l e R s m args below meth c H locs cells slots Q (F0 m (pc + 1) ls (.int (iI (x * y)) :: rest))) : W p l e R s m args below meth c H locs cells slots Q (F0 m pc ls (.int (iI y) :: .int (iI x) :: rest)) := lv_imul hx hb hdg (by rw [iI_mul]; exact k)
theorem zr_iinc (hx : p.tables.exec = Jvm.exec) (hb : c.code = cc) {i nL k : Nat} {n x : Int} {lv lv' : List (Nat × Value)} (hdg : decode cc pc = .ok (.iinc i n, 3)) (h : lv_has ls nL lv) (hk : lv[k]? = some (i, .int (iI x))) (hn : i < nL) (hl : (i, Value.int (iI (x + n))) :: lv.filter (fun q => !(q.1 == i) && !(q.1 + 1 == i && q.2.category == 2)) = lv')
    (kk : ∀ ls' : Array Slot, lv_has ls' nL lv' → W p l e R s m args below meth c H locs cells slots Q (F0 m (pc + 3) ls' rest)) : W p l e R s m args below meth c H locs cells slots Q (F0 m pc ls rest) := lv_iinc (v := iI (x + n)) hx hb hdg h hk (by show iI x + iI n = _; rw [iI_add]) hn hl kk
theorem zr_if_eq (hx : p.tables.exec = Jvm.exec) (hb : c.code = cc) {x : Int} {off : Int} {tgt : Nat} (rx : rg x) (hdg : decode cc pc = .ok (.ifCond .eq off, 3)) (ht : (pc : Int) + off = (tgt : Int)) (kt : x = 0 → W p l e R s m args below meth c H locs cells slots Q (F0 m tgt ls rest)) (kf : ¬ x = 0 → W p l e R s m args below meth c H locs cells slots Q (F0 m (pc + 3) ls rest)) : W p l e R s m args below meth c H locs cells slots Q (F0 m pc ls (.int (iI x) :: rest)) := lv_if_eq hx hb hdg ht (fun q => kt ((iI_eq rx rg_0).mp (q.trans iI_0))) (fun q => kf (fun z => q (((iI_eq rx rg_0).mpr z).trans iI_0.symm)))
theorem zr_if_ne (hx : p.tables.exec = Jvm.exec) (hb : c.code = cc) {x : Int} {off : Int} {tgt : Nat} (rx : rg x) (hdg : decode cc pc = .ok (.ifCond .ne off, 3)) (ht : (pc : Int) + off = (tgt : Int)) (kt : ¬ x = 0 → W p l e R s m args below meth c H locs cells slots Q (F0 m tgt ls rest)) (kf : x = 0 → W p l e R s m args below meth c H locs cells slots Q (F0 m (pc + 3) ls rest)) : W p l e R s m args below meth c H locs cells slots Q (F0 m pc ls (.int (iI x) :: rest)) := lv_if_ne hx hb hdg ht (fun q => kt (fun z => q (((iI_eq rx rg_0).mpr z).trans iI_0.symm))) (fun q => kf ((iI_eq rx rg_0).mp (q.trans iI_0)))
theorem zr_if_lt (hx : p.tables.exec = Jvm.exec) (hb : c.code = cc) {x : Int} {off : Int} {tgt : Nat} (rx : rg x) (hdg : decode cc pc = .ok (.ifCond .lt off, 3)) (ht : (pc : Int) + off = (tgt : Int)) (kt : x < 0 → W p l e R s m args below meth c H locs cells slots Q (F0 m tgt ls rest)) (kf : ¬ x < 0 → W p l e R s m args below meth c H locs cells slots Q (F0 m (pc + 3) ls rest)) : W p l e R s m args below meth c H locs cells slots Q (F0 m pc ls (.int (iI x) :: rest)) := lv_if_lt hx hb hdg ht (fun q => kt ((iI_lt rx rg_0).mp (by rw [← iI_0]; exact q))) (fun q => kf (fun z => q (by rw [iI_0]; exact (iI_lt rx rg_0).mpr z)))
theorem zr_if_ge (hx : p.tables.exec = Jvm.exec) (hb : c.code = cc) {x : Int} {off : Int} {tgt : Nat} (rx : rg x) (hdg : decode cc pc = .ok (.ifCond .ge off, 3)) (ht : (pc : Int) + off = (tgt : Int)) (kt : ¬ x < 0 → W p l e R s m args below meth c H locs cells slots Q (F0 m tgt ls rest)) (kf : x < 0 → W p l e R s m args below meth c H locs cells slots Q (F0 m (pc + 3) ls rest)) : W p l e R s m args below meth c H locs cells slots Q (F0 m pc ls (.int (iI x) :: rest)) := lv_if_ge hx hb hdg ht (fun q => kt (by have h := (iI_le rg_0 rx).mp (by rw [← iI_0]; exact q); omega)) (fun q => kf (by by_cases z : x < 0; exact z; exact absurd (by rw [iI_0]; exact (iI_le rg_0 rx).mpr (by omega)) q))
theorem zr_if_gt (hx : p.tables.exec = Jvm.exec) (hb : c.code = cc) {x : Int} {off : Int} {tgt : Nat} (rx : rg x) (hdg : decode cc pc = .ok (.ifCond .gt off, 3)) (ht : (pc : Int) + off = (tgt : Int)) (kt : 0 < x → W p l e R s m args below meth c H locs cells slots Q (F0 m tgt ls rest)) (kf : ¬ 0 < x → W p l e R s m args below meth c H locs cells slots Q (F0 m (pc + 3) ls rest)) : W p l e R s m args below meth c H locs cells slots Q (F0 m pc ls (.int (iI x) :: rest)) := lv_if_gt hx hb hdg ht (fun q => kt ((iI_lt rg_0 rx).mp (by rw [← iI_0]; exact q))) (fun q => kf (fun z => q (by rw [iI_0]; exact (iI_lt rg_0 rx).mpr z)))
theorem zr_if_le (hx : p.tables.exec = Jvm.exec) (hb : c.code = cc) {x : Int} {off : Int} {tgt : Nat} (rx : rg x) (hdg : decode cc pc = .ok (.ifCond .le off, 3)) (ht : (pc : Int) + off = (tgt : Int)) (kt : ¬ 0 < x → W p l e R s m args below meth c H locs cells slots Q (F0 m tgt ls rest)) (kf : 0 < x → W p l e R s m args below meth c H locs cells slots Q (F0 m (pc + 3) ls rest)) : W p l e R s m args below meth c H locs cells slots Q (F0 m pc ls (.int (iI x) :: rest)) := lv_if_le hx hb hdg ht (fun q => kt (by have h := (iI_le rx rg_0).mp (by rw [← iI_0]; exact q); omega)) (fun q => kf (by by_cases z : 0 < x; exact z; exact absurd (by rw [iI_0]; exact (iI_le rx rg_0).mpr (by omega)) q))
theorem zr_icmp_eq (hx : p.tables.exec = Jvm.exec) (hb : c.code = cc) {x y : Int} {off : Int} {tgt : Nat} (rx : rg x) (ry : rg y) (hdg : decode cc pc = .ok (.if_icmp .eq off, 3)) (ht : (pc : Int) + off = (tgt : Int)) (kt : x = y → W p l e R s m args below meth c H locs cells slots Q (F0 m tgt ls rest)) (kf : ¬ x = y → W p l e R s m args below meth c H locs cells slots Q (F0 m (pc + 3) ls rest)) : W p l e R s m args below meth c H locs cells slots Q (F0 m pc ls (.int (iI y) :: .int (iI x) :: rest)) := lv_icmp_eq hx hb hdg ht (fun q => kt ((iI_eq rx ry).mp q)) (fun q => kf (fun z => q ((iI_eq rx ry).mpr z)))
theorem zr_icmp_ne (hx : p.tables.exec = Jvm.exec) (hb : c.code = cc) {x y : Int} {off : Int} {tgt : Nat} (rx : rg x) (ry : rg y) (hdg : decode cc pc = .ok (.if_icmp .ne off, 3)) (ht : (pc : Int) + off = (tgt : Int)) (kt : ¬ x = y → W p l e R s m args below meth c H locs cells slots Q (F0 m tgt ls rest)) (kf : x = y → W p l e R s m args below meth c H locs cells slots Q (F0 m (pc + 3) ls rest)) : W p l e R s m args below meth c H locs cells slots Q (F0 m pc ls (.int (iI y) :: .int (iI x) :: rest)) := lv_icmp_ne hx hb hdg ht (fun q => kt (fun z => q ((iI_eq rx ry).mpr z))) (fun q => kf ((iI_eq rx ry).mp q))
theorem zr_icmp_lt (hx : p.tables.exec = Jvm.exec) (hb : c.code = cc) {x y : Int} {off : Int} {tgt : Nat} (rx : rg x) (ry : rg y) (hdg : decode cc pc = .ok (.if_icmp .lt off, 3)) (ht : (pc : Int) + off = (tgt : Int)) (kt : x < y → W p l e R s m args below meth c H locs cells slots Q (F0 m tgt ls rest)) (kf : ¬ x < y → W p l e R s m args below meth c H locs cells slots Q (F0 m (pc + 3) ls rest)) : W p l e R s m args below meth c H locs cells slots Q (F0 m pc ls (.int (iI y) :: .int (iI x) :: rest)) := lv_icmp_lt hx hb hdg ht (fun q => kt ((iI_lt rx ry).mp q)) (fun q => kf (fun z => q ((iI_lt rx ry).mpr z)))
theorem zr_icmp_ge (hx : p.tables.exec = Jvm.exec) (hb : c.code = cc) {x y : Int} {off : Int} {tgt : Nat} (rx : rg x) (ry : rg y) (hdg : decode cc pc = .ok (.if_icmp .ge off, 3)) (ht : (pc : Int) + off = (tgt : Int)) (kt : ¬ x < y → W p l e R s m args below meth c H locs cells slots Q (F0 m tgt ls rest)) (kf : x < y → W p l e R s m args below meth c H locs cells slots Q (F0 m (pc + 3) ls rest)) : W p l e R s m args below meth c H locs cells slots Q (F0 m pc ls (.int (iI y) :: .int (iI x) :: rest)) := lv_icmp_ge hx hb hdg ht (fun q => kt (by have h := (iI_le ry rx).mp q; omega)) (fun q => kf (by by_cases z : x < y; exact z; exact absurd ((iI_le ry rx).mpr (by omega)) q))
theorem zr_icmp_gt (hx : p.tables.exec = Jvm.exec) (hb : c.code = cc) {x y : Int} {off : Int} {tgt : Nat} (rx : rg x) (ry : rg y) (hdg : decode cc pc = .ok (.if_icmp .gt off, 3)) (ht : (pc : Int) + off = (tgt : Int)) (kt : y < x → W p l e R s m args below meth c H locs cells slots Q (F0 m tgt ls rest)) (kf : ¬ y < x → W p l e R s m args below meth c H locs cells slots Q (F0 m (pc + 3) ls rest)) : W p l e R s m args below meth c H locs cells slots Q (F0 m pc ls (.int (iI y) :: .int (iI x) :: rest)) := lv_icmp_gt hx hb hdg ht (fun q => kt ((iI_lt ry rx).mp q)) (fun q => kf (fun z => q ((iI_lt ry rx).mpr z)))
theorem zr_icmp_le (hx : p.tables.exec = Jvm.exec) (hb : c.code = cc) {x y : Int} {off : Int} {tgt : Nat} (rx : rg x) (ry : rg y) (hdg : decode cc pc = .ok (.if_icmp .le off, 3)) (ht : (pc : Int) + off = (tgt : Int)) (kt : ¬ y < x → W p l e R s m args below meth c H locs cells slots Q (F0 m tgt ls rest)) (kf : y < x → W p l e R s m args below meth c H locs cells slots Q (F0 m (pc + 3) ls rest)) : W p l e R s m args below meth c H locs cells slots Q (F0 m pc ls (.int (iI y) :: .int (iI x) :: rest)) := lv_icmp_le hx hb hdg ht (fun q => kt (by have h := (iI_le rx ry).mp q; omega)) (fun q => kf (by by_cases z : y < x; exact z; exact absurd ((iI_le rx ry).mpr (by omega)) q))
theorem zr_iald (hx : p.tables.exec = Jvm.exec) (hb : c.code = cc) (hK : va_K G.1 vwCl (tz G) s) (hP : va_P G.1 vwCl ws H) (q0 : Nat) {n : Nat} {f : Int → Int} (ha : ws[q0]? = some (a, eI G n f)) {i : Int} (hr : rg i) (h0 : 0 ≤ i ∧ i < (n : Int)) (hdg : decode cc pc = .ok (.iaload, 1))
    (kk : W p l e R s m args below meth c H locs cells slots Q (F0 m (pc + 1) ls (.int (iI (f i)) :: rest))) : W p l e R s m args below meth c H locs cells slots Q (F0 m pc ls (.int (iI i) :: .ref a :: rest)) := va_iald hx hb hK hP q0 0 ha rfl (iI_in hr h0.1 h0.2) hdg (by rw [iA_at hr h0.1]; exact kk)
theorem zr_iast (hx : p.tables.exec = Jvm.exec) (hb : c.code = cc) (hK : va_K G.1 vwCl (tz G) s) (hP : va_P G.1 vwCl ws H) (hD : va_D A ws) (hS : va_S A H0 H locs) (q0 : Nat) {n : Nat} {f : Int → Int} (ha : ws[q0]? = some (a, eI G n f)) {i x : Int} (hr : rg i) (h0 : 0 ≤ i ∧ i < (n : Int)) (hdg : decode cc pc = .ok (.iastore, 1))
    (kk : ∀ (H1 : Heap) (locs1 : List Loc), va_P G.1 vwCl (ws.set q0 (a, eI G n (uZ f i x))) H1 → va_D A (ws.set q0 (a, eI G n (uZ f i x))) → va_S A H0 H1 locs1 → W p l e R s m args below meth c H1 locs1 cells slots Q (F0 m (pc + 1) ls rest)) : W p l e R s m args below meth c H locs cells slots Q (F0 m pc ls (.int (iI x) :: .int (iI i) :: .ref a :: rest)) := va_iast hx hb hK hP hD hS q0 0 ha rfl (iI_in hr h0.1 h0.2) hdg (by rw [iA_upd hr h0.1]; exact kk)
theorem zr_iret (hx : p.tables.exec = Jvm.exec) (hb : c.code = cc) (hr : meth.sig.returnType = some .int) (hlocks : meth.locks = false) (hK : va_K G.1 vwCl (tz G) s) {S : Type} {w1 : S → va_W} {post : Int → S → Prop} {z : Int} (u : S) (hP : va_P G.1 vwCl (w1 u) H) (hD : va_D A (w1 u)) (hS : va_S A s.heap H locs) (hdg : decode cc pc = .ok (.ireturn, 1)) (hp : post z u) : W p l e R s m args below meth c H locs 0 0 (ZQi G below args s A w1 post) (F0 m pc ls [.int (iI z)]) := W.iret hx hb hr (fun t ht hW => ⟨⟨iI z, u, rfl, ⟨z, rfl, hp⟩, by rw [ht]; exact hP, va_K.moved hW.alike hK, hD⟩, hS.F ht⟩) hS.2.2 hdg hlocks
theorem zr_zret (hx : p.tables.exec = Jvm.exec) (hb : c.code = cc) (hr : meth.sig.returnType = some .boolean) (hlocks : meth.locks = false) (hK : va_K G.1 vwCl (tz G) s) {S : Type} {w1 : S → va_W} {post : Int → S → Prop} {z : Int} (hz : z = 0 ∨ z = 1) (u : S) (hP : va_P G.1 vwCl (w1 u) H) (hD : va_D A (w1 u)) (hS : va_S A s.heap H locs) (hdg : decode cc pc = .ok (.ireturn, 1)) (hp : post z u) : W p l e R s m args below meth c H locs 0 0 (ZQi G below args s A w1 post) (F0 m pc ls [.int (iI z)]) := W.zret hx hb hr (by rcases hz with rfl | rfl <;> rfl) (fun t ht hW => ⟨⟨iI z, u, rfl, ⟨z, rfl, hp⟩, by rw [ht]; exact hP, va_K.moved hW.alike hK, hD⟩, hS.F ht⟩) hS.2.2 hdg hlocks
theorem zr_vret (hx : p.tables.exec = Jvm.exec) (hb : c.code = cc) (hr : meth.sig.returnType = none) (hlocks : meth.locks = false) (hK : va_K G.1 vwCl (tz G) s) {S : Type} {w1 : S → va_W} {post : S → Prop} (u : S) (hP : va_P G.1 vwCl (w1 u) H) (hD : va_D A (w1 u)) (hS : va_S A s.heap H locs) (hdg : decode cc pc = .ok (.return_, 1)) (hp : post u) : W p l e R s m args below meth c H locs 0 0 (ZQv G below args s A w1 post) (F0 m pc ls []) := W.vret hx hb hr (fun t ht hW => ⟨⟨u, rfl, hp, by rw [ht]; exact hP, va_K.moved hW.alike hK, hD⟩, hS.F ht⟩) hS.2.2 hdg hlocks
/-- a loop: the state σ of its head, an invariant, a measure -/
theorem zr_loop {σ : Type} (I : σ → Prop) (μ : σ → Nat) (Wd : σ → va_W) (Lv : σ → List (Nat × Value)) {nL : Nat} (x0 : σ) (h0 : I x0) (hP : va_P G.1 vwCl (Wd x0) H) (hD : va_D A (Wd x0)) (hS : va_S A H0 H locs) (hl : lv_has ls nL (Lv x0))
    (body : ∀ (x : σ) (H : Heap) (locs : List Loc) (ls : Array Slot), (∀ (x' : σ) (H' : Heap) (locs' : List Loc) (ls' : Array Slot), I x' → μ x' < μ x → va_P G.1 vwCl (Wd x') H' → va_D A (Wd x') → va_S A H0 H' locs' → lv_has ls' nL (Lv x') → W p l e R s m args below meth c H' locs' cells slots Q (F0 m pc ls' rest)) → I x → va_P G.1 vwCl (Wd x) H → va_D A (Wd x) → va_S A H0 H locs → lv_has ls nL (Lv x) → W p l e R s m args below meth c H locs cells slots Q (F0 m pc ls rest)) : W p l e R s m args below meth c H locs cells slots Q (F0 m pc ls rest) := by
  have key : ∀ (n : Nat) (x : σ) (H : Heap) (locs : List Loc) (ls : Array Slot), μ x < n → I x → va_P G.1 vwCl (Wd x) H → va_D A (Wd x) → va_S A H0 H locs → lv_has ls nL (Lv x) → W p l e R s m args below meth c H locs cells slots Q (F0 m pc ls rest) := by
    intro n
    induction n with
    | zero => intro x H locs ls h; exact absurd h (Nat.not_lt_zero _)
    | succ n ih => intro x H locs ls h hI hP hD hS hl; exact body x H locs ls (fun x' H' locs' ls' hI' hm hP' hD' hS' hl' => ih x' H' locs' ls' (by omega) hI' hP' hD' hS' hl') hI hP hD hS hl
  exact key (μ x0 + 1) x0 H locs ls (Nat.lt_succ_self _) h0 hP hD hS hl
variable {nL n index maxL fr lo ci N q0 : Nat} {Ts wsy : List Cond} {own C : String} {y : MethodName} {bytes : ByteArray} {ret : Option FieldType} {wc wr : va_W} {b : Addr} {As : List Value} {S : Type} {w1 : S → va_W} {T : u_T} {fs st : List Value}
theorem zb_v {b : Addr} {As : List Value} {sz : Nat} {G : ZG} {wc : va_W} : FrameBlind (va_Pc (.ref b :: As) (fun U => U.heap.size = sz ∧ va_P G.1 vwCl wc U.heap ∧ va_K G.1 vwCl (tz G) U ∧ va_D (fun _ => True) wc)) := fun a U g mk q => ⟨q.1, q.2.1, q.2.2.1, va_K.moved (u := U) (U := U.calling g mk a) (Vm.Alike.refl U.vm) q.2.2.2.1, q.2.2.2.2⟩
theorem zb_s {As : List Value} {sz : Nat} {G : ZG} {wc : va_W} : FrameBlind (va_Pc As (fun U => U.heap.size = sz ∧ va_P G.1 vwCl wc U.heap ∧ va_K G.1 vwCl (tz G) U ∧ va_D (fun _ => True) wc)) := fun a U g mk q => ⟨q.1, q.2.1, q.2.2.1, va_K.moved (u := U) (U := U.calling g mk a) (Vm.Alike.refl U.vm) q.2.2.2.1, q.2.2.2.2⟩
/-- a call of a method of an object, int answer -/
theorem zc_vi {post : Int → S → Prop} (hM : ZI l G y wsy fr lo (.ref b :: As) wc w1 post) (F : CallFix p m c cc nL s args Ts own) (cw : CallW R s args own C index y bytes maxL ret wsy ({ frames := fr, cells := 0, slots := 0, locals := lo }) 0 0 n) (hK : va_K G.1 vwCl (tz G) s) (hP : va_P G.1 vwCl ws H) (hD : va_D A ws) (hS : va_S A H0 H locs) (hA : ∀ q : Nat, H0.size ≤ q → A q) (he : ws[q0]? = some (b, .inr (ci, fs))) (hc : vwCl[ci]? = some (C, T, N)) (isC isR : List Nat) (hC : isC.map (fun i => ws[i]?) = wc.map some) (hCd : va_nd isC = true) (hR : isR.map (fun i => ws[i]?) = wr.map some) (hn : va_nd isR = true) (hdis : ∀ i ∈ isR, i ∉ isC) (hAs : As.length = n) (hls : ls.size = nL) (hst : st = As.reverse ++ .ref b :: rest) (hW : 2 * 0 + (rest.map fun v => v.category).sum ≤ 8) (hdg : decode cc pc = .ok (.invokevirtual index, 3)) (hf : cells ≤ R.cells ∧ slots ≤ R.slots)
    (kk : ∀ (z : Int) (u : S) (H1 : Heap) (locs1 : List Loc), post z u → va_P G.1 vwCl (wr ++ w1 u) H1 → va_D A (wr ++ w1 u) → va_S A H0 H1 locs1 → W p l e R s m args below meth c H1 locs1 cells slots Q (F0 m (pc + 3) ls (.int (iI z) :: rest))) : W p l e R s m args below meth c H locs cells slots Q (F0 m pc ls st) := by
  have hF := va_free (wc := wc) hD hS hA isC hC
  refine va_calli (va_runV (As := As) (rest := rest) F (hM H.size) cw ⟨zb_v, va_recv hK hP hc he, fun U hU hW => ⟨rfl, by rw [hU], ?_, va_K.moved hW.alike hK, (hD.sub isC hCd hC).weaken (fun _ _ _ _ => trivial)⟩⟩ rfl hAs hls hst hW hdg hf) hS (fun q _ h => hF q h) hF (fun r u t H1 locs ht hvm hw hB hz1 hk1 hS => ?_)
  · rw [hU]
    intro k q hk
    have h1 : (isC.map (fun i => ws[i]?))[k]? = some (some q) := by rw [hC, List.getElem?_map, hk]; rfl
    rw [List.getElem?_map] at h1
    cases hi : isC[k]? with
    | none => rw [hi] at h1; cases h1
    | some i => rw [hi] at h1; exact hP i q (Option.some.inj h1)
  · obtain ⟨z, rfl, hp⟩ := hw
    obtain ⟨hP1, hK1, hD1⟩ := hB
    rw [ht] at hP1
    obtain ⟨hPj, hDj⟩ := va_join (wr := wr) (w1 := w1 u) hP hD isC isR hC hR hn hdis hk1 hF hP1 hD1
    exact kk z u H1 locs hp hPj hDj hS
theorem zc_vv {post : S → Prop} (hM : ZV l G y wsy fr lo (.ref b :: As) wc w1 post) (F : CallFix p m c cc nL s args Ts own) (cw : CallW R s args own C index y bytes maxL ret wsy ({ frames := fr, cells := 0, slots := 0, locals := lo }) 0 0 n) (hK : va_K G.1 vwCl (tz G) s) (hP : va_P G.1 vwCl ws H) (hD : va_D A ws) (hS : va_S A H0 H locs) (hA : ∀ q : Nat, H0.size ≤ q → A q) (he : ws[q0]? = some (b, .inr (ci, fs))) (hc : vwCl[ci]? = some (C, T, N)) (isC isR : List Nat) (hC : isC.map (fun i => ws[i]?) = wc.map some) (hCd : va_nd isC = true) (hR : isR.map (fun i => ws[i]?) = wr.map some) (hn : va_nd isR = true) (hdis : ∀ i ∈ isR, i ∉ isC) (hAs : As.length = n) (hls : ls.size = nL) (hst : st = As.reverse ++ .ref b :: rest) (hW : 2 * 0 + (rest.map fun v => v.category).sum ≤ 8) (hdg : decode cc pc = .ok (.invokevirtual index, 3)) (hf : cells ≤ R.cells ∧ slots ≤ R.slots)
    (kk : ∀ (u : S) (H1 : Heap) (locs1 : List Loc), post u → va_P G.1 vwCl (wr ++ w1 u) H1 → va_D A (wr ++ w1 u) → va_S A H0 H1 locs1 → W p l e R s m args below meth c H1 locs1 cells slots Q (F0 m (pc + 3) ls rest)) : W p l e R s m args below meth c H locs cells slots Q (F0 m pc ls st) := by
  have hF := va_free (wc := wc) hD hS hA isC hC
  refine va_callv (va_runV (As := As) (rest := rest) F (hM H.size) cw ⟨zb_v, va_recv hK hP hc he, fun U hU hW => ⟨rfl, by rw [hU], ?_, va_K.moved hW.alike hK, (hD.sub isC hCd hC).weaken (fun _ _ _ _ => trivial)⟩⟩ rfl hAs hls hst hW hdg hf) hS (fun q _ h => hF q h) hF (fun u t H1 locs ht hvm hw hB hz1 hk1 hS => ?_)
  · rw [hU]
    intro k q hk
    have h1 : (isC.map (fun i => ws[i]?))[k]? = some (some q) := by rw [hC, List.getElem?_map, hk]; rfl
    rw [List.getElem?_map] at h1
    cases hi : isC[k]? with
    | none => rw [hi] at h1; cases h1
    | some i => rw [hi] at h1; exact hP i q (Option.some.inj h1)
  · obtain ⟨hP1, hK1, hD1⟩ := hB
    rw [ht] at hP1
    obtain ⟨hPj, hDj⟩ := va_join (wr := wr) (w1 := w1 u) hP hD isC isR hC hR hn hdis hk1 hF hP1 hD1
    exact kk u H1 locs hw hPj hDj hS
/-- a call of a static method that reads no cell, int answer -/
theorem zc_si {post : Int → Unit → Prop} (hM : ZI l G y wsy fr lo As [] (fun _ : Unit => []) post) (F : CallFix p m c cc nL s args Ts own) (cw : CallB R s args own index y bytes maxL ret wsy ({ frames := fr, cells := 0, slots := 0, locals := lo }) 0 0 n ∧ (Cond.static y).before args s = true) (hK : va_K G.1 vwCl (tz G) s) (hP : va_P G.1 vwCl ws H) (hD : va_D A ws) (hS : va_S A H0 H locs) (hA : ∀ q : Nat, H0.size ≤ q → A q) (hAs : As.length = n) (hls : ls.size = nL) (hst : st = As.reverse ++ rest) (hW : 2 * 0 + (rest.map fun v => v.category).sum ≤ 8) (hdg : decode cc pc = .ok (.invokestatic index, 3)) (hf : cells ≤ R.cells ∧ slots ≤ R.slots)
    (kk : ∀ (z : Int) (H1 : Heap) (locs1 : List Loc), post z () → va_P G.1 vwCl ws H1 → va_D A ws → va_S A H0 H1 locs1 → W p l e R s m args below meth c H1 locs1 cells slots Q (F0 m (pc + 3) ls (.int (iI z) :: rest))) : W p l e R s m args below meth c H locs cells slots Q (F0 m pc ls st) := by
  have hF := va_free (wc := []) hD hS hA [] rfl
  refine va_calli (va_runS (As := As) (rest := rest) F (hM H.size) cw ⟨zb_s, fun U hU hW => ⟨rfl, by rw [hU], fun k q hk => by simp at hk, va_K.moved hW.alike hK, ⟨fun i j p q h => by simp at h, fun k q h => by simp at h⟩⟩⟩ rfl hAs hls hst hW hdg hf) hS (fun q _ h => hF q h) hF (fun r u t H1 locs ht hvm hw hB hz1 hk1 hS => ?_)
  obtain ⟨z, rfl, hp⟩ := hw
  refine kk z H1 locs hp (hP.kept fun k q hk => hk1 q.1 (hP k q hk).lt (fun h => ?_)) hD hS
  rcases h with ⟨k2, e, h⟩ | h
  · simp at h
  · have := (hP k q hk).lt
    omega
end ZR
