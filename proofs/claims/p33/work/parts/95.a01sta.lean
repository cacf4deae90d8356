/-! ===== static methods with cells; constants out of bits ===== -/
section ZS
variable {p : Program} {l : Launch} {e : Env} {R : Room} {s : State} {m : MethodId} {args : Array Value} {below : List Frame} {meth : Method} {c : Code} {H H0 : Heap} {locs : List Loc} {cells slots : Nat} {Q : State → Prop} {cc : ByteArray} {pc : Nat} {ls : Array Slot} {rest : List Value} {G : ZG} {A : Nat → Prop} {ws : va_W}
variable {nL n index maxL fr lo ci N : Nat} {Ts wsy : List Cond} {own C : String} {y : MethodName} {bytes : ByteArray} {ret : Option FieldType} {wc : va_W} {b : Addr} {As : List Value} {S : Type} {T : u_T} {fs st : List Value} {L LC LR : List va_W} {LC1 L2 : S → List va_W}
theorem zs_vi {post : Int → S → Prop} (hM : ZI l G y wsy fr lo As (flt LC) (fun u => flt (LC1 u)) post) (F : CallFix p m c cc nL s args Ts own) (cw : CallB R s args own index y bytes maxL ret wsy ({ frames := fr, cells := 0, slots := 0, locals := lo }) 0 0 n ∧ (Cond.static y).before args s = true) (hK : va_K G.1 vwCl (tz G) s) (hP : va_P G.1 vwCl (flt L) H) (hD : va_D A (flt L)) (hS : va_S A H0 H locs) (hA : ∀ q : Nat, H0.size ≤ q → A q) (isC isR perm : List Nat) (hC : isC.map (fun i => L.getD i []) = LC) (hR : isR.map (fun i => L.getD i []) = LR) (nL1 : Nat) (hL1 : L.length = nL1) (hp0 : (isC ++ isR).isPerm (List.range nL1) = true) (hp2 : ∀ u : S, perm.map (fun i => (LC1 u ++ LR).getD i []) = L2 u) (hL2 : ∀ u : S, (LC1 u ++ LR).length = nL1) (hpn0 : perm.isPerm (List.range nL1) = true) (hAs : As.length = n) (hls : ls.size = nL) (hst : st = As.reverse ++ rest) (hW : 2 * 0 + (rest.map fun v => v.category).sum ≤ 8) (hdg : decode cc pc = .ok (.invokestatic index, 3)) (hf : cells ≤ R.cells ∧ slots ≤ R.slots)
    (kk : ∀ (z : Int) (u : S) (H1 : Heap) (locs1 : List Loc), post z u → va_P G.1 vwCl (flt (L2 u)) H1 → va_D A (flt (L2 u)) → va_S A H0 H1 locs1 → W p l e R s m args below meth c H1 locs1 cells slots Q (F0 m (pc + 3) ls (.int (iI z) :: rest))) : W p l e R s m args below meth c H locs cells slots Q (F0 m pc ls st) := by
  have hp : (isC ++ isR).isPerm (List.range L.length) = true := by rw [hL1]; exact hp0
  have hpn : ∀ u : S, perm.isPerm (List.range (LC1 u ++ LR).length) = true := fun u => by rw [hL2 u]; exact hpn0
  obtain ⟨hP', hD'⟩ := zq_split isC isR hC hR hp hP hD
  have hPc : va_P G.1 vwCl (flt LC) H := zq_P.mpr (fun q hq => zq_P.mp hP' q (List.mem_append_left _ hq))
  have hDc : va_D A (flt LC) := by
    obtain ⟨a, b⟩ := zq_D.mp hD'
    rw [List.map_append, List.nodup_append] at a
    exact zq_D.mpr ⟨a.1, fun q hq => b q (List.mem_append_left _ hq)⟩
  have hF : ∀ q, va_A (flt LC) H.size q → A q := fun q h => by
    rcases h with ⟨k, e, h⟩ | h
    · exact hDc.2 k _ h
    · exact hA q (Nat.le_trans hS.1 h)
  refine va_calli (va_runS (As := As) (rest := rest) F (hM H.size) cw ⟨zb_s, fun U hU hW => ⟨rfl, by rw [hU], by rw [hU]; exact hPc, va_K.moved hW.alike hK, hDc.weaken (fun _ _ _ _ => trivial)⟩⟩ rfl hAs hls hst hW hdg hf) hS (fun q _ h => hF q h) hF (fun r u t H1 locs ht hvm hw hB hz1 hk1 hS => ?_)
  obtain ⟨z, rfl, hpo⟩ := hw
  obtain ⟨hP1, hK1, hD1⟩ := hB
  rw [ht] at hP1
  obtain ⟨hPj, hDj⟩ := zq_join hP' hD' hk1 hF hP1 hD1
  rw [← flt_app] at hPj hDj
  have pp := flt_perm perm (hpn u) (hp2 u)
  exact kk z u H1 locs hpo (zq_Pp pp hPj) (zq_Dp pp hDj) hS
theorem zs_vv {post : S → Prop} (hM : ZV l G y wsy fr lo As (flt LC) (fun u => flt (LC1 u)) post) (F : CallFix p m c cc nL s args Ts own) (cw : CallB R s args own index y bytes maxL ret wsy ({ frames := fr, cells := 0, slots := 0, locals := lo }) 0 0 n ∧ (Cond.static y).before args s = true) (hK : va_K G.1 vwCl (tz G) s) (hP : va_P G.1 vwCl (flt L) H) (hD : va_D A (flt L)) (hS : va_S A H0 H locs) (hA : ∀ q : Nat, H0.size ≤ q → A q) (isC isR perm : List Nat) (hC : isC.map (fun i => L.getD i []) = LC) (hR : isR.map (fun i => L.getD i []) = LR) (nL1 : Nat) (hL1 : L.length = nL1) (hp0 : (isC ++ isR).isPerm (List.range nL1) = true) (hp2 : ∀ u : S, perm.map (fun i => (LC1 u ++ LR).getD i []) = L2 u) (hL2 : ∀ u : S, (LC1 u ++ LR).length = nL1) (hpn0 : perm.isPerm (List.range nL1) = true) (hAs : As.length = n) (hls : ls.size = nL) (hst : st = As.reverse ++ rest) (hW : 2 * 0 + (rest.map fun v => v.category).sum ≤ 8) (hdg : decode cc pc = .ok (.invokestatic index, 3)) (hf : cells ≤ R.cells ∧ slots ≤ R.slots)
    (kk : ∀ (u : S) (H1 : Heap) (locs1 : List Loc), post u → va_P G.1 vwCl (flt (L2 u)) H1 → va_D A (flt (L2 u)) → va_S A H0 H1 locs1 → W p l e R s m args below meth c H1 locs1 cells slots Q (F0 m (pc + 3) ls rest)) : W p l e R s m args below meth c H locs cells slots Q (F0 m pc ls st) := by
  have hp : (isC ++ isR).isPerm (List.range L.length) = true := by rw [hL1]; exact hp0
  have hpn : ∀ u : S, perm.isPerm (List.range (LC1 u ++ LR).length) = true := fun u => by rw [hL2 u]; exact hpn0
  obtain ⟨hP', hD'⟩ := zq_split isC isR hC hR hp hP hD
  have hPc : va_P G.1 vwCl (flt LC) H := zq_P.mpr (fun q hq => zq_P.mp hP' q (List.mem_append_left _ hq))
  have hDc : va_D A (flt LC) := by
    obtain ⟨a, b⟩ := zq_D.mp hD'
    rw [List.map_append, List.nodup_append] at a
    exact zq_D.mpr ⟨a.1, fun q hq => b q (List.mem_append_left _ hq)⟩
  have hF : ∀ q, va_A (flt LC) H.size q → A q := fun q h => by
    rcases h with ⟨k, e, h⟩ | h
    · exact hDc.2 k _ h
    · exact hA q (Nat.le_trans hS.1 h)
  refine va_callv (va_runS (As := As) (rest := rest) F (hM H.size) cw ⟨zb_s, fun U hU hW => ⟨rfl, by rw [hU], by rw [hU]; exact hPc, va_K.moved hW.alike hK, hDc.weaken (fun _ _ _ _ => trivial)⟩⟩ rfl hAs hls hst hW hdg hf) hS (fun q _ h => hF q h) hF (fun u t H1 locs ht hvm hpo hB hz1 hk1 hS => ?_)
  obtain ⟨hP1, hK1, hD1⟩ := hB
  rw [ht] at hP1
  obtain ⟨hPj, hDj⟩ := zq_join hP' hD' hk1 hF hP1 hD1
  rw [← flt_app] at hPj hDj
  have pp := flt_perm perm (hpn u) (hp2 u)
  exact kk u H1 locs hpo (zq_Pp pp hPj) (zq_Dp pp hDj) hS
theorem zs_viR {post : Int → Unit → Prop} (hM : ZI l G y wsy fr lo As wc (fun _ : Unit => wc) post) (F : CallFix p m c cc nL s args Ts own) (cw : CallB R s args own index y bytes maxL ret wsy ({ frames := fr, cells := 0, slots := 0, locals := lo }) 0 0 n ∧ (Cond.static y).before args s = true) (hK : va_K G.1 vwCl (tz G) s) (hP : va_P G.1 vwCl ws H) (hD : va_D A ws) (hS : va_S A H0 H locs) (hA : ∀ q : Nat, H0.size ≤ q → A q) (isC : List Nat) (hC : isC.map (fun i => ws[i]?) = wc.map some) (hCd : va_nd isC = true) (hAs : As.length = n) (hls : ls.size = nL) (hst : st = As.reverse ++ rest) (hW : 2 * 0 + (rest.map fun v => v.category).sum ≤ 8) (hdg : decode cc pc = .ok (.invokestatic index, 3)) (hf : cells ≤ R.cells ∧ slots ≤ R.slots)
    (kk : ∀ (z : Int) (H1 : Heap) (locs1 : List Loc), post z () → va_P G.1 vwCl ws H1 → va_D A ws → va_S A H0 H1 locs1 → W p l e R s m args below meth c H1 locs1 cells slots Q (F0 m (pc + 3) ls (.int (iI z) :: rest))) : W p l e R s m args below meth c H locs cells slots Q (F0 m pc ls st) := by
  have hF := va_free (wc := wc) hD hS hA isC hC
  have hDc := hD.sub isC hCd hC
  have hPc : va_P G.1 vwCl wc H := by
    intro k q hk
    have h1 : (isC.map (fun i => ws[i]?))[k]? = some (some q) := by rw [hC, List.getElem?_map, hk]; rfl
    rw [List.getElem?_map] at h1
    cases hi : isC[k]? with
    | none => rw [hi] at h1; cases h1
    | some i => rw [hi] at h1; exact hP i q (Option.some.inj h1)
  refine va_calli (va_runS (As := As) (rest := rest) F (hM H.size) cw ⟨zb_s, fun U hU hW => ⟨rfl, by rw [hU], by rw [hU]; exact hPc, va_K.moved hW.alike hK, hDc.weaken (fun _ _ _ _ => trivial)⟩⟩ rfl hAs hls hst hW hdg hf) hS (fun q _ h => hF q h) hF (fun r u t H1 locs ht hvm hw hB hz1 hk1 hS => ?_)
  obtain ⟨z, rfl, hpo⟩ := hw
  obtain ⟨hP1, hK1, hD1⟩ := hB
  rw [ht] at hP1
  exact kk z H1 locs hpo (zq_read isC hC hP hD hk1 hP1) hD hS
theorem zr_ishr (hx : p.tables.exec = Jvm.exec) (hb : c.code = cc) {x y : Int} (hdg : decode cc pc = .ok (.ishr, 1)) (k : ∀ q : Int, rg q → W p l e R s m args below meth c H locs cells slots Q (F0 m (pc + 1) ls (.int (iI q) :: rest))) : W p l e R s m args below meth c H locs cells slots Q (F0 m pc ls (.int (iI y) :: .int (iI x) :: rest)) := lv_ishr hx hb hdg (by have h := k (iI x >>> (iI y &&& 31)).toInt (rg_of _); rw [iI_of] at h; exact h)
theorem zr_iand (hx : p.tables.exec = Jvm.exec) (hb : c.code = cc) {x y : Int} (hdg : decode cc pc = .ok (.iand, 1)) (k : ∀ q : Int, rg q → W p l e R s m args below meth c H locs cells slots Q (F0 m (pc + 1) ls (.int (iI q) :: rest))) : W p l e R s m args below meth c H locs cells slots Q (F0 m pc ls (.int (iI y) :: .int (iI x) :: rest)) := lv_iand hx hb hdg (by have h := k (iI x &&& iI y).toInt (rg_of _); rw [iI_of] at h; exact h)
end ZS
