/-! ===== worlds of many blocks: calls by whole blocks, and calls that only read ===== -/
def flt : List va_W → va_W
  | [] => []
  | [a] => a
  | a :: b :: t => a ++ flt (b :: t)
theorem flt_eq : ∀ L : List va_W, flt L = L.flatten
  | [] => rfl
  | [a] => by show a = a ++ []; rw [List.append_nil]
  | a :: b :: t => by
    show a ++ flt (b :: t) = a ++ (b :: t).flatten
    rw [flt_eq (b :: t)]
theorem zq_P {D : va_G} {cl : List vw_C} {ws : va_W} {H : Heap} : va_P D cl ws H ↔ ∀ q ∈ ws, va_at D cl q H := by
  refine ⟨fun h q hq => ?_, fun h k q hk => h q (List.mem_of_getElem? hk)⟩
  obtain ⟨k, hk⟩ := List.mem_iff_getElem?.mp hq
  exact h k q hk
theorem zq_nd {ws : va_W} : (∀ (i j : Nat) (p q : Nat × va_E), ws[i]? = some p → ws[j]? = some q → p.1 = q.1 → i = j) ↔ (ws.map Prod.fst).Nodup := by
  unfold List.Nodup
  rw [List.pairwise_iff_getElem]
  refine ⟨fun h i j hi hj hij e => ?_, fun h i j p q hi hj e => ?_⟩
  · rw [List.length_map] at hi hj
    rw [List.getElem_map, List.getElem_map] at e
    have := h i j ws[i] ws[j] (List.getElem?_eq_getElem hi) (List.getElem?_eq_getElem hj) e
    omega
  · obtain ⟨hi1, hi2⟩ := List.getElem?_eq_some_iff.mp hi
    obtain ⟨hj1, hj2⟩ := List.getElem?_eq_some_iff.mp hj
    rcases Nat.lt_trichotomy i j with c | c | c
    · refine absurd ?_ (h i j (by rw [List.length_map]; exact hi1) (by rw [List.length_map]; exact hj1) c)
      rw [List.getElem_map, List.getElem_map, hi2, hj2]; exact e
    · exact c
    · refine absurd ?_ (h j i (by rw [List.length_map]; exact hj1) (by rw [List.length_map]; exact hi1) c)
      rw [List.getElem_map, List.getElem_map, hi2, hj2]; exact e.symm
theorem zq_D {A : Nat → Prop} {ws : va_W} : va_D A ws ↔ (ws.map Prod.fst).Nodup ∧ ∀ q ∈ ws, A q.1 := by
  unfold va_D
  rw [zq_nd]
  refine and_congr_right (fun _ => ⟨fun h q hq => ?_, fun h k q hk => h q (List.mem_of_getElem? hk)⟩)
  obtain ⟨k, hk⟩ := List.mem_iff_getElem?.mp hq
  exact h k q hk
theorem zq_Pp {D : va_G} {cl : List vw_C} {ws ws' : va_W} {H : Heap} (p : ws.Perm ws') (h : va_P D cl ws H) : va_P D cl ws' H := zq_P.mpr (fun q hq => zq_P.mp h q (p.mem_iff.mpr hq))
theorem zq_Dp {A : Nat → Prop} {ws ws' : va_W} (p : ws.Perm ws') (h : va_D A ws) : va_D A ws' := by
  obtain ⟨h1, h2⟩ := zq_D.mp h
  exact zq_D.mpr ⟨(p.map Prod.fst).nodup_iff.mp h1, fun q hq => h2 q (p.mem_iff.mpr hq)⟩
theorem flat_perm : ∀ {L L' : List va_W}, L.Perm L' → L.flatten.Perm L'.flatten := by
  intro L L' p
  induction p with
  | nil => exact List.Perm.refl _
  | cons x _ ih =>
    rw [List.flatten_cons, List.flatten_cons]
    exact ih.append_left x
  | swap x y l =>
    rw [List.flatten_cons, List.flatten_cons, List.flatten_cons, List.flatten_cons, ← List.append_assoc, ← List.append_assoc]
    exact (List.perm_append_comm).append_right _
  | trans _ _ ih1 ih2 => exact ih1.trans ih2
theorem getD_range (L : List va_W) : (List.range L.length).map (fun i => L.getD i []) = L := by
  refine List.ext_getElem (by rw [List.length_map, List.length_range]) (fun i h1 h2 => ?_)
  rw [List.getElem_map, List.getElem_range]
  show L.getD i [] = L[i]
  rw [List.getD_eq_getElem?_getD, List.getElem?_eq_getElem h2]
  rfl
/-- blocks in another order -/
theorem flt_perm {L L' : List va_W} (is : List Nat) (h : is.isPerm (List.range L.length) = true) (hL : is.map (fun i => L.getD i []) = L') : (flt L).Perm (flt L') := by
  rw [flt_eq, flt_eq, ← hL]
  have p := (List.isPerm_iff.mp h).map (fun i => L.getD i [])
  rw [getD_range] at p
  exact (flat_perm p).symm
theorem flt_app (L L' : List va_W) : flt (L ++ L') = flt L ++ flt L' := by
  rw [flt_eq, flt_eq, flt_eq, List.flatten_append]
/-- behind a call: the callee's world beside the rest -/
theorem zq_join {A0 : Nat → Prop} {D : va_G} {cl : List vw_C} {wc wr w1 : va_W} {H H1 : Heap} (hP : va_P D cl (wc ++ wr) H) (hD : va_D A0 (wc ++ wr)) (hk : ∀ q : Nat, q < H.size → ¬ va_A wc H.size q → H1[q]? = H[q]?) (hF : ∀ q, va_A wc H.size q → A0 q) (hP1 : va_P D cl w1 H1) (hD1 : va_D (va_A wc H.size) w1) : va_P D cl (w1 ++ wr) H1 ∧ va_D A0 (w1 ++ wr) := by
  have P := zq_P.mp hP
  obtain ⟨n1, n2⟩ := zq_D.mp hD
  obtain ⟨m1, m2⟩ := zq_D.mp hD1
  rw [List.map_append, List.nodup_append] at n1
  obtain ⟨na, nb, nc⟩ := n1
  have out : ∀ q ∈ wr, ¬ va_A wc H.size q.1 := fun q hq h => by
    rcases h with ⟨k, e, h⟩ | h
    · exact nc q.1 (List.mem_map.mpr ⟨(q.1, e), List.mem_of_getElem? h, rfl⟩) q.1 (List.mem_map.mpr ⟨q, hq, rfl⟩) rfl
    · have := (P q (List.mem_append_right _ hq)).lt
      omega
  refine ⟨zq_P.mpr (fun q hq => ?_), zq_D.mpr ⟨?_, fun q hq => ?_⟩⟩
  · rcases List.mem_append.mp hq with h | h
    · exact zq_P.mp hP1 q h
    · exact (P q (List.mem_append_right _ h)).kept (hk q.1 (P q (List.mem_append_right _ h)).lt (out q h))
  · rw [List.map_append, List.nodup_append]
    refine ⟨m1, nb, fun a ha b hb e => ?_⟩
    obtain ⟨p, hp, rfl⟩ := List.mem_map.mp ha
    obtain ⟨q, hq, rfl⟩ := List.mem_map.mp hb
    exact out q hq (by rw [← e]; exact m2 p hp)
  · rcases List.mem_append.mp hq with h | h
    · exact hF _ (m2 q h)
    · exact n2 q (List.mem_append_right _ h)
theorem zq_split {A0 : Nat → Prop} {D : va_G} {cl : List vw_C} {L LC LR : List va_W} {H : Heap} (isC isR : List Nat) (hC : isC.map (fun i => L.getD i []) = LC) (hR : isR.map (fun i => L.getD i []) = LR) (hp : (isC ++ isR).isPerm (List.range L.length) = true) (hP : va_P D cl (flt L) H) (hD : va_D A0 (flt L)) : va_P D cl (flt LC ++ flt LR) H ∧ va_D A0 (flt LC ++ flt LR) := by
  have e : (isC ++ isR).map (fun i => L.getD i []) = LC ++ LR := by rw [List.map_append, hC, hR]
  have p := flt_perm (isC ++ isR) hp e
  rw [flt_app] at p
  exact ⟨zq_Pp p hP, zq_Dp p hD⟩
section ZQ
variable {p : Program} {l : Launch} {e : Env} {R : Room} {s : State} {m : MethodId} {args : Array Value} {below : List Frame} {meth : Method} {c : Code} {H H0 : Heap} {locs : List Loc} {cells slots : Nat} {Q : State → Prop} {cc : ByteArray} {pc : Nat} {ls : Array Slot} {rest : List Value} {G : ZG} {A : Nat → Prop} {ws : va_W}
variable {nL n index maxL fr lo ci N : Nat} {Ts wsy : List Cond} {own C : String} {y : MethodName} {bytes : ByteArray} {ret : Option FieldType} {wc : va_W} {b : Addr} {As : List Value} {S : Type} {T : u_T} {fs st : List Value} {L LC LR : List va_W} {LC1 L2 : S → List va_W}
theorem zq_vi {post : Int → S → Prop} (hM : ZI l G y wsy fr lo (.ref b :: As) (flt LC) (fun u => flt (LC1 u)) post) (F : CallFix p m c cc nL s args Ts own) (cw : CallW R s args own C index y bytes maxL ret wsy ({ frames := fr, cells := 0, slots := 0, locals := lo }) 0 0 n) (hK : va_K G.1 vwCl (tz G) s) (hP : va_P G.1 vwCl (flt L) H) (hD : va_D A (flt L)) (hS : va_S A H0 H locs) (hA : ∀ q : Nat, H0.size ≤ q → A q) (he : (flt LC)[0]? = some (b, .inr (ci, fs))) (hc : vwCl[ci]? = some (C, T, N)) (isC isR perm : List Nat) (hC : isC.map (fun i => L.getD i []) = LC) (hR : isR.map (fun i => L.getD i []) = LR) (nL1 : Nat) (hL1 : L.length = nL1) (hp0 : (isC ++ isR).isPerm (List.range nL1) = true) (hp2 : ∀ u : S, perm.map (fun i => (LC1 u ++ LR).getD i []) = L2 u) (hL2 : ∀ u : S, (LC1 u ++ LR).length = nL1) (hpn0 : perm.isPerm (List.range nL1) = true) (hAs : As.length = n) (hls : ls.size = nL) (hst : st = As.reverse ++ .ref b :: rest) (hW : 2 * 0 + (rest.map fun v => v.category).sum ≤ 8) (hdg : decode cc pc = .ok (.invokevirtual index, 3)) (hf : cells ≤ R.cells ∧ slots ≤ R.slots)
    (kk : ∀ (z : Int) (u : S) (H1 : Heap) (locs1 : List Loc), post z u → va_P G.1 vwCl (flt (L2 u)) H1 → va_D A (flt (L2 u)) → va_S A H0 H1 locs1 → W p l e R s m args below meth c H1 locs1 cells slots Q (F0 m (pc + 3) ls (.int (iI z) :: rest))) : W p l e R s m args below meth c H locs cells slots Q (F0 m pc ls st) := by
  have hp : (isC ++ isR).isPerm (List.range L.length) = true := by rw [hL1]; exact hp0
  have hpn : ∀ u : S, perm.isPerm (List.range (LC1 u ++ LR).length) = true := fun u => by rw [hL2 u]; exact hpn0
  obtain ⟨hP', hD'⟩ := zq_split isC isR hC hR hp hP hD
  have hPc : va_P G.1 vwCl (flt LC) H := zq_P.mpr (fun q hq => zq_P.mp hP' q (List.mem_append_left _ hq))
  have hDc : va_D A (flt LC) := by
    obtain ⟨a, b⟩ := zq_D.mp hD'
    rw [List.map_append, List.nodup_append] at a
    exact zq_D.mpr ⟨a.1, fun q hq => b q (List.mem_append_left _ hq)⟩
  have hF : ∀ q, va_A (flt LC) H.size q → A q := fun q h => by
    rcases h with ⟨k, e, h⟩ | h
    · exact hDc.2 k _ h
    · exact hA q (Nat.le_trans hS.1 h)
  refine va_calli (va_runV (As := As) (rest := rest) F (hM H.size) cw ⟨zb_v, va_recv hK hPc hc he, fun U hU hW => ⟨rfl, by rw [hU], by rw [hU]; exact hPc, va_K.moved hW.alike hK, hDc.weaken (fun _ _ _ _ => trivial)⟩⟩ rfl hAs hls hst hW hdg hf) hS (fun q _ h => hF q h) hF (fun r u t H1 locs ht hvm hw hB hz1 hk1 hS => ?_)
  obtain ⟨z, rfl, hpo⟩ := hw
  obtain ⟨hP1, hK1, hD1⟩ := hB
  rw [ht] at hP1
  obtain ⟨hPj, hDj⟩ := zq_join hP' hD' hk1 hF hP1 hD1
  rw [← flt_app] at hPj hDj
  have pp := flt_perm perm (hpn u) (hp2 u)
  exact kk z u H1 locs hpo (zq_Pp pp hPj) (zq_Dp pp hDj) hS
theorem zq_vv {post : S → Prop} (hM : ZV l G y wsy fr lo (.ref b :: As) (flt LC) (fun u => flt (LC1 u)) post) (F : CallFix p m c cc nL s args Ts own) (cw : CallW R s args own C index y bytes maxL ret wsy ({ frames := fr, cells := 0, slots := 0, locals := lo }) 0 0 n) (hK : va_K G.1 vwCl (tz G) s) (hP : va_P G.1 vwCl (flt L) H) (hD : va_D A (flt L)) (hS : va_S A H0 H locs) (hA : ∀ q : Nat, H0.size ≤ q → A q) (he : (flt LC)[0]? = some (b, .inr (ci, fs))) (hc : vwCl[ci]? = some (C, T, N)) (isC isR perm : List Nat) (hC : isC.map (fun i => L.getD i []) = LC) (hR : isR.map (fun i => L.getD i []) = LR) (nL1 : Nat) (hL1 : L.length = nL1) (hp0 : (isC ++ isR).isPerm (List.range nL1) = true) (hp2 : ∀ u : S, perm.map (fun i => (LC1 u ++ LR).getD i []) = L2 u) (hL2 : ∀ u : S, (LC1 u ++ LR).length = nL1) (hpn0 : perm.isPerm (List.range nL1) = true) (hAs : As.length = n) (hls : ls.size = nL) (hst : st = As.reverse ++ .ref b :: rest) (hW : 2 * 0 + (rest.map fun v => v.category).sum ≤ 8) (hdg : decode cc pc = .ok (.invokevirtual index, 3)) (hf : cells ≤ R.cells ∧ slots ≤ R.slots)
    (kk : ∀ (u : S) (H1 : Heap) (locs1 : List Loc), post u → va_P G.1 vwCl (flt (L2 u)) H1 → va_D A (flt (L2 u)) → va_S A H0 H1 locs1 → W p l e R s m args below meth c H1 locs1 cells slots Q (F0 m (pc + 3) ls rest)) : W p l e R s m args below meth c H locs cells slots Q (F0 m pc ls st) := by
  have hp : (isC ++ isR).isPerm (List.range L.length) = true := by rw [hL1]; exact hp0
  have hpn : ∀ u : S, perm.isPerm (List.range (LC1 u ++ LR).length) = true := fun u => by rw [hL2 u]; exact hpn0
  obtain ⟨hP', hD'⟩ := zq_split isC isR hC hR hp hP hD
  have hPc : va_P G.1 vwCl (flt LC) H := zq_P.mpr (fun q hq => zq_P.mp hP' q (List.mem_append_left _ hq))
  have hDc : va_D A (flt LC) := by
    obtain ⟨a, b⟩ := zq_D.mp hD'
    rw [List.map_append, List.nodup_append] at a
    exact zq_D.mpr ⟨a.1, fun q hq => b q (List.mem_append_left _ hq)⟩
  have hF : ∀ q, va_A (flt LC) H.size q → A q := fun q h => by
    rcases h with ⟨k, e, h⟩ | h
    · exact hDc.2 k _ h
    · exact hA q (Nat.le_trans hS.1 h)
  refine va_callv (va_runV (As := As) (rest := rest) F (hM H.size) cw ⟨zb_v, va_recv hK hPc hc he, fun U hU hW => ⟨rfl, by rw [hU], by rw [hU]; exact hPc, va_K.moved hW.alike hK, hDc.weaken (fun _ _ _ _ => trivial)⟩⟩ rfl hAs hls hst hW hdg hf) hS (fun q _ h => hF q h) hF (fun u t H1 locs ht hvm hpo hB hz1 hk1 hS => ?_)
  obtain ⟨hP1, hK1, hD1⟩ := hB
  rw [ht] at hP1
  obtain ⟨hPj, hDj⟩ := zq_join hP' hD' hk1 hF hP1 hD1
  rw [← flt_app] at hPj hDj
  have pp := flt_perm perm (hpn u) (hp2 u)
  exact kk u H1 locs hpo (zq_Pp pp hPj) (zq_Dp pp hDj) hS
/-- a call that only reads -/
theorem zq_read {A0 : Nat → Prop} {D : va_G} {cl : List vw_C} {H1 : Heap} (isC : List Nat) (hC : isC.map (fun i => ws[i]?) = wc.map some) (hP : va_P D cl ws H) (hD : va_D A0 ws) (hk : ∀ q : Nat, q < H.size → ¬ va_A wc H.size q → H1[q]? = H[q]?) (hP1 : va_P D cl wc H1) : va_P D cl ws H1 := by
  have sub : ∀ q ∈ wc, q ∈ ws := fun q hq => by
    have h1 : some q ∈ wc.map some := List.mem_map.mpr ⟨q, hq, rfl⟩
    rw [← hC] at h1
    obtain ⟨i, _, hi⟩ := List.mem_map.mp h1
    exact List.mem_of_getElem? hi
  have P := zq_P.mp hP
  refine zq_P.mpr (fun q hq => ?_)
  by_cases h : va_A wc H.size q.1
  · rcases h with ⟨k, e, h⟩ | h
    · have hm := List.mem_of_getElem? h
      have hs := sub _ hm
      obtain ⟨i, hi⟩ := List.mem_iff_getElem?.mp hs
      obtain ⟨j, hj⟩ := List.mem_iff_getElem?.mp hq
      have := hD.1 i j _ _ hi hj rfl
      subst this
      rw [hi] at hj
      have e2 := Option.some.inj hj
      rw [← e2]
      exact zq_P.mp hP1 _ hm
    · have := (P q hq).lt
      omega
  · exact (P q hq).kept (hk q.1 (P q hq).lt h)
theorem zq_viR {post : Int → Unit → Prop} (hM : ZI l G y wsy fr lo (.ref b :: As) wc (fun _ : Unit => wc) post) (F : CallFix p m c cc nL s args Ts own) (cw : CallW R s args own C index y bytes maxL ret wsy ({ frames := fr, cells := 0, slots := 0, locals := lo }) 0 0 n) (hK : va_K G.1 vwCl (tz G) s) (hP : va_P G.1 vwCl ws H) (hD : va_D A ws) (hS : va_S A H0 H locs) (hA : ∀ q : Nat, H0.size ≤ q → A q) (he : wc[0]? = some (b, .inr (ci, fs))) (hc : vwCl[ci]? = some (C, T, N)) (isC : List Nat) (hC : isC.map (fun i => ws[i]?) = wc.map some) (hCd : va_nd isC = true) (hAs : As.length = n) (hls : ls.size = nL) (hst : st = As.reverse ++ .ref b :: rest) (hW : 2 * 0 + (rest.map fun v => v.category).sum ≤ 8) (hdg : decode cc pc = .ok (.invokevirtual index, 3)) (hf : cells ≤ R.cells ∧ slots ≤ R.slots)
    (kk : ∀ (z : Int) (H1 : Heap) (locs1 : List Loc), post z () → va_P G.1 vwCl ws H1 → va_D A ws → va_S A H0 H1 locs1 → W p l e R s m args below meth c H1 locs1 cells slots Q (F0 m (pc + 3) ls (.int (iI z) :: rest))) : W p l e R s m args below meth c H locs cells slots Q (F0 m pc ls st) := by
  have hF := va_free (wc := wc) hD hS hA isC hC
  have hDc := hD.sub isC hCd hC
  have hPc : va_P G.1 vwCl wc H := by
    intro k q hk
    have h1 : (isC.map (fun i => ws[i]?))[k]? = some (some q) := by rw [hC, List.getElem?_map, hk]; rfl
    rw [List.getElem?_map] at h1
    cases hi : isC[k]? with
    | none => rw [hi] at h1; cases h1
    | some i => rw [hi] at h1; exact hP i q (Option.some.inj h1)
  refine va_calli (va_runV (As := As) (rest := rest) F (hM H.size) cw ⟨zb_v, va_recv hK hPc hc he, fun U hU hW => ⟨rfl, by rw [hU], by rw [hU]; exact hPc, va_K.moved hW.alike hK, hDc.weaken (fun _ _ _ _ => trivial)⟩⟩ rfl hAs hls hst hW hdg hf) hS (fun q _ h => hF q h) hF (fun r u t H1 locs ht hvm hw hB hz1 hk1 hS => ?_)
  obtain ⟨z, rfl, hpo⟩ := hw
  obtain ⟨hP1, hK1, hD1⟩ := hB
  rw [ht] at hP1
  exact kk z H1 locs hpo (zq_read isC hC hP hD hk1 hP1) hD hS
theorem zq_vrR {ra : Addr} (hM : ZR l G y wsy fr lo (.ref b :: As) wc ra) (F : CallFix p m c cc nL s args Ts own) (cw : CallW R s args own C index y bytes maxL ret wsy ({ frames := fr, cells := 0, slots := 0, locals := lo }) 0 0 n) (hK : va_K G.1 vwCl (tz G) s) (hP : va_P G.1 vwCl ws H) (hD : va_D A ws) (hS : va_S A H0 H locs) (hA : ∀ q : Nat, H0.size ≤ q → A q) (he : wc[0]? = some (b, .inr (ci, fs))) (hc : vwCl[ci]? = some (C, T, N)) (isC : List Nat) (hC : isC.map (fun i => ws[i]?) = wc.map some) (hCd : va_nd isC = true) (hAs : As.length = n) (hls : ls.size = nL) (hst : st = As.reverse ++ .ref b :: rest) (hW : 2 * 0 + (rest.map fun v => v.category).sum ≤ 8) (hdg : decode cc pc = .ok (.invokevirtual index, 3)) (hf : cells ≤ R.cells ∧ slots ≤ R.slots)
    (kk : ∀ (H1 : Heap) (locs1 : List Loc), va_P G.1 vwCl ws H1 → va_D A ws → va_S A H0 H1 locs1 → W p l e R s m args below meth c H1 locs1 cells slots Q (F0 m (pc + 3) ls (.ref ra :: rest))) : W p l e R s m args below meth c H locs cells slots Q (F0 m pc ls st) := by
  have hF := va_free (wc := wc) hD hS hA isC hC
  have hDc := hD.sub isC hCd hC
  have hPc : va_P G.1 vwCl wc H := by
    intro k q hk
    have h1 : (isC.map (fun i => ws[i]?))[k]? = some (some q) := by rw [hC, List.getElem?_map, hk]; rfl
    rw [List.getElem?_map] at h1
    cases hi : isC[k]? with
    | none => rw [hi] at h1; cases h1
    | some i => rw [hi] at h1; exact hP i q (Option.some.inj h1)
  refine va_callr (va_runV (As := As) (rest := rest) F (hM H.size) cw ⟨zb_v, va_recv hK hPc hc he, fun U hU hW => ⟨rfl, by rw [hU], by rw [hU]; exact hPc, va_K.moved hW.alike hK, hDc.weaken (fun _ _ _ _ => trivial)⟩⟩ rfl hAs hls hst hW hdg hf) hS (fun q _ h => hF q h) hF (fun u ra' t H1 locs ht hvm hw hB hz1 hk1 hS => ?_)
  obtain ⟨era, hP1, hK1, hD1⟩ := hB
  rw [era]
  rw [ht] at hP1
  exact kk H1 locs (zq_read isC hC hP hD hk1 hP1) hD hS
end ZQ
def W6o (_ : ZG) (x : Nat) (ca fa va : Nat → Nat) (h0 u0 q0 : Nat) (hs : Int) : va_W := [(x, .inr (6, [.ref (ca 0), .ref (fa 0), .ref (va 0), .int (iI hs), .ref h0, .ref u0, .ref q0]))]
