/-! ===== the law: what holds at its loop's head ===== -/
def xv (xs : Nat → Int32) (j : Int) : Int := (xs j.toNat).toInt
theorem rg_xv (xs : Nat → Int32) (j : Int) : rg (xv xs j) := rg_of _
def JR (cu fo sv : SS) (hs ol tt : Int) (s0 s1 s2 s3 : SS) (cs : Int → Int) (ln kd fk hd va le mo : Int) : Prop := RG cu ∧ RG fo ∧ RG sv ∧ rg hs ∧ rg ol ∧ rg tt ∧ RG s0 ∧ RG s1 ∧ RG s2 ∧ RG s3 ∧ rgA cs ∧ rg ln ∧ rg kd ∧ rg fk ∧ rg hd ∧ rg va ∧ rg le ∧ rg mo
def JJ (cu fo sv : SS) (hs ol tt : Int) (s0 s1 s2 s3 : SS) (cs : Int → Int) (ln kd fk hd va le mo : Int) (mm : SS) (n : Int) : Prop := JR cu fo sv hs ol tt s0 s1 s2 s3 cs ln kd fk hd va le mo ∧ RG mm ∧ Rep6 cu sv hs ol tt s0 s1 s2 s3 cs ln mm n
theorem JJ_mono {cu fo sv : SS} {hs ol tt : Int} {s0 s1 s2 s3 : SS} {cs : Int → Int} {ln kd fk hd va le mo : Int} {mm : SS} {n : Int} (h : JJ cu fo sv hs ol tt s0 s1 s2 s3 cs ln kd fk hd va le mo mm n) : JJ cu fo sv hs ol tt s0 s1 s2 s3 cs ln kd fk hd va le mo mm (n + 1) := ⟨h.1, h.2.1, Rep6_same h.2.2⟩
theorem J_pre {cu sv : SS} {hs ol tt : Int} {s0 s1 s2 s3 : SS} {cs : Int → Int} {ln : Int} {m : SS} {n : Int} (h : Rep6 cu sv hs ol tt s0 s1 s2 s3 cs ln m n) (hn : 0 ≤ n ∧ n ≤ 600) : Vz (m.2 0) ∧ Bd (m.2 0) 50000 ∧ Bd (m.2 0) 60000 ∧ (0 ≤ m.1 2 ∧ m.1 2 ≤ 4) ∧ (0 ≤ m.1 7 ∧ m.1 7 ≤ 80) ∧ Bf m ∧ (∀ run index, 0 ≤ run → run ≤ (m.2 0) 4 - 1 → 0 ≤ index → index ≤ rowsAt (m.2 0) (10 + 2 * run) - 1 → ∃ r, 0 ≤ r ∧ r < (m.2 0) 3 ∧ (m.2 0) (250 + r) = 10 + 2 * run ∧ befZ (m.2 0) r = index) := by
  obtain ⟨⟨hR, hI⟩, _, ⟨e2, hH⟩, ecs, eln, bln, bcs⟩ := h
  have hB := HInv_Bd hI hn.2
  have ht := hH.1
  refine ⟨hI.1, hB.2, hB.1, by omega, by omega, fun i i0 i1 => ?_, row_ex hI.1 hR⟩
  rw [← ecs]
  exact bcs i i0 (by omega)
theorem growZ_one {z : Int → Int} {k w a b : Int} (h1 : growZ z k w a) (h2 : growZ z k w b) : a = b := by
  rcases h1 with ⟨c1, y, A, e⟩ | ⟨c1, e⟩ <;> rcases h2 with ⟨c2, y', A', e'⟩ | ⟨c2, e'⟩
  · rw [e, e', AllZ_one A A']
  · exact absurd c1 c2
  · exact absurd c2 c1
  · rw [e, e']
theorem cost_one {z : Int → Int} {k w a b : Int} (h1 : if 2 ≤ k ∧ k ≤ 20 then growZ z k w a else a = -2) (h2 : if 2 ≤ k ∧ k ≤ 20 then growZ z k w b else b = -2) : a = b := by
  by_cases c : 2 ≤ k ∧ k ≤ 20
  · rw [if_pos c] at h1 h2
    exact growZ_one h1 h2
  · rw [if_neg c] at h1 h2
    rw [h1, h2]
theorem best_one {z : Int → Int} {a b : Int} (h1 : ∃ c : Int → Int, (∀ k, 2 ≤ k → k ≤ 20 → growZ z k 7 (c k)) ∧ a = bsF c 19) (h2 : ∃ c : Int → Int, (∀ k, 2 ≤ k → k ≤ 20 → growZ z k 7 (c k)) ∧ b = bsF c 19) : a = b := by
  obtain ⟨c, hc, e⟩ := h1
  obtain ⟨d, hd, e'⟩ := h2
  rw [e, e']
  exact bsF_cong (fun j h1 h2 => growZ_one (hc j h1 (by omega)) (hd j h1 (by omega)))
theorem ep_one {m u : SS} {a b : Int} (h1 : (a = -6 ∧ OkA (m.2 6) (m.1 7)) ∨ (a ≠ -6 ∧ FaA (m.2 6) (m.1 7) a)) (h2 : epA m u b) : a = b ∧ sameM m u := by
  obtain ⟨k, p, w, f, eu, er, h⟩ := h2
  subst eu
  subst er
  refine ⟨?_, ⟨rfl, rfl, rfl, rfl, rfl, rfl, rfl⟩⟩
  rcases h1 with ⟨e, o⟩ | ⟨e, o⟩ <;> rcases h with ⟨e', o', _⟩ | ⟨e', o'⟩
  · rw [e, e']
  · exact absurd o (FaA_no o')
  · exact absurd o' (FaA_no o)
  · exact FaA_one o o'
theorem sameM_two {m a b : SS} (h1 : sameM m a) (h2 : sameM m b) : sameM a b := by
  obtain ⟨x0, x1, x2, x3, x4, x6, x7⟩ := h1
  obtain ⟨y0, y1, y2, y3, y4, y6, y7⟩ := h2
  exact ⟨y0.trans x0.symm, y1.trans x1.symm, y2.trans x2.symm, y3.trans x3.symm, y4.trans x4.symm, y6.trans x6.symm, y7.trans x7.symm⟩
theorem rl_read_one {m a b : SS} {x y : Int} (h1 : rl_read m x a) (h2 : rl_read m y b) : x = y ∧ sameM a b := by
  rcases h1 with ⟨c, e, s⟩ | ⟨c, d, e, s⟩ | ⟨c, d, e, s⟩ <;> rcases h2 with ⟨c', e', s'⟩ | ⟨c', d', e', s'⟩ | ⟨c', d', e', s'⟩
  · exact ⟨by rw [e, e'], sameM_two s s'⟩
  · exact absurd c' c
  · exact absurd c' c
  · exact absurd c c'
  · exact ⟨by rw [e, e'], sameM_two s s'⟩
  · exact absurd d d'
  · exact absurd c c'
  · exact absurd d' d
  · exact ⟨by rw [e, e'], sameM_two s s'⟩
theorem sameM_5 (m : SS) (f : Int → Int) : sameM m (sA m 5 f) := ⟨rfl, rfl, rfl, rfl, rfl, rfl, rfl⟩
theorem nx_undo_eq (s : SS) : sS (sA s 0 (if (s.1 2) = 0 then (s.2 0) else cpF (s.2 1) (s.2 0) (((s.1 2) - 1) * 370))) 2 (if (s.1 2) = 0 then (s.1 2) else (s.1 2) - 1) = nx_undo s := by
  unfold nx_undo
  by_cases h : s.1 2 = 0
  · rw [if_pos h, if_pos h, if_pos h, sA_self]
    refine Prod.ext (funext fun j => ?_) rfl
    show (if j = 2 then s.1 2 else s.1 j) = s.1 j
    by_cases q : j = 2
    · rw [if_pos q, q]
    · rw [if_neg q]
  · rw [if_neg h, if_neg h, if_neg h]
theorem RG_init0 : RG init0 := by
  refine ⟨fun k => ?_, fun _ _ => rg_0⟩
  show rg (if k = 3 then 1 else if k = 4 then 6 else 0)
  unfold rg
  split
  · omega
  · split <;> omega
theorem RG_initM : RG initM := by
  refine ⟨fun _ => rg_0, fun k i => ?_⟩
  show rg ((if k = 0 then uZ (uZ (fun _ => 0) 0 6) 2 1 else fun _ => 0) i)
  unfold rg uZ
  split
  · dsimp only
    split
    · omega
    · split <;> omega
  · dsimp only
    omega
theorem J_init : JJ init0 init0 init0 0 0 0 init0 init0 init0 init0 (fun _ => 0) 0 0 0 0 0 0 0 initM 0 := by
  refine ⟨⟨RG_init0, RG_init0, RG_init0, rg_0, rg_0, rg_0, RG_init0, RG_init0, RG_init0, RG_init0, fun _ => rg_0, rg_0, rg_0, rg_0, rg_0, rg_0, rg_0, rg_0⟩, RG_initM, ?_⟩
  have z3 : initM.2 0 3 = 0 := rfl
  have z4 : initM.2 0 4 = 0 := rfl
  have ro : ∀ p, rowsAt (initM.2 0) p = 0 := fun p => rfl
  have hV : Vz (initM.2 0) := by
    refine ⟨⟨by omega, by omega, by omega, by omega, fun r a b => by omega⟩, ⟨by decide, by decide, by decide, by decide, by decide, by decide, by decide, by decide⟩, ?_, rfl, fun _ => ⟨rfl, by decide⟩, fun _ => rfl, fun _ => rfl, ⟨fun h => by exact absurd h (by decide), fun h => by exact absurd h (by decide)⟩, fun h => by exact absurd h (by decide), ?_⟩
    · intro r a b
      omega
    · intro a b a1 a2
      omega
  refine ⟨⟨⟨⟨rfl, fun r a b => by omega⟩, ⟨rfl, rfl, rfl, rfl, rfl, rfl, rfl, rfl⟩, ⟨by decide, fun i a b => ?_, fun i j a b c => ?_, fun r a b => by omega⟩, ⟨by decide, fun i a b => ?_, fun i j a b c => ?_, fun r a b => by omega⟩, ⟨by decide, fun i a b => ?_, fun i j a b c => ?_, fun r a b => by omega⟩, by decide, ⟨fun j h => ?_, fun j k _ h => ?_, fun r a b => by omega⟩, fun h => ?_⟩, hV, by decide, by decide, by decide, by decide⟩, ⟨Or.inl rfl, rfl, fun h => by omega⟩, ⟨rfl, ⟨by decide, fun j a b => by omega⟩⟩, rfl, rfl, by decide, fun i a b => by omega⟩
  all_goals first
    | (have : i < 0 := b; omega)
    | (have : j < 0 := c; omega)
    | (have : (j : Int) < 0 := h; omega)
    | (have : (k : Int) < 0 := h; omega)
    | exact absurd h (by decide)
def LK (p : Program) (l : Launch) (e : Env) (s : State) (m : MethodId) (below : List Frame) (meth : Method) (c : Code) (b : Nat) (G : ZG) (a0 a1 a2 a3 : Nat) (a4 : Nat → Nat) (a5 a6 : Nat) (a7 a8 a9 a10 a11 a12 ma : Nat → Nat) (i n : Int) (pc : Nat) : Prop := ∀ (cu fo sv : SS) (hs ol tt : Int) (s0 s1 s2 s3 : SS) (cs : Int → Int) (ln kd fk hd va le mo : Int) (mm : SS) (H : Heap) (locs : List Loc) (ls : Array Slot), JJ cu fo sv hs ol tt s0 s1 s2 s3 cs ln kd fk hd va le mo mm n → va_P G.1 vwCl (flt [W6o G a0 a4 a11 a12 a5 a1 a3 hs, W0 G a1 a2 cs ln, W2 G a3 kd fk hd va le mo, W5 G a4 cu, W1h G a5 a6 a7 a8 a9 a10 ol tt, W5 G a7 s0, W5 G a8 s1, W5 G a9 s2, W5 G a10 s3, W5 G a11 fo, W5 G a12 sv, W7 G ma mm]) H → va_D (fun q : Nat => s.heap.size ≤ q) (flt [W6o G a0 a4 a11 a12 a5 a1 a3 hs, W0 G a1 a2 cs ln, W2 G a3 kd fk hd va le mo, W5 G a4 cu, W1h G a5 a6 a7 a8 a9 a10 ol tt, W5 G a7 s0, W5 G a8 s1, W5 G a9 s2, W5 G a10 s3, W5 G a11 fo, W5 G a12 sv, W7 G ma mm]) → va_S (fun q : Nat => s.heap.size ≤ q) s.heap H locs → lv_has ls 4 [(3, .int (iI i)), (2, .ref (ma 0)), (1, .ref a0), (0, .ref b)] → W p l e room_1 s m #[Value.ref b] below meth c H locs 111 10803 (lw_Z below #[Value.ref b] s) (F0 m pc ls [])
section LRD
variable {p : Program} {l : Launch} {e : Env} {R : Room} {s : State} {m : MethodId} {args : Array Value} {below : List Frame} {meth : Method} {c : Code} {H H0 : Heap} {locs : List Loc} {cells slots : Nat} {Q : State → Prop} {cc : ByteArray} {pc : Nat} {ls : Array Slot} {rest : List Value} {A : Nat → Prop}
theorem lw_rd (hx : p.tables.exec = Jvm.exec) (hb : c.code = cc) {b L : Nat} {xs : Nat → Int32} (hX : va_X b L xs s H0) (hbl : b < H0.size) (hbA : ¬ A b) (hS : va_S A H0 H locs) (hL : L ≤ 2048) {j : Int} (h0 : 0 ≤ j ∧ j < L) (hdg : decode cc pc = .ok (.iaload, 1))
    (kk : W p l e R s m args below meth c H locs cells slots Q (F0 m (pc + 1) ls (.int (iI (xv xs j)) :: rest))) : W p l e R s m args below meth c H locs cells slots Q (F0 m pc ls (.int (iI j) :: .ref b :: rest)) := by
  have r : rg j := by unfold rg; omega
  refine va_sld hx hb hX hbl hbA hS (iI_in r h0.1 h0.2) hdg ?_
  rw [iI_clamp r h0.1]
  unfold xv at kk
  rw [iI_of] at kk
  exact kk
end LRD
