theorem iI_nat (L : Nat) : Int32.ofNat L = iI (L : Int) := rfl
theorem law_loop {p : Program} {l : Launch} {e : Env} {s : State} {m : MethodId} {below : List Frame} {meth : Method} {c : Code} {b L : Nat} {xs : Nat → Int32} {G : ZG} {a0 a1 a2 a3 : Nat} {a4 : Nat → Nat} {a5 a6 : Nat} {a7 a8 a9 a10 a11 a12 ma : Nat → Nat} (hL : L ≤ 2048) (C0 : lw_At p s m meth c b L xs) (hK : va_K G.1 vwCl (tz G) s) : ∀ (k : Nat) (n : Int), 0 ≤ n → 4 * n ≤ L → L < 4 * n + k → LK p l e s m below meth c b G a0 a1 a2 a3 a4 a5 a6 a7 a8 a9 a10 a11 a12 ma (4 * n) n 18 := by
  intro k
  induction k with
  | zero =>
    intro n h1 h2 h3
    exact absurd h3 (by omega)
  | succ k ih =>
    intro n h1 h2 h3
    have D0 := C0
    obtain ⟨hx, hb, hr, hml, hown, hts0, hX, hbl, hlocks, hgv⟩ := D0
    have hbA : ¬ (fun q : Nat => s.heap.size ≤ q) b := Nat.not_le.mpr hbl
    have kk : 4 * n + 4 ≤ L → LK p l e s m below meth c b G a0 a1 a2 a3 a4 a5 a6 a7 a8 a9 a10 a11 a12 ma (4 * n) (n + 1) 744 := by
      intro hi cu fo sv hs ol tt s0 s1 s2 s3 cs ln kd fk hd va le mo mm H locs ls J hP hD hS hl
      refine zr_iinc (x := 4 * n) (lv' := [(3, .int (iI (4 * n + 4))), (2, .ref (ma 0)), (1, .ref a0), (0, .ref b)]) hx hb dL_law_744 hl (k := 0) rfl (by decide) rfl (fun ls hl => ?_)
      refine lv_goto (tgt := 18) hx hb dL_law_747 (by decide) ?_
      have q := ih (n + 1) (by omega) (by omega) (by omega)
      rw [show 4 * (n + 1) = 4 * n + 4 by omega] at q
      exact q cu fo sv hs ol tt s0 s1 s2 s3 cs ln kd fk hd va le mo mm H locs ls J hP hD hS hl
    intro cu fo sv hs ol tt s0 s1 s2 s3 cs ln kd fk hd va le mo mm H locs ls J hP hD hS hl
    have r4 : rg (4 * n) := by unfold rg; omega
    refine lv_iload_n hx hb dL_law_18 rfl (lv_at hl 0 rfl) ?_
    refine lv_aload_n hx hb dL_law_19 rfl (lv_at hl 3 rfl) ?_
    refine va_slen hx hb hX hbl hbA hS dL_law_20 ?_
    rw [iI_nat]
    refine lv_iconst (v := iI 4) hx hb dL_law_21 rfl ?_
    refine zr_isub hx hb dL_law_22 ?_
    refine zr_icmp_gt (x := 4 * n) (y := (L : Int) - 4) (tgt := 750) hx hb r4 (by unfold rg; omega) dL_law_23 (by decide) (fun _ => ?_) (fun hi0 => ?_)
    · refine lv_iconst (v := 1) hx hb dL_law_750 (by decide) ?_
      refine va_forget (fun q hq => hS.2.2 q hq) ?_
      refine W.widen (k := 600000) (n := 7302250) (Nat.le_of_ble_eq_true rfl) (Nat.le_of_ble_eq_true rfl) ?_
      exact lw_ret hx hb hr hlocks dL_law_751
    · have hi : 4 * n + 4 ≤ L := by omega
      refine lv_aload_n hx hb dL_law_26 rfl (lv_at hl 3 rfl) ?_
      refine lv_iload_n hx hb dL_law_27 rfl (lv_at hl 0 rfl) ?_
      refine lw_rd hx hb hX hbl hbA hS hL (j := 4 * n) (by omega) dL_law_28 ?_
      refine lv_bipush (v := iI 31) hx hb dL_law_29 (by decide) ?_
      refine lv_iand hx hb dL_law_31 ?_
      rw [← iI_of (iI (xv xs (4 * n)) &&& iI 31)]
      generalize hw : (iI (xv xs (4 * n)) &&& iI 31).toInt = w
      have rw_ : rg w := by rw [← hw]; exact rg_of _
      by_cases c0 : w = 0
      · exact zr_tsIn (x := w) (v := 0) (tgt := 168) hx hb rw_ 0 c0 dL_law_32 ⟨by decide, rfl⟩ (by decide) (law_add hL C0 hK ⟨by omega, hi⟩ ⟨h1, by omega⟩ (kk hi) cu fo sv hs ol tt s0 s1 s2 s3 cs ln kd fk hd va le mo mm H locs ls J hP hD hS hl)
      by_cases c1 : w = 1
      · exact zr_tsIn (x := w) (v := 1) (tgt := 191) hx hb rw_ 1 c1 dL_law_32 ⟨by decide, rfl⟩ (by decide) (law_combine hL C0 hK ⟨by omega, hi⟩ ⟨h1, by omega⟩ (kk hi) cu fo sv hs ol tt s0 s1 s2 s3 cs ln kd fk hd va le mo mm H locs ls J hP hD hS hl)
      by_cases c2 : w = 2
      · exact zr_tsIn (x := w) (v := 2) (tgt := 230) hx hb rw_ 2 c2 dL_law_32 ⟨by decide, rfl⟩ (by decide) (law_flush hL C0 hK ⟨by omega, hi⟩ ⟨h1, by omega⟩ (kk hi) cu fo sv hs ol tt s0 s1 s2 s3 cs ln kd fk hd va le mo mm H locs ls J hP hD hS hl)
      by_cases c3 : w = 3
      · exact zr_tsIn (x := w) (v := 3) (tgt := 243) hx hb rw_ 3 c3 dL_law_32 ⟨by decide, rfl⟩ (by decide) (law_finish hL C0 hK ⟨by omega, hi⟩ ⟨h1, by omega⟩ (kk hi) cu fo sv hs ol tt s0 s1 s2 s3 cs ln kd fk hd va le mo mm H locs ls J hP hD hS hl)
      by_cases c4 : w = 4
      · exact zr_tsIn (x := w) (v := 4) (tgt := 256) hx hb rw_ 4 c4 dL_law_32 ⟨by decide, rfl⟩ (by decide) (law_isCollecting hL C0 hK ⟨by omega, hi⟩ ⟨h1, by omega⟩ (kk hi) cu fo sv hs ol tt s0 s1 s2 s3 cs ln kd fk hd va le mo mm H locs ls J hP hD hS hl)
      by_cases c5 : w = 5
      · exact zr_tsIn (x := w) (v := 5) (tgt := 269) hx hb rw_ 5 c5 dL_law_32 ⟨by decide, rfl⟩ (by decide) (law_grant hL C0 hK ⟨by omega, hi⟩ ⟨h1, by omega⟩ (kk hi) cu fo sv hs ol tt s0 s1 s2 s3 cs ln kd fk hd va le mo mm H locs ls J hP hD hS hl)
      by_cases c6 : w = 6
      · exact zr_tsIn (x := w) (v := 6) (tgt := 292) hx hb rw_ 6 c6 dL_law_32 ⟨by decide, rfl⟩ (by decide) (law_memory hL C0 hK ⟨by omega, hi⟩ ⟨h1, by omega⟩ (kk hi) cu fo sv hs ol tt s0 s1 s2 s3 cs ln kd fk hd va le mo mm H locs ls J hP hD hS hl)
      by_cases c7 : w = 7
      · exact zr_tsIn (x := w) (v := 7) (tgt := 315) hx hb rw_ 7 c7 dL_law_32 ⟨by decide, rfl⟩ (by decide) (law_inMemory hL C0 hK ⟨by omega, hi⟩ ⟨h1, by omega⟩ (kk hi) cu fo sv hs ol tt s0 s1 s2 s3 cs ln kd fk hd va le mo mm H locs ls J hP hD hS hl)
      by_cases c8 : w = 8
      · exact zr_tsIn (x := w) (v := 8) (tgt := 338) hx hb rw_ 8 c8 dL_law_32 ⟨by decide, rfl⟩ (by decide) (law_merge hL C0 hK ⟨by omega, hi⟩ ⟨h1, by omega⟩ (kk hi) cu fo sv hs ol tt s0 s1 s2 s3 cs ln kd fk hd va le mo mm H locs ls J hP hD hS hl)
      by_cases c9 : w = 9
      · exact zr_tsIn (x := w) (v := 9) (tgt := 351) hx hb rw_ 9 c9 dL_law_32 ⟨by decide, rfl⟩ (by decide) (law_step hL C0 hK ⟨by omega, hi⟩ ⟨h1, by omega⟩ (kk hi) cu fo sv hs ol tt s0 s1 s2 s3 cs ln kd fk hd va le mo mm H locs ls J hP hD hS hl)
      by_cases c10 : w = 10
      · exact zr_tsIn (x := w) (v := 10) (tgt := 374) hx hb rw_ 10 c10 dL_law_32 ⟨by decide, rfl⟩ (by decide) (law_run hL C0 hK ⟨by omega, hi⟩ ⟨h1, by omega⟩ (kk hi) cu fo sv hs ol tt s0 s1 s2 s3 cs ln kd fk hd va le mo mm H locs ls J hP hD hS hl)
      by_cases c11 : w = 11
      · exact zr_tsIn (x := w) (v := 11) (tgt := 387) hx hb rw_ 11 c11 dL_law_32 ⟨by decide, rfl⟩ (by decide) (law_isMerging hL C0 hK ⟨by omega, hi⟩ ⟨h1, by omega⟩ (kk hi) cu fo sv hs ol tt s0 s1 s2 s3 cs ln kd fk hd va le mo mm H locs ls J hP hD hS hl)
      by_cases c12 : w = 12
      · exact zr_tsIn (x := w) (v := 12) (tgt := 400) hx hb rw_ 12 c12 dL_law_32 ⟨by decide, rfl⟩ (by decide) (law_isDone hL C0 hK ⟨by omega, hi⟩ ⟨h1, by omega⟩ (kk hi) cu fo sv hs ol tt s0 s1 s2 s3 cs ln kd fk hd va le mo mm H locs ls J hP hD hS hl)
      by_cases c13 : w = 13
      · exact zr_tsIn (x := w) (v := 13) (tgt := 413) hx hb rw_ 13 c13 dL_law_32 ⟨by decide, rfl⟩ (by decide) (law_ofMerge hL C0 hK ⟨by omega, hi⟩ ⟨h1, by omega⟩ (kk hi) cu fo sv hs ol tt s0 s1 s2 s3 cs ln kd fk hd va le mo mm H locs ls J hP hD hS hl)
      by_cases c14 : w = 14
      · exact zr_tsIn (x := w) (v := 14) (tgt := 436) hx hb rw_ 14 c14 dL_law_32 ⟨by decide, rfl⟩ (by decide) (law_runs hL C0 hK ⟨by omega, hi⟩ ⟨h1, by omega⟩ (kk hi) cu fo sv hs ol tt s0 s1 s2 s3 cs ln kd fk hd va le mo mm H locs ls J hP hD hS hl)
      by_cases c15 : w = 15
      · exact zr_tsIn (x := w) (v := 15) (tgt := 449) hx hb rw_ 15 c15 dL_law_32 ⟨by decide, rfl⟩ (by decide) (law_runAt hL C0 hK ⟨by omega, hi⟩ ⟨h1, by omega⟩ (kk hi) cu fo sv hs ol tt s0 s1 s2 s3 cs ln kd fk hd va le mo mm H locs ls J hP hD hS hl)
      by_cases c16 : w = 16
      · exact zr_tsIn (x := w) (v := 16) (tgt := 472) hx hb rw_ 16 c16 dL_law_32 ⟨by decide, rfl⟩ (by decide) (law_size hL C0 hK ⟨by omega, hi⟩ ⟨h1, by omega⟩ (kk hi) cu fo sv hs ol tt s0 s1 s2 s3 cs ln kd fk hd va le mo mm H locs ls J hP hD hS hl)
      by_cases c17 : w = 17
      · exact zr_tsIn (x := w) (v := 17) (tgt := 495) hx hb rw_ 17 c17 dL_law_32 ⟨by decide, rfl⟩ (by decide) (law_row hL C0 hK ⟨by omega, hi⟩ ⟨h1, by omega⟩ (kk hi) cu fo sv hs ol tt s0 s1 s2 s3 cs ln kd fk hd va le mo mm H locs ls J hP hD hS hl)
      by_cases c18 : w = 18
      · exact zr_tsIn (x := w) (v := 18) (tgt := 538) hx hb rw_ 18 c18 dL_law_32 ⟨by decide, rfl⟩ (by decide) (law_count hL C0 hK ⟨by omega, hi⟩ ⟨h1, by omega⟩ (kk hi) cu fo sv hs ol tt s0 s1 s2 s3 cs ln kd fk hd va le mo mm H locs ls J hP hD hS hl)
      by_cases c19 : w = 19
      · exact zr_tsIn (x := w) (v := 19) (tgt := 561) hx hb rw_ 19 c19 dL_law_32 ⟨by decide, rfl⟩ (by decide) (law_rank hL C0 hK ⟨by omega, hi⟩ ⟨h1, by omega⟩ (kk hi) cu fo sv hs ol tt s0 s1 s2 s3 cs ln kd fk hd va le mo mm H locs ls J hP hD hS hl)
      by_cases c20 : w = 20
      · exact zr_tsIn (x := w) (v := 20) (tgt := 584) hx hb rw_ 20 c20 dL_law_32 ⟨by decide, rfl⟩ (by decide) (law_costsWith hL C0 hK ⟨by omega, hi⟩ ⟨h1, by omega⟩ (kk hi) cu fo sv hs ol tt s0 s1 s2 s3 cs ln kd fk hd va le mo mm H locs ls J hP hD hS hl)
      by_cases c21 : w = 21
      · exact zr_tsIn (x := w) (v := 21) (tgt := 607) hx hb rw_ 21 c21 dL_law_32 ⟨by decide, rfl⟩ (by decide) (law_mergesWith hL C0 hK ⟨by omega, hi⟩ ⟨h1, by omega⟩ (kk hi) cu fo sv hs ol tt s0 s1 s2 s3 cs ln kd fk hd va le mo mm H locs ls J hP hD hS hl)
      by_cases c22 : w = 22
      · exact zr_tsIn (x := w) (v := 22) (tgt := 630) hx hb rw_ 22 c22 dL_law_32 ⟨by decide, rfl⟩ (by decide) (law_bestSize hL C0 hK ⟨by omega, hi⟩ ⟨h1, by omega⟩ (kk hi) cu fo sv hs ol tt s0 s1 s2 s3 cs ln kd fk hd va le mo mm H locs ls J hP hD hS hl)
      by_cases c23 : w = 23
      · exact zr_tsIn (x := w) (v := 23) (tgt := 643) hx hb rw_ 23 c23 dL_law_32 ⟨by decide, rfl⟩ (by decide) (law_append hL C0 hK ⟨by omega, hi⟩ ⟨h1, by omega⟩ (kk hi) cu fo sv hs ol tt s0 s1 s2 s3 cs ln kd fk hd va le mo mm H locs ls J hP hD hS hl)
      by_cases c24 : w = 24
      · exact zr_tsIn (x := w) (v := 24) (tgt := 666) hx hb rw_ 24 c24 dL_law_32 ⟨by decide, rfl⟩ (by decide) (law_clearText hL C0 hK ⟨by omega, hi⟩ ⟨h1, by omega⟩ (kk hi) cu fo sv hs ol tt s0 s1 s2 s3 cs ln kd fk hd va le mo mm H locs ls J hP hD hS hl)
      by_cases c25 : w = 25
      · exact zr_tsIn (x := w) (v := 25) (tgt := 679) hx hb rw_ 25 c25 dL_law_32 ⟨by decide, rfl⟩ (by decide) (law_errorPosition hL C0 hK ⟨by omega, hi⟩ ⟨h1, by omega⟩ (kk hi) cu fo sv hs ol tt s0 s1 s2 s3 cs ln kd fk hd va le mo mm H locs ls J hP hD hS hl)
      by_cases c26 : w = 26
      · exact zr_tsIn (x := w) (v := 26) (tgt := 692) hx hb rw_ 26 c26 dL_law_32 ⟨by decide, rfl⟩ (by decide) (law_read hL C0 hK ⟨by omega, hi⟩ ⟨h1, by omega⟩ (kk hi) cu fo sv hs ol tt s0 s1 s2 s3 cs ln kd fk hd va le mo mm H locs ls J hP hD hS hl)
      by_cases c27 : w = 27
      · exact zr_tsIn (x := w) (v := 27) (tgt := 705) hx hb rw_ 27 c27 dL_law_32 ⟨by decide, rfl⟩ (by decide) (law_undo hL C0 hK ⟨by omega, hi⟩ ⟨h1, by omega⟩ (kk hi) cu fo sv hs ol tt s0 s1 s2 s3 cs ln kd fk hd va le mo mm H locs ls J hP hD hS hl)
      by_cases c28 : w = 28
      · exact zr_tsIn (x := w) (v := 28) (tgt := 718) hx hb rw_ 28 c28 dL_law_32 ⟨by decide, rfl⟩ (by decide) (law_save hL C0 hK ⟨by omega, hi⟩ ⟨h1, by omega⟩ (kk hi) cu fo sv hs ol tt s0 s1 s2 s3 cs ln kd fk hd va le mo mm H locs ls J hP hD hS hl)
      by_cases c29 : w = 29
      · exact zr_tsIn (x := w) (v := 29) (tgt := 731) hx hb rw_ 29 c29 dL_law_32 ⟨by decide, rfl⟩ (by decide) (law_restore hL C0 hK ⟨by omega, hi⟩ ⟨h1, by omega⟩ (kk hi) cu fo sv hs ol tt s0 s1 s2 s3 cs ln kd fk hd va le mo mm H locs ls J hP hD hS hl)
      exact zr_tsOut (x := w) (tgt := 744) hx hb rw_ (by omega) dL_law_32 (by decide) (kk hi cu fo sv hs ol tt s0 s1 s2 s3 cs ln kd fk hd va le mo mm H locs ls (JJ_mono J) hP hD hS hl)
theorem law_K {s : State} {args : Array Value} (hts0 : ∀ w ∈ lw_tbl, w.before args s = true) : ∃ G : ZG, va_K G.1 vwCl (tz G) s ∧ NW s := by
  have hts : ∀ w ∈ wsL_law, w.before args s = true := fun w h => hts0 w (wsL_law_in w h)
  have hN : NW s := ⟨va_Nw.of rfl (hts0 (.methodLinkNest RX6 9 yX5_init RX6) (tb1 (n := 21) rfl)), va_Nw.of rfl (hts0 (.methodLinkNest RX5 11 yX3_init RX6) (tb1 (n := 27) rfl)), va_Nw.of rfl (hts0 (.methodLinkNest RX5 20 yX4_init RX6) (tb1 (n := 48) rfl)), va_Nw.of rfl (hts0 (.methodLinkNest RX1 17 yX5_init RX6) (tb1 (n := 136) rfl)), va_Nw.of rfl (hts0 (.methodLinkNest RX6 31 yX0_init RX6) (tb1 (n := 150) rfl)), va_Nw.of rfl (hts0 (.methodLinkNest RX6 38 yX2_init RX6) (tb1 (n := 164) rfl)), va_AO.of (hts0 _ (tb1 (n := 135) rfl))⟩
  obtain ⟨c0, i0, k0⟩ := u_known (C := RX0) (T := TX0) (N := 2) (n := 2) hts inlX0 (hts (.instantiable RX0 2) (List.mem_of_getElem? (i := 23) rfl))
  obtain ⟨c1, i1, k1⟩ := u_known (C := RX1) (T := TX1) (N := 3) (n := 3) hts inlX1 (hts (.instantiable RX1 3) (List.mem_of_getElem? (i := 19) rfl))
  obtain ⟨c2, i2, k2⟩ := u_known (C := RX2) (T := TX2) (N := 6) (n := 6) hts inlX2 (hts (.instantiable RX2 6) (List.mem_of_getElem? (i := 27) rfl))
  obtain ⟨c3, i3, k3⟩ := u_known (C := RX3) (T := TX3) (N := 4) (n := 4) hts inlX3 (hts (.instantiable RX3 4) (List.mem_of_getElem? (i := 34) rfl))
  obtain ⟨c4, i4, k4⟩ := u_known (C := RX4) (T := TX4) (N := 4) (n := 4) hts inlX4 (hts (.instantiable RX4 4) (List.mem_of_getElem? (i := 38) rfl))
  obtain ⟨c5, i5, k5⟩ := u_known (C := RX5) (T := TX5) (N := 16) (n := 16) hts inlX5 (hts (.instantiable RX5 16) (List.mem_of_getElem? (i := 13) rfl))
  obtain ⟨c6, i6, k6⟩ := u_known (C := RX6) (T := TX6) (N := 7) (n := 7) hts inlX6 (hts (.instantiable RX6 7) (List.mem_of_getElem? (i := 1) rfl))
  obtain ⟨c7, i7, k7⟩ := u_known (C := RX7) (T := TX7) (N := 12) (n := 12) hts inlX7 (hts (.instantiable RX7 12) (List.mem_of_getElem? (i := 4) rfl))
  obtain ⟨cI, kI, mI, f1, f2, f3⟩ := Cond.arrayClass_spec (type := .int) (hts (.arrayClass .int) (List.mem_of_getElem? (i := 43) rfl))
  obtain ⟨cC, kC, mC, g1, g2, g3⟩ := Cond.arrayClass_spec (type := .char) (hts (.arrayClass .char) (List.mem_of_getElem? (i := 79) rfl))
  obtain ⟨mQ, cQ, kQ, q1, q2, q3, q4, q5⟩ := Cond.arrayOver_spec hN.2.2.2.2.2.2
  refine ⟨((fun k => [c0, c1, c2, c3, c4, c5, c6, c7].getD k c7, fun k => [i0, i1, i2, i3, i4, i5, i6, i7].getD k i7), (cI, cC, cQ)), ⟨fun k q hq => ?_, fun k q hq => ?_⟩, hN⟩
  · match k, hq with
    | 0, hq => cases hq; exact k0
    | 1, hq => cases hq; exact k1
    | 2, hq => cases hq; exact k2
    | 3, hq => cases hq; exact k3
    | 4, hq => cases hq; exact k4
    | 5, hq => cases hq; exact k5
    | 6, hq => cases hq; exact k6
    | 7, hq => cases hq; exact k7
    | k + 8, hq => simp at hq
  · match k, hq with
    | 0, hq => cases hq; exact ⟨fun n z => ⟨(fun k h => by cases h), kI, f2, mI, f3⟩, f1⟩
    | 1, hq => cases hq; exact ⟨fun n z => ⟨(fun k h => by cases h), kC, g2, mC, g3⟩, g1⟩
    | 2, hq => cases hq; exact ⟨fun n z => ⟨(fun k h => by cases h), kQ, q3, mQ, q4⟩, kQ, mQ, q3, q4, q1, q5⟩
    | k + 3, hq => simp at hq
set_option maxHeartbeats 4000000 in
set_option maxRecDepth 100000 in
theorem whole_start {p : Program} {e : Env} {s : State} {m : MethodId} {below : List Frame} {meth : Method} {c : Code} (l : Launch) (hflags : l.flags = flags0) {b L : Nat} {xs : Nat → Int32} (hL : L ≤ 2048) (C0 : lw_At p s m meth c b L xs) : W p l e room_1 s m #[Value.ref b] below meth c s.heap [] 0 0 (lw_Z below #[Value.ref b] s) (entryFrame m ([Value.ref b] : List Value).toArray 4) := by
  have D0 := C0
  obtain ⟨hx, hb, hr, hml, hown, hts0, hX, hbl, hlocks, hgv⟩ := D0
  have hts : ∀ w ∈ wsL_law, w.before #[Value.ref b] s = true := fun w h => hts0 w (wsL_law_in w h)
  have hA : ∀ q : Nat, s.heap.size ≤ q → (fun q : Nat => s.heap.size ≤ q) q := fun _ h => h
  obtain ⟨G, hK, hN⟩ := law_K hts0
  have hS : va_S (fun q : Nat => s.heap.size ≤ q) s.heap s.heap [] := va_S.rf
  have hP : va_P G.1 vwCl [] s.heap := fun k q h => by simp at h
  have hD : va_D (fun q : Nat => s.heap.size ≤ q) [] := ⟨fun i j p q h => by simp at h, fun k q h => by simp at h⟩
  have hl := lv_entry ([.ref b]) (n := 4) (Nat.le_of_ble_eq_true rfl)
  rw [lg_entry_eq]
  generalize (lg_sl ([.ref b]) ++ List.replicate (4 - (lg_sl ([.ref b])).length) Slot.unset).toArray = ls at hl ⊢
  have hl : lv_has ls 4 [(0, .ref b)] := hl
  refine va_new (ci := 6) (fs := [.null, .null, .null, .int (iI 0), .null, .null, .null]) (C := RX6) (T := TX6) (N := 7) hx hb hts inlX6 tyX6 tyX6_ok hown (hts (.classLink RL 7 RX6) (List.mem_of_getElem? (i := 0) rfl)) (hts (.instantiable RX6 7) (List.mem_of_getElem? (i := 1) rfl)) (hts (.initialized RX6) (List.mem_of_getElem? (i := 2) rfl)) hK hP hD hS hA rfl (fun j hj => by rcases (show j = 0 ∨ j = 1 ∨ j = 2 ∨ j = 3 ∨ j = 4 ∨ j = 5 ∨ j = 6 by omega) with rfl | rfl | rfl | rfl | rfl | rfl | rfl <;> rfl) (Nat.le_of_ble_eq_true rfl) (Nat.le_of_ble_eq_true rfl) dL_law_0 (fun q6 H hP hD hS => ?_)
  refine lv_dup hx hb dL_law_3 rfl ?_
  refine zn_call (c_X6_init l G) ⟨hx, hb, hml, hown, hts⟩ (cwI 0 hts gL_law_X6_init rfl rfl rfl (hts (.initialized RX6) (List.mem_of_getElem? (i := 2) rfl)) (hts (.methodLink RL 9 yX6_init) (List.mem_of_getElem? (i := 6) rfl)) (hts (.instanceMethod yX6_init) (List.mem_of_getElem? (i := 7) rfl)) rfl hdX6_init ⟨(Nat.le_of_ble_eq_true rfl), (Nat.le_of_ble_eq_true rfl)⟩) hK hN hP hD hS hA hl.1 (Nat.le_of_ble_eq_true rfl) dL_law_4 ⟨(Nat.le_of_ble_eq_true rfl), (Nat.le_of_ble_eq_true rfl)⟩ (fun u6 H locs hP hD hS => ?_)
  refine lv_astore_n (lv' := [(1, .ref q6), (0, .ref b)]) hx hb dL_law_7 rfl hl (by decide) rfl (fun ls hl => ?_)
  refine va_new (ci := 7) (fs := [.null, .null, .int (iI 0), .null, .int (iI 0), .null, .null, .int (iI 0), .null, .int (iI 0), .int (iI 0), .int (iI 0)]) (C := RX7) (T := TX7) (N := 12) hx hb hts inlX7 tyX7 tyX7_ok hown (hts (.classLink RL 10 RX7) (List.mem_of_getElem? (i := 3) rfl)) (hts (.instantiable RX7 12) (List.mem_of_getElem? (i := 4) rfl)) (hts (.initialized RX7) (List.mem_of_getElem? (i := 5) rfl)) hK hP hD hS hA rfl (fun j hj => by rcases (show j = 0 ∨ j = 1 ∨ j = 2 ∨ j = 3 ∨ j = 4 ∨ j = 5 ∨ j = 6 ∨ j = 7 ∨ j = 8 ∨ j = 9 ∨ j = 10 ∨ j = 11 by omega) with rfl | rfl | rfl | rfl | rfl | rfl | rfl | rfl | rfl | rfl | rfl | rfl <;> rfl) (Nat.le_of_ble_eq_true rfl) (Nat.le_of_ble_eq_true rfl) dL_law_8 (fun q7 H hP hD hS => ?_)
  refine lv_dup hx hb dL_law_11 rfl ?_
  refine zn_call (c_X7_init l G) ⟨hx, hb, hml, hown, hts⟩ (cwI 0 hts gL_law_X7_init rfl rfl rfl (hts (.initialized RX7) (List.mem_of_getElem? (i := 5) rfl)) (hts (.methodLink RL 12 yX7_init) (List.mem_of_getElem? (i := 71) rfl)) (hts (.instanceMethod yX7_init) (List.mem_of_getElem? (i := 72) rfl)) rfl hdX7_init ⟨(Nat.le_of_ble_eq_true rfl), (Nat.le_of_ble_eq_true rfl)⟩) hK hN hP hD hS hA hl.1 (Nat.le_of_ble_eq_true rfl) dL_law_12 ⟨(Nat.le_of_ble_eq_true rfl), (Nat.le_of_ble_eq_true rfl)⟩ (fun u7 H locs hP hD hS => ?_)
  refine lv_astore_n (lv' := [(2, .ref q7), (1, .ref q6), (0, .ref b)]) hx hb dL_law_15 rfl hl (by decide) rfl (fun ls hl => ?_)
  refine lv_iconst (v := iI 0) hx hb dL_law_16 rfl ?_
  refine lv_istore_n (lv' := [(3, .int (iI 0)), (2, .ref q7), (1, .ref q6), (0, .ref b)]) hx hb dL_law_17 rfl hl (by decide) rfl (fun ls hl => ?_)
  obtain ⟨u0, u1, q0, ca, h0, h1, b0, b1, b2, b3, fa, va⟩ := u6
  have ew : ([] ++ flt (W6x G q6 (u0, u1, q0, ca, h0, h1, b0, b1, b2, b3, fa, va))) ++ W7 G (adr q7 u7) initM = flt (W6x G q6 (u0, u1, q0, ca, h0, h1, b0, b1, b2, b3, fa, va) ++ [W7 G (adr q7 u7) initM]) := by
    rw [flt_app]
    rfl
  rw [ew] at hP hD
  exact law_loop hL C0 hK (L + 1) 0 (by omega) (by omega) (by omega) init0 init0 init0 0 0 0 init0 init0 init0 init0 (fun _ => 0) 0 0 0 0 0 0 0 initM _ _ _ J_init hP hD hS hl
