def wp_X6_add (cu : SS) (fo : SS) (sv : SS) (hs : Int) (ol : Int) (tt : Int) (s0 : SS) (s1 : SS) (s2 : SS) (s3 : SS) (cs : Int → Int) (ln : Int) (kd : Int) (fk : Int) (hd : Int) (va : Int) (le : Int) (mo : Int) (key : Int) (P : Int → SS → Int → Int → SS → SS → SS → SS → Prop) : Prop :=
  ((0 ≤ key ∧ key ≤ 999) → ((((cu.1 3) = 0) → (P (-3) cu ol tt s0 s1 s2 s3)) ∧ ((¬ ((cu.1 3) = 0)) → (((0 ≤ (cu.1 16) ∧ (cu.1 16) < 120) → ((0 ≤ ol ∧ ol < 4 ∧ 0 ≤ tt ∧ tt ≤ 4) ∧ ((B01 cu) ∧ (∃ (g31 : Int → Int), (Rep cu g31) ∧ ((Vz g31) ∧ ((g31 4 + 1 ≤ 900000000) ∧ ((rg (g31 7 + rowsAt g31 1)) ∧ ((g31 3 < 120) ∧ ((g31 2 = 1) ∧ (∀ (z47 : Int) (u_s45 : SS), rg z47 → RG u_s45 → (z47 = g31 3 ∧ Rep u_s45 (addZ g31 key)) → (P z47 u_s45 (rmO ol tt) (recN tt + 1) (rmS 0 ol tt cu s0) (rmS 1 ol tt cu s1) (rmS 2 ol tt cu s2) (rmS 3 ol tt cu s3)))))))))))) ∧ ((¬ (0 ≤ (cu.1 16) ∧ (cu.1 16) < 120)) → (P (-4) cu ol tt s0 s1 s2 s3)))))) ∧ ((¬ (0 ≤ key ∧ key ≤ 999)) → (P (-2) cu ol tt s0 s1 s2 s3))
set_option maxHeartbeats 1000000 in
theorem sp_X6_add (cu : SS) (fo : SS) (sv : SS) (hs : Int) (ol : Int) (tt : Int) (s0 : SS) (s1 : SS) (s2 : SS) (s3 : SS) (cs : Int → Int) (ln : Int) (kd : Int) (fk : Int) (hd : Int) (va : Int) (le : Int) (mo : Int) (key : Int) (m : SS) (n : Int) (r_cu : RG cu) (r_fo : RG fo) (r_sv : RG sv) (r_hs : rg hs) (r_ol : rg ol) (r_tt : rg tt) (r_s0 : RG s0) (r_s1 : RG s1) (r_s2 : RG s2) (r_s3 : RG s3) (r_cs : rgA cs) (r_ln : rg ln) (r_kd : rg kd) (r_fk : rg fk) (r_hd : rg hd) (r_va : rg va) (r_le : rg le) (r_mo : rg mo) (r_key : rg key) (p0 : Rep6 cu sv hs ol tt s0 s1 s2 s3 cs ln m n) (p1 : 0 ≤ n ∧ n ≤ 600) : wp_X6_add cu fo sv hs ol tt s0 s1 s2 s3 cs ln kd fk hd va le mo key (fun r cu' ol' tt' s0' s1' s2' s3' => r = an_add (m.2 0) key ∧ Rep6 cu' sv hs ol' tt' s0' s1' s2' s3' cs ln (nx_add m key) (n + 1)) := by
  unfold wp_X6_add
  have p0' := p0
  obtain ⟨⟨hR, hI⟩, ⟨hs01, e4, hsv⟩, ⟨e2, hH⟩, ecs, eln, bln, bcs⟩ := p0'
  have hV := hI.1
  have ⟨⟨f2, f3, f4, f8, f12, f13, f14, f15, f16⟩, ⟨n6, n11, n17, n18, n5⟩, b16, b17, b18, b6⟩ := Rep_facts hV hR
  have ⟨_, ⟨v0, v1, v2, v5, v6, v7, v8, v9⟩, _⟩ := hV
  have hB := HInv_Bd hI p1.2
  obtain ⟨q1, q2, q3, q4, q5, q6⟩ := pubF hV hB.2
  obtain ⟨i4, i7, i8, i9⟩ := hB.1
  have same := Rep6_same p0
  have b01 := Rep_B01 hV hR
  have htt := hH.1
  unfold an_add nx_add
  refine ⟨fun g => ⟨fun a => ?_, fun a => ⟨fun b => ⟨htt, b01, m.2 0, hR, hV, q6, q2, by omega, by omega, fun r u rr ru ⟨er, hu⟩ => ?_⟩, fun b => ?_⟩⟩, fun g => ?_⟩
  · rw [if_neg (fun q => q g), if_pos (by omega), if_neg (fun q => q g), if_pos (by omega)]
    exact ⟨rfl, same⟩
  · rw [if_neg (fun q => q g), if_neg (show ¬ m.2 0 2 = 0 by omega), if_neg (show ¬ m.2 0 3 = 120 by omega), if_neg (fun q => q g), if_neg (show ¬ m.2 0 2 = 0 by omega), if_neg (show ¬ m.2 0 3 = 120 by omega)]
    obtain ⟨a1, a2, a3, a4, a5, a6, a7, a8, a9⟩ := addZ_Vz hV g (by omega) (by omega) q6
    exact ⟨er, Rep6_new p0 hu (HInv_upd hI a1 (by omega) (by omega) (by omega) (by omega))⟩
  · rw [if_neg (fun q => q g), if_neg (show ¬ m.2 0 2 = 0 by omega), if_pos (show m.2 0 3 = 120 by omega), if_neg (fun q => q g), if_neg (show ¬ m.2 0 2 = 0 by omega), if_pos (show m.2 0 3 = 120 by omega)]
    exact ⟨rfl, same⟩
  · rw [if_pos g, if_pos g]
    exact ⟨rfl, same⟩
def wp_X6_combine (cu : SS) (fo : SS) (sv : SS) (hs : Int) (ol : Int) (tt : Int) (s0 : SS) (s1 : SS) (s2 : SS) (s3 : SS) (cs : Int → Int) (ln : Int) (kd : Int) (fk : Int) (hd : Int) (va : Int) (le : Int) (mo : Int) (b : Int) (P : Int → SS → Int → Int → SS → SS → SS → SS → Prop) : Prop :=
  ((0 < (cu.1 16)) → (P (-3) cu ol tt s0 s1 s2 s3)) ∧ ((¬ (0 < (cu.1 16))) → ((0 ≤ ol ∧ ol < 4 ∧ 0 ≤ tt ∧ tt ≤ 4) ∧ ((B01 cu) ∧ ((b = 0 ∨ b = 1) ∧ (P (if (cu.1 2) = 0 then 0 else 1) (sS cu 2 b) (rmO ol tt) (recN tt + 1) (rmS 0 ol tt cu s0) (rmS 1 ol tt cu s1) (rmS 2 ol tt cu s2) (rmS 3 ol tt cu s3))))))
set_option maxHeartbeats 1000000 in
theorem sp_X6_combine (cu : SS) (fo : SS) (sv : SS) (hs : Int) (ol : Int) (tt : Int) (s0 : SS) (s1 : SS) (s2 : SS) (s3 : SS) (cs : Int → Int) (ln : Int) (kd : Int) (fk : Int) (hd : Int) (va : Int) (le : Int) (mo : Int) (b : Int) (m : SS) (n : Int) (r_cu : RG cu) (r_fo : RG fo) (r_sv : RG sv) (r_hs : rg hs) (r_ol : rg ol) (r_tt : rg tt) (r_s0 : RG s0) (r_s1 : RG s1) (r_s2 : RG s2) (r_s3 : RG s3) (r_cs : rgA cs) (r_ln : rg ln) (r_kd : rg kd) (r_fk : rg fk) (r_hd : rg hd) (r_va : rg va) (r_le : rg le) (r_mo : rg mo) (r_b : rg b) (p0 : Rep6 cu sv hs ol tt s0 s1 s2 s3 cs ln m n) (p1 : 0 ≤ n ∧ n ≤ 600) (p2 : b = 0 ∨ b = 1) : wp_X6_combine cu fo sv hs ol tt s0 s1 s2 s3 cs ln kd fk hd va le mo b (fun r cu' ol' tt' s0' s1' s2' s3' => r = an_combine (m.2 0) ∧ Rep6 cu' sv hs ol' tt' s0' s1' s2' s3' cs ln (nx_combine m b) (n + 1)) := by
  unfold wp_X6_combine
  have p0' := p0
  obtain ⟨⟨hR, hI⟩, ⟨hs01, e4, hsv⟩, ⟨e2, hH⟩, ecs, eln, bln, bcs⟩ := p0'
  have hV := hI.1
  have ⟨⟨f2, f3, f4, f8, f12, f13, f14, f15, f16⟩, ⟨n6, n11, n17, n18, n5⟩, b16, b17, b18, b6⟩ := Rep_facts hV hR
  have ⟨_, ⟨v0, v1, v2, v5, v6, v7, v8, v9⟩, _⟩ := hV
  have hB := HInv_Bd hI p1.2
  obtain ⟨q1, q2, q3, q4, q5, q6⟩ := pubF hV hB.2
  obtain ⟨i4, i7, i8, i9⟩ := hB.1
  have same := Rep6_same p0
  have b01 := Rep_B01 hV hR
  have htt := hH.1
  unfold an_combine nx_combine
  rw [f16]
  refine ⟨fun g => ?_, fun g => ⟨htt, b01, p2, ?_⟩⟩
  · rw [if_pos g, if_pos g]
    exact ⟨rfl, same⟩
  · rw [if_neg g, if_neg g]
    have eb : (if b = 0 then (0 : Int) else 1) = b := by
      rcases p2 with w | w
      · rw [if_pos w, w]
      · rw [if_neg (by omega), w]
    rw [eb]
    refine ⟨?_, Rep6_new p0 ?_ (HInv_upd hI (comb_Vz hV g p2) ?_ ?_ ?_ ?_)⟩
    · rcases v1 with w | w
      · rw [if_pos (by omega), w]
      · rw [if_neg (by omega), w]
    · have ⟨_, ⟨c1, c2, c3, c4, c5, c6, c7, c8⟩, _⟩ := hR
      exact Rep_sc hR rfl rfl rfl rfl rfl rfl rfl rfl ⟨by rw [uZ_at]; rfl, c2, c3, c4, c5, c6, c7, c8⟩ (fun i g => uZ_ne (by omega)) rfl (Int.le_refl _)
    · rw [uZ_ne (by omega)]; omega
    · rw [uZ_ne (by omega)]; omega
    · rw [uZ_ne (by omega)]; omega
    · rw [uZ_ne (by omega)]; omega
def wp_X6_flush (cu : SS) (fo : SS) (sv : SS) (hs : Int) (ol : Int) (tt : Int) (s0 : SS) (s1 : SS) (s2 : SS) (s3 : SS) (cs : Int → Int) (ln : Int) (kd : Int) (fk : Int) (hd : Int) (va : Int) (le : Int) (mo : Int)  (P : Int → SS → Int → Int → SS → SS → SS → SS → Prop) : Prop :=
  (((cu.1 3) = 0) → (P (-3) cu ol tt s0 s1 s2 s3)) ∧ ((¬ ((cu.1 3) = 0)) → ((0 ≤ ol ∧ ol < 4 ∧ 0 ≤ tt ∧ tt ≤ 4) ∧ ((B01 cu) ∧ (∃ (g17 : Int → Int), (Rep cu g17) ∧ ((Vb g17 ∧ g17 4 + 1 ≤ 900000000) ∧ ((rg (g17 7 + rowsAt g17 1)) ∧ (∀ (z27 : Int) (u_s25 : SS), rg z27 → RG u_s25 → (z27 = (if rowsAt g17 1 = 0 then -6 else g17 4) ∧ Rep u_s25 (wriZ g17)) → (P z27 u_s25 (rmO ol tt) (recN tt + 1) (rmS 0 ol tt cu s0) (rmS 1 ol tt cu s1) (rmS 2 ol tt cu s2) (rmS 3 ol tt cu s3)))))))))
set_option maxHeartbeats 1000000 in
theorem sp_X6_flush (cu : SS) (fo : SS) (sv : SS) (hs : Int) (ol : Int) (tt : Int) (s0 : SS) (s1 : SS) (s2 : SS) (s3 : SS) (cs : Int → Int) (ln : Int) (kd : Int) (fk : Int) (hd : Int) (va : Int) (le : Int) (mo : Int)  (m : SS) (n : Int) (r_cu : RG cu) (r_fo : RG fo) (r_sv : RG sv) (r_hs : rg hs) (r_ol : rg ol) (r_tt : rg tt) (r_s0 : RG s0) (r_s1 : RG s1) (r_s2 : RG s2) (r_s3 : RG s3) (r_cs : rgA cs) (r_ln : rg ln) (r_kd : rg kd) (r_fk : rg fk) (r_hd : rg hd) (r_va : rg va) (r_le : rg le) (r_mo : rg mo)  (p0 : Rep6 cu sv hs ol tt s0 s1 s2 s3 cs ln m n) (p1 : 0 ≤ n ∧ n ≤ 600) : wp_X6_flush cu fo sv hs ol tt s0 s1 s2 s3 cs ln kd fk hd va le mo (fun r cu' ol' tt' s0' s1' s2' s3' => r = an_flush (m.2 0) ∧ Rep6 cu' sv hs ol' tt' s0' s1' s2' s3' cs ln (nx_flush m) (n + 1)) := by
  unfold wp_X6_flush
  have p0' := p0
  obtain ⟨⟨hR, hI⟩, ⟨hs01, e4, hsv⟩, ⟨e2, hH⟩, ecs, eln, bln, bcs⟩ := p0'
  have hV := hI.1
  have ⟨⟨f2, f3, f4, f8, f12, f13, f14, f15, f16⟩, ⟨n6, n11, n17, n18, n5⟩, b16, b17, b18, b6⟩ := Rep_facts hV hR
  have ⟨_, ⟨v0, v1, v2, v5, v6, v7, v8, v9⟩, _⟩ := hV
  have hB := HInv_Bd hI p1.2
  obtain ⟨q1, q2, q3, q4, q5, q6⟩ := pubF hV hB.2
  obtain ⟨i4, i7, i8, i9⟩ := hB.1
  have same := Rep6_same p0
  have b01 := Rep_B01 hV hR
  have htt := hH.1
  unfold an_flush nx_flush
  rw [f3]
  refine ⟨fun g => ?_, fun g => ⟨htt, b01, m.2 0, hR, ⟨q1, q6⟩, q2, fun r u rr ru ⟨er, hu⟩ => ?_⟩⟩
  · rw [if_pos g, if_pos g]
    exact ⟨rfl, same⟩
  · rw [if_neg g, if_neg g]
    have w := wri_upd hV
    exact ⟨er, Rep6_new p0 hu (HInv_upd hI (wriZ_Vz hV q6) (by omega) (by omega) (by omega) (by omega))⟩
def wp_X6_finish (cu : SS) (fo : SS) (sv : SS) (hs : Int) (ol : Int) (tt : Int) (s0 : SS) (s1 : SS) (s2 : SS) (s3 : SS) (cs : Int → Int) (ln : Int) (kd : Int) (fk : Int) (hd : Int) (va : Int) (le : Int) (mo : Int)  (P : Int → SS → Int → Int → SS → SS → SS → SS → Prop) : Prop :=
  (((cu.1 3) = 0) → (P (-3) cu ol tt s0 s1 s2 s3)) ∧ ((¬ ((cu.1 3) = 0)) → ((0 ≤ ol ∧ ol < 4 ∧ 0 ≤ tt ∧ tt ≤ 4) ∧ ((B01 cu) ∧ (∃ (g17 : Int → Int), (Rep cu g17) ∧ ((Vb g17 ∧ g17 4 + 1 ≤ 900000000) ∧ ((rg (g17 7 + rowsAt g17 1)) ∧ (∀ (u_s25 : SS), RG u_s25 → (Rep u_s25 (uZ (wriZ g17) 2 0)) → (P (u_s25.1 17) u_s25 (rmO ol tt) (recN tt + 1) (rmS 0 ol tt cu s0) (rmS 1 ol tt cu s1) (rmS 2 ol tt cu s2) (rmS 3 ol tt cu s3)))))))))
set_option maxHeartbeats 1000000 in
theorem sp_X6_finish (cu : SS) (fo : SS) (sv : SS) (hs : Int) (ol : Int) (tt : Int) (s0 : SS) (s1 : SS) (s2 : SS) (s3 : SS) (cs : Int → Int) (ln : Int) (kd : Int) (fk : Int) (hd : Int) (va : Int) (le : Int) (mo : Int)  (m : SS) (n : Int) (r_cu : RG cu) (r_fo : RG fo) (r_sv : RG sv) (r_hs : rg hs) (r_ol : rg ol) (r_tt : rg tt) (r_s0 : RG s0) (r_s1 : RG s1) (r_s2 : RG s2) (r_s3 : RG s3) (r_cs : rgA cs) (r_ln : rg ln) (r_kd : rg kd) (r_fk : rg fk) (r_hd : rg hd) (r_va : rg va) (r_le : rg le) (r_mo : rg mo)  (p0 : Rep6 cu sv hs ol tt s0 s1 s2 s3 cs ln m n) (p1 : 0 ≤ n ∧ n ≤ 600) : wp_X6_finish cu fo sv hs ol tt s0 s1 s2 s3 cs ln kd fk hd va le mo (fun r cu' ol' tt' s0' s1' s2' s3' => r = an_finish (m.2 0) ∧ Rep6 cu' sv hs ol' tt' s0' s1' s2' s3' cs ln (nx_finish m) (n + 1)) := by
  unfold wp_X6_finish
  have p0' := p0
  obtain ⟨⟨hR, hI⟩, ⟨hs01, e4, hsv⟩, ⟨e2, hH⟩, ecs, eln, bln, bcs⟩ := p0'
  have hV := hI.1
  have ⟨⟨f2, f3, f4, f8, f12, f13, f14, f15, f16⟩, ⟨n6, n11, n17, n18, n5⟩, b16, b17, b18, b6⟩ := Rep_facts hV hR
  have ⟨_, ⟨v0, v1, v2, v5, v6, v7, v8, v9⟩, _⟩ := hV
  have hB := HInv_Bd hI p1.2
  obtain ⟨q1, q2, q3, q4, q5, q6⟩ := pubF hV hB.2
  obtain ⟨i4, i7, i8, i9⟩ := hB.1
  have same := Rep6_same p0
  have b01 := Rep_B01 hV hR
  have htt := hH.1
  unfold an_finish nx_finish
  rw [f3]
  refine ⟨fun g => ?_, fun g => ⟨htt, b01, m.2 0, hR, ⟨q1, q6⟩, q2, fun u ru hu => ?_⟩⟩
  · rw [if_pos g, if_pos g]
    exact ⟨rfl, same⟩
  · rw [if_neg g, if_neg g]
    have w := fin_upd hV
    have hf := finZ_Vz hV q6
    have hu' : Rep u (finZ (m.2 0)) := hu
    exact ⟨(Rep_facts hf hu').2.1.2.2.1.symm, Rep6_new p0 hu' (HInv_upd hI hf (by omega) (by omega) (by omega) (by omega))⟩
def wp_X6_grant (cu : SS) (fo : SS) (sv : SS) (hs : Int) (ol : Int) (tt : Int) (s0 : SS) (s1 : SS) (s2 : SS) (s3 : SS) (cs : Int → Int) (ln : Int) (kd : Int) (fk : Int) (hd : Int) (va : Int) (le : Int) (mo : Int) (size : Int) (P : Int → SS → Int → Int → SS → SS → SS → SS → Prop) : Prop :=
  ((2 ≤ size ∧ size ≤ 20) → ((0 ≤ ol ∧ ol < 4 ∧ 0 ≤ tt ∧ tt ≤ 4) ∧ ((B01 cu) ∧ (∃ (g20 : Int → Int), (Rep cu g20) ∧ ((Vz g20) ∧ ((g20 4 + 1 + manyZ g20 1 ≤ 900000000) ∧ ((rg (g20 7 + rowsAt g20 1)) ∧ ((rg (g20 9 + 1)) ∧ ((2 ≤ size ∧ size ≤ 20) ∧ (∀ (z36 : Int) (u_s34 : SS), rg z36 → RG u_s34 → (z36 = graA g20 size ∧ Rep u_s34 (graZ g20 size)) → (P z36 u_s34 (rmO ol tt) (recN tt + 1) (rmS 0 ol tt cu s0) (rmS 1 ol tt cu s1) (rmS 2 ol tt cu s2) (rmS 3 ol tt cu s3)))))))))))) ∧ ((¬ (2 ≤ size ∧ size ≤ 20)) → (P (-2) cu ol tt s0 s1 s2 s3))
set_option maxHeartbeats 1000000 in
theorem sp_X6_grant (cu : SS) (fo : SS) (sv : SS) (hs : Int) (ol : Int) (tt : Int) (s0 : SS) (s1 : SS) (s2 : SS) (s3 : SS) (cs : Int → Int) (ln : Int) (kd : Int) (fk : Int) (hd : Int) (va : Int) (le : Int) (mo : Int) (size : Int) (m : SS) (n : Int) (r_cu : RG cu) (r_fo : RG fo) (r_sv : RG sv) (r_hs : rg hs) (r_ol : rg ol) (r_tt : rg tt) (r_s0 : RG s0) (r_s1 : RG s1) (r_s2 : RG s2) (r_s3 : RG s3) (r_cs : rgA cs) (r_ln : rg ln) (r_kd : rg kd) (r_fk : rg fk) (r_hd : rg hd) (r_va : rg va) (r_le : rg le) (r_mo : rg mo) (r_size : rg size) (p0 : Rep6 cu sv hs ol tt s0 s1 s2 s3 cs ln m n) (p1 : 0 ≤ n ∧ n ≤ 600) : wp_X6_grant cu fo sv hs ol tt s0 s1 s2 s3 cs ln kd fk hd va le mo size (fun r cu' ol' tt' s0' s1' s2' s3' => r = an_grant (m.2 0) size ∧ Rep6 cu' sv hs ol' tt' s0' s1' s2' s3' cs ln (nx_grant m size) (n + 1)) := by
  unfold wp_X6_grant
  have p0' := p0
  obtain ⟨⟨hR, hI⟩, ⟨hs01, e4, hsv⟩, ⟨e2, hH⟩, ecs, eln, bln, bcs⟩ := p0'
  have hV := hI.1
  have ⟨⟨f2, f3, f4, f8, f12, f13, f14, f15, f16⟩, ⟨n6, n11, n17, n18, n5⟩, b16, b17, b18, b6⟩ := Rep_facts hV hR
  have ⟨_, ⟨v0, v1, v2, v5, v6, v7, v8, v9⟩, _⟩ := hV
  have hB := HInv_Bd hI p1.2
  obtain ⟨q1, q2, q3, q4, q5, q6⟩ := pubF hV hB.2
  obtain ⟨i4, i7, i8, i9⟩ := hB.1
  have same := Rep6_same p0
  have b01 := Rep_B01 hV hR
  have htt := hH.1
  unfold an_grant nx_grant
  refine ⟨fun g => ⟨htt, b01, m.2 0, hR, hV, q3, q2, q4, g, fun r u rr ru ⟨er, hu⟩ => ?_⟩, fun g => ?_⟩
  · rw [if_neg (fun q => q g), if_neg (fun q => q g)]
    obtain ⟨a1, a2, a3, a4, a5, a6, a7, a8, a9, a10, a11⟩ := graZ_Vz hV g q3
    exact ⟨er, Rep6_new p0 hu (HInv_upd hI a1 (by omega) (by omega) (by omega) (by omega))⟩
  · rw [if_pos g, if_pos g]
    exact ⟨rfl, same⟩
def wp_X6_merge (cu : SS) (fo : SS) (sv : SS) (hs : Int) (ol : Int) (tt : Int) (s0 : SS) (s1 : SS) (s2 : SS) (s3 : SS) (cs : Int → Int) (ln : Int) (kd : Int) (fk : Int) (hd : Int) (va : Int) (le : Int) (mo : Int)  (P : Int → SS → Int → Int → SS → SS → SS → SS → Prop) : Prop :=
  (2 ≤ (cu.1 4) ∧ (cu.1 4) ≤ 20) ∧ ((((cu.1 3) = 0 ∧ ¬ 0 < (cu.1 18) ∧ 2 ≤ (cu.1 17) ∧ 2 ≤ waysZ (cu.1 4)) → ((0 ≤ ol ∧ ol < 4 ∧ 0 ≤ tt ∧ tt ≤ 4) ∧ ((B01 cu) ∧ (∃ (g22 : Int → Int), (Rep cu g22) ∧ ((Vb g22) ∧ ((2 ≤ g22 0 ∧ g22 0 ≤ 20) ∧ ((rg (g22 8 + 1)) ∧ ((riZ g22 = 0) ∧ (∀ (z36 : Int) (u_s34 : SS), rg z36 → RG u_s34 → (z36 = begN g22 ∧ Rep u_s34 (begZ g22)) → (P z36 u_s34 (rmO ol tt) (recN tt + 1) (rmS 0 ol tt cu s0) (rmS 1 ol tt cu s1) (rmS 2 ol tt cu s2) (rmS 3 ol tt cu s3))))))))))) ∧ ((¬ ((cu.1 3) = 0 ∧ ¬ 0 < (cu.1 18) ∧ 2 ≤ (cu.1 17) ∧ 2 ≤ waysZ (cu.1 4))) → (P (-3) cu ol tt s0 s1 s2 s3)))
set_option maxHeartbeats 1000000 in
theorem sp_X6_merge (cu : SS) (fo : SS) (sv : SS) (hs : Int) (ol : Int) (tt : Int) (s0 : SS) (s1 : SS) (s2 : SS) (s3 : SS) (cs : Int → Int) (ln : Int) (kd : Int) (fk : Int) (hd : Int) (va : Int) (le : Int) (mo : Int)  (m : SS) (n : Int) (r_cu : RG cu) (r_fo : RG fo) (r_sv : RG sv) (r_hs : rg hs) (r_ol : rg ol) (r_tt : rg tt) (r_s0 : RG s0) (r_s1 : RG s1) (r_s2 : RG s2) (r_s3 : RG s3) (r_cs : rgA cs) (r_ln : rg ln) (r_kd : rg kd) (r_fk : rg fk) (r_hd : rg hd) (r_va : rg va) (r_le : rg le) (r_mo : rg mo)  (p0 : Rep6 cu sv hs ol tt s0 s1 s2 s3 cs ln m n) (p1 : 0 ≤ n ∧ n ≤ 600) : wp_X6_merge cu fo sv hs ol tt s0 s1 s2 s3 cs ln kd fk hd va le mo (fun r cu' ol' tt' s0' s1' s2' s3' => r = (if m.2 0 2 = 1 ∨ m.2 0 5 = 1 ∨ manyZ (m.2 0) 0 < 2 ∨ waysZ (m.2 0 0) < 2 then -3 else begN (m.2 0)) ∧ Rep6 cu' sv hs ol' tt' s0' s1' s2' s3' cs ln (if m.2 0 2 = 1 ∨ m.2 0 5 = 1 ∨ manyZ (m.2 0) 0 < 2 ∨ waysZ (m.2 0 0) < 2 then m else nxM m (begZ (m.2 0))) (n + 1)) := by
  unfold wp_X6_merge
  have p0' := p0
  obtain ⟨⟨hR, hI⟩, ⟨hs01, e4, hsv⟩, ⟨e2, hH⟩, ecs, eln, bln, bcs⟩ := p0'
  have hV := hI.1
  have ⟨⟨f2, f3, f4, f8, f12, f13, f14, f15, f16⟩, ⟨n6, n11, n17, n18, n5⟩, b16, b17, b18, b6⟩ := Rep_facts hV hR
  have ⟨_, ⟨v0, v1, v2, v5, v6, v7, v8, v9⟩, _⟩ := hV
  have hB := HInv_Bd hI p1.2
  obtain ⟨q1, q2, q3, q4, q5, q6⟩ := pubF hV hB.2
  obtain ⟨i4, i7, i8, i9⟩ := hB.1
  have same := Rep6_same p0
  have b01 := Rep_B01 hV hR
  have htt := hH.1
  have y5 : ¬ 0 < cu.1 18 → (m.2 0) 5 = 0 := fun y => by
    have : ¬ (m.2 0) 5 = 1 := fun q => y (n5.mpr q)
    omega
  rw [f4]
  refine ⟨v0, fun g => ⟨htt, b01, m.2 0, hR, q1, v0, q5, ?_, fun r u rr ru ⟨er, hu⟩ => ?_⟩, fun g => ?_⟩
  · have h5 := y5 g.2.1
    have vr : (m.2 0) 5 = 1 ↔ 0 < riZ (m.2 0) := by obtain ⟨_, _, _, _, _, _, _, vr, _⟩ := hV; exact vr
    have := (riZ_le q1.1).1
    omega
  · have h5 := y5 g.2.1
    have nn : ¬ ((m.2 0) 2 = 1 ∨ (m.2 0) 5 = 1 ∨ manyZ (m.2 0) 0 < 2 ∨ waysZ ((m.2 0) 0) < 2) := by omega
    rw [if_neg nn, if_neg nn]
    have hN : 2 ≤ begN (m.2 0) := by unfold begN; omega
    have e4' : begZ (m.2 0) 4 = (m.2 0) 4 := begZ_w (by omega) (by omega) (by omega) (by omega)
    have e7' : begZ (m.2 0) 7 = (m.2 0) 7 := begZ_w (by omega) (by omega) (by omega) (by omega)
    have e9' : begZ (m.2 0) 9 = (m.2 0) 9 := begZ_w (by omega) (by omega) (by omega) (by omega)
    have e8' : begZ (m.2 0) 8 = (m.2 0) 8 + 1 := begZ_8
    exact ⟨er, Rep6_new p0 hu (HInv_upd hI (begZ_Vz hV (by omega) h5 (by omega)) (by omega) (by omega) (by omega) (by omega))⟩
  · have pp : (m.2 0) 2 = 1 ∨ (m.2 0) 5 = 1 ∨ manyZ (m.2 0) 0 < 2 ∨ waysZ ((m.2 0) 0) < 2 := by
      by_cases a : 0 < cu.1 18
      · exact Or.inr (Or.inl (n5.mp a))
      · by_cases b : (m.2 0) 2 = 1
        · exact Or.inl b
        · by_cases d : manyZ (m.2 0) 0 < 2
          · exact Or.inr (Or.inr (Or.inl d))
          · refine Or.inr (Or.inr (Or.inr ?_))
            by_cases e : waysZ ((m.2 0) 0) < 2
            · exact e
            · exact absurd ⟨by omega, a, by omega, by omega⟩ g
    rw [if_pos pp, if_pos pp]
    exact ⟨rfl, same⟩
def wp_X6_step (cu : SS) (fo : SS) (sv : SS) (hs : Int) (ol : Int) (tt : Int) (s0 : SS) (s1 : SS) (s2 : SS) (s3 : SS) (cs : Int → Int) (ln : Int) (kd : Int) (fk : Int) (hd : Int) (va : Int) (le : Int) (mo : Int) (steps : Int) (P : Int → SS → Int → Int → SS → SS → SS → SS → Prop) : Prop :=
  ((steps < 1) → (P (-2) cu ol tt s0 s1 s2 s3)) ∧ ((¬ (steps < 1)) → (((200 < steps) → (P (-2) cu ol tt s0 s1 s2 s3)) ∧ ((¬ (200 < steps)) → (((0 < (cu.1 18)) → ((0 ≤ ol ∧ ol < 4 ∧ 0 ≤ tt ∧ tt ≤ 4) ∧ ((B01 cu) ∧ (∃ (g29 : Int → Int), (Rep cu g29) ∧ ((Vz g29) ∧ ((Bd g29 steps) ∧ ((1 ≤ steps ∧ steps ≤ 200) ∧ (∀ (z41 : Int) (u_s39 : SS), rg z41 → RG u_s39 → (∃ w : Nat → Int → Int, w 0 = g29 ∧ (∀ i : Nat, (i : Int) < z41 → (w i) 5 = 1 ∧ w (i + 1) = stpZ (w i)) ∧ 0 ≤ z41 ∧ z41 ≤ steps ∧ (z41 < steps → (w z41.toNat) 5 = 0) ∧ Rep u_s39 (w z41.toNat)) → (P z41 u_s39 (rmO ol tt) (recN tt + 1) (rmS 0 ol tt cu s0) (rmS 1 ol tt cu s1) (rmS 2 ol tt cu s2) (rmS 3 ol tt cu s3)))))))))) ∧ ((¬ (0 < (cu.1 18))) → (P (-3) cu ol tt s0 s1 s2 s3))))))
set_option maxHeartbeats 1000000 in
theorem sp_X6_step (cu : SS) (fo : SS) (sv : SS) (hs : Int) (ol : Int) (tt : Int) (s0 : SS) (s1 : SS) (s2 : SS) (s3 : SS) (cs : Int → Int) (ln : Int) (kd : Int) (fk : Int) (hd : Int) (va : Int) (le : Int) (mo : Int) (steps : Int) (m : SS) (n : Int) (r_cu : RG cu) (r_fo : RG fo) (r_sv : RG sv) (r_hs : rg hs) (r_ol : rg ol) (r_tt : rg tt) (r_s0 : RG s0) (r_s1 : RG s1) (r_s2 : RG s2) (r_s3 : RG s3) (r_cs : rgA cs) (r_ln : rg ln) (r_kd : rg kd) (r_fk : rg fk) (r_hd : rg hd) (r_va : rg va) (r_le : rg le) (r_mo : rg mo) (r_steps : rg steps) (p0 : Rep6 cu sv hs ol tt s0 s1 s2 s3 cs ln m n) (p1 : 0 ≤ n ∧ n ≤ 600) : wp_X6_step cu fo sv hs ol tt s0 s1 s2 s3 cs ln kd fk hd va le mo steps (fun r cu' ol' tt' s0' s1' s2' s3' => ∃ m' : SS, rl_step m steps r m' ∧ Rep6 cu' sv hs ol' tt' s0' s1' s2' s3' cs ln m' (n + 1)) := by
  unfold wp_X6_step
  have p0' := p0
  obtain ⟨⟨hR, hI⟩, ⟨hs01, e4, hsv⟩, ⟨e2, hH⟩, ecs, eln, bln, bcs⟩ := p0'
  have hV := hI.1
  have ⟨⟨f2, f3, f4, f8, f12, f13, f14, f15, f16⟩, ⟨n6, n11, n17, n18, n5⟩, b16, b17, b18, b6⟩ := Rep_facts hV hR
  have ⟨_, ⟨v0, v1, v2, v5, v6, v7, v8, v9⟩, _⟩ := hV
  have hB := HInv_Bd hI p1.2
  obtain ⟨q1, q2, q3, q4, q5, q6⟩ := pubF hV hB.2
  obtain ⟨i4, i7, i8, i9⟩ := hB.1
  have same := Rep6_same p0
  have b01 := Rep_B01 hV hR
  have htt := hH.1
  have y5 : ¬ 0 < cu.1 18 → (m.2 0) 5 = 0 := fun y => by
    have : ¬ (m.2 0) 5 = 1 := fun q => y (n5.mpr q)
    omega
  refine ⟨fun g => ⟨m, Or.inl ⟨by omega, rfl, rfl⟩, same⟩, fun g => ⟨fun g2 => ⟨m, Or.inl ⟨by omega, rfl, rfl⟩, same⟩, fun g2 => ⟨fun a => ⟨htt, b01, m.2 0, hR, hV, ⟨by omega, by omega, by omega, by omega⟩, by omega, fun r u rr ru ⟨w, w0, w1, w2, w3, w4, w5⟩ => ?_⟩, fun a => ⟨m, Or.inr (Or.inl ⟨by omega, y5 a, rfl, rfl⟩), same⟩⟩⟩⟩
  have sq := seq_is w0 w1
  have hst : StepsZ (m.2 0) steps r := ⟨w2, w3, fun i hi => by rw [← sq i (by omega)]; exact (w1 i hi).1, fun q => by rw [← sq r.toNat (by omega)]; exact w4 q⟩
  have iv := wSq_inv hV (by omega) hst r.toNat (by omega)
  obtain ⟨a1, a2, a3, a4, a5, a6, a7⟩ := iv
  rw [sq r.toNat (by omega)] at w5
  have := n5.mp a
  exact ⟨nxM m (wSq (m.2 0) r.toNat), Or.inr (Or.inr ⟨by omega, by omega, hst, rfl⟩), Rep6_new p0 w5 (HInv_upd hI a1 (by omega) (by omega) (by omega) (by omega))⟩
def wp_X6_run (cu : SS) (fo : SS) (sv : SS) (hs : Int) (ol : Int) (tt : Int) (s0 : SS) (s1 : SS) (s2 : SS) (s3 : SS) (cs : Int → Int) (ln : Int) (kd : Int) (fk : Int) (hd : Int) (va : Int) (le : Int) (mo : Int)  (P : Int → SS → Int → Int → SS → SS → SS → SS → Prop) : Prop :=
  (2 ≤ (cu.1 4) ∧ (cu.1 4) ≤ 20) ∧ ((0 ≤ (cu.1 17) ∧ (cu.1 17) ≤ 120) ∧ ((((cu.1 17) + pz (0 < (cu.1 6)) + pz (0 < (cu.1 18)) ≤ 1 ∨ 2 ≤ waysZ (cu.1 4)) → ((0 ≤ ol ∧ ol < 4 ∧ 0 ≤ tt ∧ tt ≤ 4) ∧ ((B01 cu) ∧ (∃ (g24 : Int → Int), (Rep cu g24) ∧ ((Vz g24) ∧ ((Bd g24 50000) ∧ ((goC (finZ g24)) ∧ (∀ (z36 : Int) (u_s34 : SS), rg z36 → RG u_s34 → (∃ z' : Int → Int, AllZ (finZ g24) z' ∧ z36 = z' 8 - g24 8 ∧ Rep u_s34 z') → (P z36 u_s34 (rmO ol tt) (recN tt + 1) (rmS 0 ol tt cu s0) (rmS 1 ol tt cu s1) (rmS 2 ol tt cu s2) (rmS 3 ol tt cu s3)))))))))) ∧ ((¬ ((cu.1 17) + pz (0 < (cu.1 6)) + pz (0 < (cu.1 18)) ≤ 1 ∨ 2 ≤ waysZ (cu.1 4))) → (P (-3) cu ol tt s0 s1 s2 s3))))
set_option maxHeartbeats 1000000 in
theorem sp_X6_run (cu : SS) (fo : SS) (sv : SS) (hs : Int) (ol : Int) (tt : Int) (s0 : SS) (s1 : SS) (s2 : SS) (s3 : SS) (cs : Int → Int) (ln : Int) (kd : Int) (fk : Int) (hd : Int) (va : Int) (le : Int) (mo : Int)  (m : SS) (n : Int) (r_cu : RG cu) (r_fo : RG fo) (r_sv : RG sv) (r_hs : rg hs) (r_ol : rg ol) (r_tt : rg tt) (r_s0 : RG s0) (r_s1 : RG s1) (r_s2 : RG s2) (r_s3 : RG s3) (r_cs : rgA cs) (r_ln : rg ln) (r_kd : rg kd) (r_fk : rg fk) (r_hd : rg hd) (r_va : rg va) (r_le : rg le) (r_mo : rg mo)  (p0 : Rep6 cu sv hs ol tt s0 s1 s2 s3 cs ln m n) (p1 : 0 ≤ n ∧ n ≤ 600) : wp_X6_run cu fo sv hs ol tt s0 s1 s2 s3 cs ln kd fk hd va le mo (fun r cu' ol' tt' s0' s1' s2' s3' => ∃ m' : SS, rl_run m r m' ∧ Rep6 cu' sv hs ol' tt' s0' s1' s2' s3' cs ln m' (n + 1)) := by
  unfold wp_X6_run
  have p0' := p0
  obtain ⟨⟨hR, hI⟩, ⟨hs01, e4, hsv⟩, ⟨e2, hH⟩, ecs, eln, bln, bcs⟩ := p0'
  have hV := hI.1
  have ⟨⟨f2, f3, f4, f8, f12, f13, f14, f15, f16⟩, ⟨n6, n11, n17, n18, n5⟩, b16, b17, b18, b6⟩ := Rep_facts hV hR
  have ⟨_, ⟨v0, v1, v2, v5, v6, v7, v8, v9⟩, _⟩ := hV
  have hB := HInv_Bd hI p1.2
  obtain ⟨q1, q2, q3, q4, q5, q6⟩ := pubF hV hB.2
  obtain ⟨i4, i7, i8, i9⟩ := hB.1
  have same := Rep6_same p0
  have b01 := Rep_B01 hV hR
  have htt := hH.1
  have cr := cr_is hV hR
  refine ⟨by rw [f4]; exact v0, b17, fun g => ?_, fun g => ⟨m, Or.inl ⟨fun q => g (cr.mpr q), rfl, rfl⟩, same⟩⟩
  have hc := cr.mp g
  refine ⟨htt, b01, m.2 0, hR, hV, hB.2, finZ_goC hV hc, fun r u rr ru ⟨y, hA, er, hu⟩ => ?_⟩
  obtain ⟨a1, a2, a3, a4, a5, a6, a7⟩ := All_upd hV (by omega) hc hA
  exact ⟨nxM m y, Or.inr ⟨hc, y, hA, er, rfl⟩, Rep6_new p0 hu (HInv_upd hI a1 (by omega) (by omega) (by omega) (by omega))⟩
