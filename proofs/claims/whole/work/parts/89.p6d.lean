def wp_X6_collectItem (cu : SS) (fo : SS) (sv : SS) (hs : Int) (ol : Int) (tt : Int) (s0 : SS) (s1 : SS) (s2 : SS) (s3 : SS) (cs : Int → Int) (ln : Int) (kd : Int) (fk : Int) (hd : Int) (va : Int) (le : Int) (mo : Int)  (P : SS → Prop) : Prop :=
  (-1000 ≤ va ∧ va ≤ 1000 ∧ -1000 ≤ fk ∧ fk ≤ 1000 ∨ kd = 0) ∧ (∃ (I7 : Int → SS → Prop) (μ8 : Int → SS → Nat), I7 0 cu ∧ ∀ (x2_6 : Int) (cu0_6 : SS), rg x2_6 → RG cu0_6 → I7 x2_6 cu0_6 → (((x2_6 < (if kd = 1 then va else if kd = 2 then va - fk + 1 else 1)) → (((0 ≤ (cu0_6.1 16) ∧ (cu0_6.1 16) < 120) → ((rg (fk + x2_6) ∨ ¬ kd = 2) ∧ (∃ (g32 : Int → Int), (Rep cu0_6 g32) ∧ ((Vz g32) ∧ ((g32 4 + 1 ≤ 900000000) ∧ ((rg (g32 7 + rowsAt g32 1)) ∧ ((g32 3 < 120) ∧ ((g32 2 = 1) ∧ (∀ (z48 : Int) (u_s46 : SS), rg z48 → RG u_s46 → (z48 = g32 3 ∧ Rep u_s46 (addZ g32 (if kd = 1 then fk else if kd = 2 then fk + x2_6 else va))) → (rg (x2_6 + 1) ∧ (I7 (x2_6 + 1) u_s46 ∧ μ8 (x2_6 + 1) u_s46 < μ8 x2_6 cu0_6))))))))))) ∧ ((¬ (0 ≤ (cu0_6.1 16) ∧ (cu0_6.1 16) < 120)) → (P cu0_6)))) ∧ ((¬ (x2_6 < (if kd = 1 then va else if kd = 2 then va - fk + 1 else 1))) → (P cu0_6))))
set_option maxHeartbeats 1000000 in
theorem sp_X6_collectItem (cu : SS) (fo : SS) (sv : SS) (hs : Int) (ol : Int) (tt : Int) (s0 : SS) (s1 : SS) (s2 : SS) (s3 : SS) (cs : Int → Int) (ln : Int) (kd : Int) (fk : Int) (hd : Int) (va : Int) (le : Int) (mo : Int)  (z : Int → Int) (a : AT) (r_cu : RG cu) (r_fo : RG fo) (r_sv : RG sv) (r_hs : rg hs) (r_ol : rg ol) (r_tt : rg tt) (r_s0 : RG s0) (r_s1 : RG s1) (r_s2 : RG s2) (r_s3 : RG s3) (r_cs : rgA cs) (r_ln : rg ln) (r_kd : rg kd) (r_fk : rg fk) (r_hd : rg hd) (r_va : rg va) (r_le : rg le) (r_mo : rg mo)  (p0 : Rep cu z) (p1 : Vz z ∧ z 2 = 1 ∧ z 4 + 200 ≤ 900000000 ∧ z 7 + 20000 ≤ 2000000000) (p2 : RA kd fk hd va le mo a) (p3 : itV (itK a) (itN a) (itS a)) : wp_X6_collectItem cu fo sv hs ol tt s0 s1 s2 s3 cs ln kd fk hd va le mo (fun cu' => Rep cu' (itmG z a)) := by
  unfold wp_X6_collectItem
  obtain ⟨hz, h2, h4, h7⟩ := p1
  obtain ⟨k1, k2, k3⟩ := RA_item p2 p3
  have z3 := hz.1.1
  have z3' := hz.1.2.1
  have v2 := p3.2.1
  refine ⟨k1, ?_⟩
  rw [k2]
  refine ⟨fun i t => 0 ≤ i ∧ i ≤ itN a ∧ i ≤ 120 - z 3 ∧ Rep t (rdI z (itK a) (itS a) i.toNat), fun i _ => (1000 - i).toNat, ⟨by omega, by omega, by omega, p0⟩, ?_⟩
  intro i t ri rt ⟨i0, i1, i2, hR⟩
  obtain ⟨g, g3⟩ := rdI_inv hz h2 p3 h4 i.toNat (by omega) (by omega)
  obtain ⟨c1, c2, c3, c4, c5, c6, c7, c8, c9⟩ := g
  have e16 := hR.1.1
  have done : (i = itN a ∨ i = 120 - z 3) → Rep t (itmG z a) := fun w => by
    unfold itmG itmZ
    rw [show min (itN a) (120 - z 3) = i by omega]
    exact hR
  refine ⟨fun c => ⟨fun d => ?_, fun d => done (by omega)⟩, fun c => done (by omega)⟩
  obtain ⟨m1, m2⟩ := k3 i i0 c
  have hra := rowsAt_le (z := rdI z (itK a) (itS a) i.toNat) (p := 1) c1.1.1
  have y7 := c1.2.1.2.2.2.2.2.1
  refine ⟨m1, _, hR, c1, by omega, by unfold rg; omega, by omega, c2, fun r u rr ru ⟨_, hu⟩ => ?_⟩
  refine ⟨by unfold rg; omega, ⟨by omega, by omega, by omega, ?_⟩, by dsimp only; omega⟩
  rw [m2] at hu
  rw [show (i + 1).toNat = i.toNat + 1 by omega, rdI, show ((i.toNat : Nat) : Int) = i by omega]
  exact hu
def wp_X6_collectItems (cu : SS) (fo : SS) (sv : SS) (hs : Int) (ol : Int) (tt : Int) (s0 : SS) (s1 : SS) (s2 : SS) (s3 : SS) (cs : Int → Int) (ln : Int) (kd : Int) (fk : Int) (hd : Int) (va : Int) (le : Int) (mo : Int)  (P : SS → Int → Int → Int → Int → Int → Int → Prop) : Prop :=
  ∃ (I9 : Int → SS → Int → Int → Int → Int → Int → Int → Prop) (μ10 : Int → SS → Int → Int → Int → Int → Int → Int → Nat), I9 0 cu 0 fk 0 0 0 999 ∧ ∀ (x1_8 : Int) (cu0_8 : SS) (kd0_8 : Int) (fk0_8 : Int) (hd0_8 : Int) (va0_8 : Int) (le0_8 : Int) (mo0_8 : Int), rg x1_8 → RG cu0_8 → rg kd0_8 → rg fk0_8 → rg hd0_8 → rg va0_8 → rg le0_8 → rg mo0_8 → I9 x1_8 cu0_8 kd0_8 fk0_8 hd0_8 va0_8 le0_8 mo0_8 → (((x1_8 < ln) → ((0 ≤ x1_8 ∧ x1_8 < ln ∧ ln ≤ 80) ∧ ((((cs x1_8) = 44) → (∃ (g68 : Int → Int) (g69 : AT), (Rep cu0_8 g68) ∧ ((Vz g68 ∧ g68 2 = 1 ∧ g68 4 + 200 ≤ 900000000 ∧ g68 7 + 20000 ≤ 2000000000) ∧ ((RA kd0_8 fk0_8 hd0_8 va0_8 le0_8 mo0_8 g69) ∧ ((itV (itK g69) (itN g69) (itS g69)) ∧ (∀ (u_cu79 : SS), RG u_cu79 → (Rep u_cu79 (itmG g68 g69)) → (∃ (g84 : AT), (RA kd0_8 fk0_8 hd0_8 va0_8 le0_8 mo0_8 g84) ∧ ((0 ≤ va0_8 ∧ va0_8 ≤ 999) ∧ (∀ (z97 : Int) (u_kd90 : Int) (u_fk91 : Int) (u_hd92 : Int) (u_va93 : Int) (u_le94 : Int) (u_mo95 : Int), rg z97 → rg u_kd90 → rg u_fk91 → rg u_hd92 → rg u_va93 → rg u_le94 → rg u_mo95 → ((z97 = 1 ∧ accA g84 (cs x1_8) ∧ RA u_kd90 u_fk91 u_hd92 u_va93 u_le94 u_mo95 (nxA g84 (cs x1_8))) ∨ (z97 = 0 ∧ ¬ accA g84 (cs x1_8) ∧ RA u_kd90 u_fk91 u_hd92 u_va93 u_le94 u_mo95 g84)) → (rg (x1_8 + 1) ∧ (I9 (x1_8 + 1) u_cu79 u_kd90 u_fk91 u_hd92 u_va93 u_le94 u_mo95 ∧ μ10 (x1_8 + 1) u_cu79 u_kd90 u_fk91 u_hd92 u_va93 u_le94 u_mo95 < μ10 x1_8 cu0_8 kd0_8 fk0_8 hd0_8 va0_8 le0_8 mo0_8))))))))))) ∧ ((¬ ((cs x1_8) = 44)) → (∃ (g46 : AT), (RA kd0_8 fk0_8 hd0_8 va0_8 le0_8 mo0_8 g46) ∧ ((0 ≤ va0_8 ∧ va0_8 ≤ 999) ∧ (∀ (z59 : Int) (u_kd52 : Int) (u_fk53 : Int) (u_hd54 : Int) (u_va55 : Int) (u_le56 : Int) (u_mo57 : Int), rg z59 → rg u_kd52 → rg u_fk53 → rg u_hd54 → rg u_va55 → rg u_le56 → rg u_mo57 → ((z59 = 1 ∧ accA g46 (cs x1_8) ∧ RA u_kd52 u_fk53 u_hd54 u_va55 u_le56 u_mo57 (nxA g46 (cs x1_8))) ∨ (z59 = 0 ∧ ¬ accA g46 (cs x1_8) ∧ RA u_kd52 u_fk53 u_hd54 u_va55 u_le56 u_mo57 g46)) → (rg (x1_8 + 1) ∧ (I9 (x1_8 + 1) cu0_8 u_kd52 u_fk53 u_hd54 u_va55 u_le56 u_mo57 ∧ μ10 (x1_8 + 1) cu0_8 u_kd52 u_fk53 u_hd54 u_va55 u_le56 u_mo57 < μ10 x1_8 cu0_8 kd0_8 fk0_8 hd0_8 va0_8 le0_8 mo0_8))))))))) ∧ ((¬ (x1_8 < ln)) → (∃ (g20 : Int → Int) (g21 : AT), (Rep cu0_8 g20) ∧ ((Vz g20 ∧ g20 2 = 1 ∧ g20 4 + 200 ≤ 900000000 ∧ g20 7 + 20000 ≤ 2000000000) ∧ ((RA kd0_8 fk0_8 hd0_8 va0_8 le0_8 mo0_8 g21) ∧ ((itV (itK g21) (itN g21) (itS g21)) ∧ (∀ (u_cu31 : SS), RG u_cu31 → (Rep u_cu31 (itmG g20 g21)) → (P u_cu31 kd0_8 fk0_8 hd0_8 va0_8 le0_8 mo0_8))))))))
set_option maxHeartbeats 1000000 in
theorem sp_X6_collectItems (cu : SS) (fo : SS) (sv : SS) (hs : Int) (ol : Int) (tt : Int) (s0 : SS) (s1 : SS) (s2 : SS) (s3 : SS) (cs : Int → Int) (ln : Int) (kd : Int) (fk : Int) (hd : Int) (va : Int) (le : Int) (mo : Int)  (z : Int → Int) (r_cu : RG cu) (r_fo : RG fo) (r_sv : RG sv) (r_hs : rg hs) (r_ol : rg ol) (r_tt : rg tt) (r_s0 : RG s0) (r_s1 : RG s1) (r_s2 : RG s2) (r_s3 : RG s3) (r_cs : rgA cs) (r_ln : rg ln) (r_kd : rg kd) (r_fk : rg fk) (r_hd : rg hd) (r_va : rg va) (r_le : rg le) (r_mo : rg mo)  (p0 : Rep cu z) (p1 : Vz z ∧ z 2 = 1 ∧ z 4 + 400 ≤ 900000000 ∧ z 7 + 40000 ≤ 2000000000) (p2 : OkA cs ln) (p3 : 0 ≤ ln ∧ ln ≤ 80) : wp_X6_collectItems cu fo sv hs ol tt s0 s1 s2 s3 cs ln kd fk hd va le mo (fun cu' kd' fk' hd' va' le' mo' => Rep cu' (rdZ cs z ln)) := by
  unfold wp_X6_collectItems
  obtain ⟨hz, h2, h4, h7⟩ := p1
  have hG := rdP_grow hz h2 h4 p2
  have z3 := hz.1.1
  refine ⟨fun i t k f h v l o => (0 ≤ i ∧ i ≤ ln) ∧ Rep t (rdP cs z i.toNat) ∧ ∃ a, StA cs i a ∧ RA k f h v l o a, fun i _ _ _ _ _ _ _ => (ln - i).toNat, ⟨by omega, p0, _, StA_0, RA_0⟩, ?_⟩
  intro i t k f h v l o _ _ _ _ _ _ _ _ ⟨⟨i0, i1⟩, hR, a, hs, ha⟩
  obtain ⟨w1, w2⟩ := RA_va hs ha
  obtain ⟨c1, c2, c3, c4, c5, c6, c7, c8, c9⟩ := hG i.toNat (by omega)
  have y3 := c1.1.2.1
  have vz : Vz (rdP cs z i.toNat) ∧ (rdP cs z i.toNat) 2 = 1 ∧ (rdP cs z i.toNat) 4 + 200 ≤ 900000000 ∧ (rdP cs z i.toNat) 7 + 20000 ≤ 2000000000 := ⟨c1, c2, by omega, by omega⟩
  have ea : gA cs i.toNat = a := hs.2.2
  have acc : i < ln → accA a (cs i) := fun c => by
    obtain ⟨a', hs', _⟩ := p2
    have q := hs'.2.1 i.toNat (by omega)
    rw [ea, show ((i.toNat : Nat) : Int) = i by omega] at q
    exact q
  have eP : rdP cs z (i + 1).toNat = if cs i = 44 then itmG (rdP cs z i.toNat) a else rdP cs z i.toNat := by
    rw [show (i + 1).toNat = i.toNat + 1 by omega, rdP, ea, show ((i.toNat : Nat) : Int) = i by omega]
  refine ⟨fun c => ⟨⟨i0, c, p3.2⟩, fun e => ?_, fun e => ?_⟩, fun c => ?_⟩
  · have v0 := item_ok p2 i0 (Or.inr ⟨c, e⟩)
    rw [ea] at v0
    refine ⟨_, a, hR, vz, ha, v0, fun u ru hu => ⟨a, ha, w1, ?_⟩⟩
    intro z' k' f' h' v' l' o' _ _ _ _ _ _ _ hz'
    obtain ⟨_, n1, n2⟩ := hz'.resolve_right (fun q => q.2.1 (acc c))
    exact ⟨by unfold rg; omega, ⟨by omega, by rw [eP, if_pos e]; exact hu, _, StA_step hs n1 rfl, n2⟩, by dsimp only; omega⟩
  · refine ⟨a, ha, w1, ?_⟩
    intro z' k' f' h' v' l' o' _ _ _ _ _ _ _ hz'
    obtain ⟨_, n1, n2⟩ := hz'.resolve_right (fun q => q.2.1 (acc c))
    exact ⟨by unfold rg; omega, ⟨by omega, by rw [eP, if_neg e]; exact hR, _, StA_step hs n1 rfl, n2⟩, by dsimp only; omega⟩
  · have el : i = ln := by omega
    have v0 := item_ok p2 i0 (Or.inl el)
    rw [ea] at v0
    refine ⟨_, a, hR, vz, ha, v0, fun u ru hu => ?_⟩
    show Rep u (itmG (rdP cs z ln.toNat) (gA cs ln.toNat))
    rw [← el, ea]
    exact hu
def wp_X6_read (cu : SS) (fo : SS) (sv : SS) (hs : Int) (ol : Int) (tt : Int) (s0 : SS) (s1 : SS) (s2 : SS) (s3 : SS) (cs : Int → Int) (ln : Int) (kd : Int) (fk : Int) (hd : Int) (va : Int) (le : Int) (mo : Int)  (P : Int → SS → Int → Int → SS → SS → SS → SS → Int → Int → Int → Int → Int → Int → Int → Prop) : Prop :=
  ∃ (g1 : SS) (g2 : Int), (Rep6 cu sv hs ol tt s0 s1 s2 s3 cs ln g1 g2) ∧ ((0 ≤ g2 ∧ g2 ≤ 600) ∧ (∀ (z15 : Int) (u_kd8 : Int) (u_fk9 : Int) (u_hd10 : Int) (u_va11 : Int) (u_le12 : Int) (u_mo13 : Int), rg z15 → rg u_kd8 → rg u_fk9 → rg u_hd10 → rg u_va11 → rg u_le12 → rg u_mo13 → (((z15 = -6 ∧ OkA (g1.2 6) (g1.1 7)) ∨ (z15 ≠ -6 ∧ FaA (g1.2 6) (g1.1 7) z15))) → (((z15 = (-6)) → ((((cu.1 3) = 0) → (P (-3) cu ol tt s0 s1 s2 s3 ln u_kd8 u_fk9 u_hd10 u_va11 u_le12 u_mo13)) ∧ ((¬ ((cu.1 3) = 0)) → ((0 ≤ ol ∧ ol < 4 ∧ 0 ≤ tt ∧ tt ≤ 4) ∧ ((B01 cu) ∧ (∃ (g39 : Int → Int), (Rep cu g39) ∧ ((Vz g39 ∧ g39 2 = 1 ∧ g39 4 + 400 ≤ 900000000 ∧ g39 7 + 40000 ≤ 2000000000) ∧ ((OkA cs ln) ∧ ((0 ≤ ln ∧ ln ≤ 80) ∧ (∀ (u_cu49 : SS) (u_kd50 : Int) (u_fk51 : Int) (u_hd52 : Int) (u_va53 : Int) (u_le54 : Int) (u_mo55 : Int), RG u_cu49 → rg u_kd50 → rg u_fk51 → rg u_hd52 → rg u_va53 → rg u_le54 → rg u_mo55 → (Rep u_cu49 (rdZ cs g39 ln)) → (rg ((u_cu49.1 16) - (cu.1 16)) ∧ (P ((u_cu49.1 16) - (cu.1 16)) u_cu49 (rmO ol tt) (recN tt + 1) (rmS 0 ol tt cu s0) (rmS 1 ol tt cu s1) (rmS 2 ol tt cu s2) (rmS 3 ol tt cu s3) 0 u_kd50 u_fk51 u_hd52 u_va53 u_le54 u_mo55)))))))))))) ∧ ((¬ (z15 = (-6))) → (P (-5) cu ol tt s0 s1 s2 s3 ln u_kd8 u_fk9 u_hd10 u_va11 u_le12 u_mo13)))))
set_option maxHeartbeats 1000000 in
theorem sp_X6_read (cu : SS) (fo : SS) (sv : SS) (hs : Int) (ol : Int) (tt : Int) (s0 : SS) (s1 : SS) (s2 : SS) (s3 : SS) (cs : Int → Int) (ln : Int) (kd : Int) (fk : Int) (hd : Int) (va : Int) (le : Int) (mo : Int)  (m : SS) (n : Int) (r_cu : RG cu) (r_fo : RG fo) (r_sv : RG sv) (r_hs : rg hs) (r_ol : rg ol) (r_tt : rg tt) (r_s0 : RG s0) (r_s1 : RG s1) (r_s2 : RG s2) (r_s3 : RG s3) (r_cs : rgA cs) (r_ln : rg ln) (r_kd : rg kd) (r_fk : rg fk) (r_hd : rg hd) (r_va : rg va) (r_le : rg le) (r_mo : rg mo)  (p0 : Rep6 cu sv hs ol tt s0 s1 s2 s3 cs ln m n) (p1 : 0 ≤ n ∧ n ≤ 600) : wp_X6_read cu fo sv hs ol tt s0 s1 s2 s3 cs ln kd fk hd va le mo (fun r cu' ol' tt' s0' s1' s2' s3' ln' kd' fk' hd' va' le' mo' => ∃ m' : SS, rl_read m r m' ∧ Rep6 cu' sv hs ol' tt' s0' s1' s2' s3' cs ln' m' (n + 1)) := by
  unfold wp_X6_read
  have p0' := p0
  obtain ⟨⟨hR, hI⟩, ⟨hs01, e4, hsv⟩, ⟨e2, hH⟩, ecs, eln, bln, bcs⟩ := p0'
  have hV := hI.1
  have ⟨⟨f2, f3, f4, f8, f12, f13, f14, f15, f16⟩, ⟨n6, n11, n17, n18, n5⟩, b16, b17, b18, b6⟩ := Rep_facts hV hR
  have ⟨_, ⟨v0, v1, v2, v5, v6, v7, v8, v9⟩, _⟩ := hV
  have hB := HInv_Bd hI p1.2
  obtain ⟨q1, q2, q3, q4, q5, q6⟩ := pubF hV hB.2
  obtain ⟨i4, i7, i8, i9⟩ := hB.1
  have same := Rep6_same p0
  have b01 := Rep_B01 hV hR
  have htt := hH.1
  refine ⟨m, n, p0, p1, fun r k f h v l o _ _ _ _ _ _ _ hr => ⟨fun c => ?_, fun c => ?_⟩⟩
  · have hO := (hr.resolve_right (fun q => q.1 c)).2
    have z3 := hV.1.1
    refine ⟨fun g => ⟨m, Or.inr (Or.inl ⟨hO, by omega, rfl, sameM_rf m⟩), same⟩, fun g => ⟨htt, b01, m.2 0, hR, ⟨hV, by omega, by omega, by omega⟩, by rw [ecs, eln]; exact hO, bln, ?_⟩⟩
    intro u k' f' h' v' l' o' ru _ _ _ _ _ _ hu
    rw [ecs, eln] at hu
    obtain ⟨c1, c2, c3, c4, c5, c6, c7, c8, c9⟩ := rdZ_grow hV (by omega) (by omega) (by omega) hO
    have y3 := c1.1.2.1
    have e16 : u.1 16 = rdZ (m.2 6) (m.2 0) (m.1 7) 3 := hu.1.1
    refine ⟨by unfold rg; omega, sS (nxM m (rdZ (m.2 6) (m.2 0) (m.1 7))) 7 0, Or.inr (Or.inr ⟨hO, by omega, by omega, sameM_rf _⟩), ?_⟩
    obtain ⟨s1, s2, s3, s4, _⟩ := Rep6_new p0 hu (HInv_upd hI c1 (by omega) (by omega) (by omega) (by omega))
    exact ⟨s1, s2, s3, s4, rfl, by omega, fun i h1 h2 => by omega⟩
  · exact ⟨m, Or.inl ⟨FaA_no (hr.resolve_left (fun q => c q.1)).2, rfl, sameM_rf m⟩, same⟩
