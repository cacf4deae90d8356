def wp_X6_isKey  (key : Int) (P : Int → Prop) : Prop :=
  ((key < 0) → (P 0)) ∧ ((¬ (key < 0)) → (((999 < key) → (P 0)) ∧ ((¬ (999 < key)) → (P 1))))
set_option maxHeartbeats 1000000 in
theorem sp_X6_isKey  (key : Int)  (r_key : rg key)  : wp_X6_isKey key (fun z => z = (pz (0 ≤ key ∧ key ≤ 999))) := by
  unfold wp_X6_isKey
  (repeat' first | (refine And.intro ?_ ?_) | intro _)
  all_goals first | (exact (pz_t (by omega)).symm) | (exact (pz_f (by omega)).symm) | (unfold rg at *; omega) | omega
def wp_X6_isMemorySize  (size : Int) (P : Int → Prop) : Prop :=
  ((size < 2) → (P 0)) ∧ ((¬ (size < 2)) → (((20 < size) → (P 0)) ∧ ((¬ (20 < size)) → (P 1))))
set_option maxHeartbeats 1000000 in
theorem sp_X6_isMemorySize  (size : Int)  (r_size : rg size)  : wp_X6_isMemorySize size (fun z => z = (pz (2 ≤ size ∧ size ≤ 20))) := by
  unfold wp_X6_isMemorySize
  (repeat' first | (refine And.intro ?_ ?_) | intro _)
  all_goals first | (exact (pz_t (by omega)).symm) | (exact (pz_f (by omega)).symm) | (unfold rg at *; omega) | omega
def wp_X6_asNumber  (b : Int) (P : Int → Prop) : Prop :=
  ((b = 0) → (P 0)) ∧ ((¬ (b = 0)) → (P 1))
set_option maxHeartbeats 1000000 in
theorem sp_X6_asNumber  (b : Int)  (r_b : rg b)  : wp_X6_asNumber b (fun z => z = (if b = 0 then 0 else 1)) := by
  unfold wp_X6_asNumber
  exact ⟨fun c => by rw [if_pos c], fun c => by rw [if_neg c]⟩
def wp_X6_isCollecting (cu : SS) (fo : SS) (sv : SS) (hs : Int) (ol : Int) (tt : Int) (s0 : SS) (s1 : SS) (s2 : SS) (s3 : SS) (cs : Int → Int) (ln : Int) (kd : Int) (fk : Int) (hd : Int) (va : Int) (le : Int) (mo : Int)  (P : Int → Prop) : Prop :=
  P (if (cu.1 3) = 0 then 0 else 1)
set_option maxHeartbeats 1000000 in
theorem sp_X6_isCollecting (cu : SS) (fo : SS) (sv : SS) (hs : Int) (ol : Int) (tt : Int) (s0 : SS) (s1 : SS) (s2 : SS) (s3 : SS) (cs : Int → Int) (ln : Int) (kd : Int) (fk : Int) (hd : Int) (va : Int) (le : Int) (mo : Int)  (m : SS) (n : Int) (r_cu : RG cu) (r_fo : RG fo) (r_sv : RG sv) (r_hs : rg hs) (r_ol : rg ol) (r_tt : rg tt) (r_s0 : RG s0) (r_s1 : RG s1) (r_s2 : RG s2) (r_s3 : RG s3) (r_cs : rgA cs) (r_ln : rg ln) (r_kd : rg kd) (r_fk : rg fk) (r_hd : rg hd) (r_va : rg va) (r_le : rg le) (r_mo : rg mo)  (p0 : Rep6 cu sv hs ol tt s0 s1 s2 s3 cs ln m n) (p1 : 0 ≤ n ∧ n ≤ 600) : wp_X6_isCollecting cu fo sv hs ol tt s0 s1 s2 s3 cs ln kd fk hd va le mo (fun r => r = (m.2 0) 2) := by
  unfold wp_X6_isCollecting
  obtain ⟨⟨hR, hI⟩, _⟩ := p0
  have hV := hI.1
  have ⟨⟨f2, f3, f4, f8, f12, f13, f14, f15, f16⟩, ⟨n6, n11, n17, n18, n5⟩, b16, b17, b18, b6⟩ := Rep_facts hV hR
  have ⟨_, ⟨v0, v1, v2, v5, v6, v7, v8, v9⟩, _⟩ := hV
  rw [f3]
  rcases v2 with w | w
  · rw [if_pos w, w]
  · rw [if_neg (by omega), w]
def wp_X6_memory (cu : SS) (fo : SS) (sv : SS) (hs : Int) (ol : Int) (tt : Int) (s0 : SS) (s1 : SS) (s2 : SS) (s3 : SS) (cs : Int → Int) (ln : Int) (kd : Int) (fk : Int) (hd : Int) (va : Int) (le : Int) (mo : Int) (part : Int) (P : Int → Prop) : Prop :=
  ((part = 0) → (P (cu.1 4))) ∧ (((part = 1) → ((0 ≤ (cu.1 18) ∧ (cu.1 18) ≤ 120) ∧ (P (if (cu.1 3) = 0 then (if 0 < (cu.1 18) then (cu.1 18) + 1 else 0) else (cu.1 6))))) ∧ (((part = 2) → ((2 ≤ (cu.1 4) ∧ (cu.1 4) ≤ 20) ∧ (P (waysZ (cu.1 4))))) ∧ ((((part < 0 ∨ 2 < part)) → (P (-2))))))
set_option maxHeartbeats 1000000 in
theorem sp_X6_memory (cu : SS) (fo : SS) (sv : SS) (hs : Int) (ol : Int) (tt : Int) (s0 : SS) (s1 : SS) (s2 : SS) (s3 : SS) (cs : Int → Int) (ln : Int) (kd : Int) (fk : Int) (hd : Int) (va : Int) (le : Int) (mo : Int) (part : Int) (m : SS) (n : Int) (r_cu : RG cu) (r_fo : RG fo) (r_sv : RG sv) (r_hs : rg hs) (r_ol : rg ol) (r_tt : rg tt) (r_s0 : RG s0) (r_s1 : RG s1) (r_s2 : RG s2) (r_s3 : RG s3) (r_cs : rgA cs) (r_ln : rg ln) (r_kd : rg kd) (r_fk : rg fk) (r_hd : rg hd) (r_va : rg va) (r_le : rg le) (r_mo : rg mo) (r_part : rg part) (p0 : Rep6 cu sv hs ol tt s0 s1 s2 s3 cs ln m n) (p1 : 0 ≤ n ∧ n ≤ 600) : wp_X6_memory cu fo sv hs ol tt s0 s1 s2 s3 cs ln kd fk hd va le mo part (fun r => r = an_memory (m.2 0) part) := by
  unfold wp_X6_memory
  obtain ⟨⟨hR, hI⟩, _⟩ := p0
  have hV := hI.1
  have ⟨⟨f2, f3, f4, f8, f12, f13, f14, f15, f16⟩, ⟨n6, n11, n17, n18, n5⟩, b16, b17, b18, b6⟩ := Rep_facts hV hR
  have ⟨_, ⟨v0, v1, v2, v5, v6, v7, v8, v9⟩, _⟩ := hV
  refine ⟨fun g => by unfold an_memory; rw [if_pos g, f4], fun g => ⟨b18, ?_⟩, fun g => ⟨by omega, by unfold an_memory; rw [if_neg (by omega), if_neg (by omega), if_pos g, f4]⟩, fun g => by unfold an_memory; rw [if_neg (by omega), if_neg (by omega), if_neg (by omega)]⟩
  unfold an_memory
  rw [if_neg (by omega), if_pos g, n6, n18, f3]
  rcases v2 with w | w
  · rw [if_pos w, if_neg (show ¬ m.2 0 2 = 1 by omega)]
    by_cases y : 0 < cu.1 18
    · rw [if_pos y, if_pos (n5.mp y)]
    · rw [if_neg y, if_neg (fun q => y (n5.mpr q))]
  · rw [if_neg (show ¬ m.2 0 2 = 0 by omega), if_pos w]
def wp_X6_inMemory (cu : SS) (fo : SS) (sv : SS) (hs : Int) (ol : Int) (tt : Int) (s0 : SS) (s1 : SS) (s2 : SS) (s3 : SS) (cs : Int → Int) (ln : Int) (kd : Int) (fk : Int) (hd : Int) (va : Int) (le : Int) (mo : Int) (index : Int) (P : Int → Prop) : Prop :=
  ((0 ≤ index ∧ index < (cu.1 6)) → ((0 ≤ index ∧ index < 20) ∧ ((0 ≤ ((cu.2 9) index) ∧ ((cu.2 9) index) < 120) ∧ (P ((cu.2 0) ((cu.2 9) index)))))) ∧ ((¬ (0 ≤ index ∧ index < (cu.1 6))) → (P (-1)))
set_option maxHeartbeats 1000000 in
theorem sp_X6_inMemory (cu : SS) (fo : SS) (sv : SS) (hs : Int) (ol : Int) (tt : Int) (s0 : SS) (s1 : SS) (s2 : SS) (s3 : SS) (cs : Int → Int) (ln : Int) (kd : Int) (fk : Int) (hd : Int) (va : Int) (le : Int) (mo : Int) (index : Int) (m : SS) (n : Int) (r_cu : RG cu) (r_fo : RG fo) (r_sv : RG sv) (r_hs : rg hs) (r_ol : rg ol) (r_tt : rg tt) (r_s0 : RG s0) (r_s1 : RG s1) (r_s2 : RG s2) (r_s3 : RG s3) (r_cs : rgA cs) (r_ln : rg ln) (r_kd : rg kd) (r_fk : rg fk) (r_hd : rg hd) (r_va : rg va) (r_le : rg le) (r_mo : rg mo) (r_index : rg index) (p0 : Rep6 cu sv hs ol tt s0 s1 s2 s3 cs ln m n) (p1 : 0 ≤ n ∧ n ≤ 600) : wp_X6_inMemory cu fo sv hs ol tt s0 s1 s2 s3 cs ln kd fk hd va le mo index (fun r => r = an_inMemory (m.2 0) index) := by
  unfold wp_X6_inMemory
  obtain ⟨⟨hR, hI⟩, _⟩ := p0
  have hV := hI.1
  have ⟨⟨f2, f3, f4, f8, f12, f13, f14, f15, f16⟩, ⟨n6, n11, n17, n18, n5⟩, b16, b17, b18, b6⟩ := Rep_facts hV hR
  have ⟨_, ⟨v0, v1, v2, v5, v6, v7, v8, v9⟩, _⟩ := hV
  have q := inMem_is (index := index) hV hR
  exact ⟨fun g => ⟨by omega, (q.1 g).1, (q.1 g).2⟩, fun g => q.2 g⟩
def wp_X6_isMerging (cu : SS) (fo : SS) (sv : SS) (hs : Int) (ol : Int) (tt : Int) (s0 : SS) (s1 : SS) (s2 : SS) (s3 : SS) (cs : Int → Int) (ln : Int) (kd : Int) (fk : Int) (hd : Int) (va : Int) (le : Int) (mo : Int)  (P : Int → Prop) : Prop :=
  P (if (pz (0 < (cu.1 18))) = 0 then 0 else 1)
set_option maxHeartbeats 1000000 in
theorem sp_X6_isMerging (cu : SS) (fo : SS) (sv : SS) (hs : Int) (ol : Int) (tt : Int) (s0 : SS) (s1 : SS) (s2 : SS) (s3 : SS) (cs : Int → Int) (ln : Int) (kd : Int) (fk : Int) (hd : Int) (va : Int) (le : Int) (mo : Int)  (m : SS) (n : Int) (r_cu : RG cu) (r_fo : RG fo) (r_sv : RG sv) (r_hs : rg hs) (r_ol : rg ol) (r_tt : rg tt) (r_s0 : RG s0) (r_s1 : RG s1) (r_s2 : RG s2) (r_s3 : RG s3) (r_cs : rgA cs) (r_ln : rg ln) (r_kd : rg kd) (r_fk : rg fk) (r_hd : rg hd) (r_va : rg va) (r_le : rg le) (r_mo : rg mo)  (p0 : Rep6 cu sv hs ol tt s0 s1 s2 s3 cs ln m n) (p1 : 0 ≤ n ∧ n ≤ 600) : wp_X6_isMerging cu fo sv hs ol tt s0 s1 s2 s3 cs ln kd fk hd va le mo (fun r => r = (m.2 0) 5) := by
  unfold wp_X6_isMerging
  obtain ⟨⟨hR, hI⟩, _⟩ := p0
  have hV := hI.1
  have ⟨⟨f2, f3, f4, f8, f12, f13, f14, f15, f16⟩, ⟨n6, n11, n17, n18, n5⟩, b16, b17, b18, b6⟩ := Rep_facts hV hR
  have ⟨_, ⟨v0, v1, v2, v5, v6, v7, v8, v9⟩, _⟩ := hV
  by_cases y : 0 < cu.1 18
  · rw [pz_t y, if_neg (by omega), n5.mp y]
  · rw [pz_f y, if_pos rfl]
    have : ¬ (m.2 0) 5 = 1 := fun q => y (n5.mpr q)
    omega
def wp_X6_isDone (cu : SS) (fo : SS) (sv : SS) (hs : Int) (ol : Int) (tt : Int) (s0 : SS) (s1 : SS) (s2 : SS) (s3 : SS) (cs : Int → Int) (ln : Int) (kd : Int) (fk : Int) (hd : Int) (va : Int) (le : Int) (mo : Int)  (P : Int → Prop) : Prop :=
  P (if (pz ((cu.1 3) = 0 ∧ ¬ 0 < (cu.1 18) ∧ (cu.1 17) ≤ 1)) = 0 then 0 else 1)
set_option maxHeartbeats 1000000 in
theorem sp_X6_isDone (cu : SS) (fo : SS) (sv : SS) (hs : Int) (ol : Int) (tt : Int) (s0 : SS) (s1 : SS) (s2 : SS) (s3 : SS) (cs : Int → Int) (ln : Int) (kd : Int) (fk : Int) (hd : Int) (va : Int) (le : Int) (mo : Int)  (m : SS) (n : Int) (r_cu : RG cu) (r_fo : RG fo) (r_sv : RG sv) (r_hs : rg hs) (r_ol : rg ol) (r_tt : rg tt) (r_s0 : RG s0) (r_s1 : RG s1) (r_s2 : RG s2) (r_s3 : RG s3) (r_cs : rgA cs) (r_ln : rg ln) (r_kd : rg kd) (r_fk : rg fk) (r_hd : rg hd) (r_va : rg va) (r_le : rg le) (r_mo : rg mo)  (p0 : Rep6 cu sv hs ol tt s0 s1 s2 s3 cs ln m n) (p1 : 0 ≤ n ∧ n ≤ 600) : wp_X6_isDone cu fo sv hs ol tt s0 s1 s2 s3 cs ln kd fk hd va le mo (fun r => r = an_isDone (m.2 0)) := by
  unfold wp_X6_isDone
  obtain ⟨⟨hR, hI⟩, _⟩ := p0
  have hV := hI.1
  have ⟨⟨f2, f3, f4, f8, f12, f13, f14, f15, f16⟩, ⟨n6, n11, n17, n18, n5⟩, b16, b17, b18, b6⟩ := Rep_facts hV hR
  have ⟨_, ⟨v0, v1, v2, v5, v6, v7, v8, v9⟩, _⟩ := hV
  unfold an_isDone
  by_cases y : cu.1 3 = 0 ∧ ¬ 0 < cu.1 18 ∧ cu.1 17 ≤ 1
  · have : ¬ (m.2 0) 5 = 1 := fun q => y.2.1 (n5.mpr q)
    rw [pz_t y, if_neg (by omega), pz_t (by omega)]
  · rw [pz_f y, if_pos rfl, pz_f (fun q => y ⟨by omega, fun w => by have := n5.mp w; omega, by omega⟩)]
def wp_X6_ofMerge (cu : SS) (fo : SS) (sv : SS) (hs : Int) (ol : Int) (tt : Int) (s0 : SS) (s1 : SS) (s2 : SS) (s3 : SS) (cs : Int → Int) (ln : Int) (kd : Int) (fk : Int) (hd : Int) (va : Int) (le : Int) (mo : Int) (part : Int) (P : Int → Prop) : Prop :=
  ((part < 0) → (P (-2))) ∧ ((¬ (part < 0)) → (((3 < part) → (P (-2))) ∧ ((¬ (3 < part)) → (((0 < (cu.1 18)) → (((part = 0) → (P (cu.1 8))) ∧ (((part = 1) → (P (cu.1 18))) ∧ (((part = 2) → (P (cu.1 11))) ∧ ((((part < 0 ∨ 2 < part)) → ((0 ≤ (cu.1 18) ∧ (cu.1 18) ≤ 120) ∧ ((∀ j, 0 ≤ j → j < (cu.1 18) → 0 ≤ (cu.2 8) j ∧ (cu.2 8) j ≤ 120) ∧ (P (sumI (cu.2 8) (cu.1 18).toNat)))))))))) ∧ ((¬ (0 < (cu.1 18))) → (P (-6)))))))
set_option maxHeartbeats 1000000 in
theorem sp_X6_ofMerge (cu : SS) (fo : SS) (sv : SS) (hs : Int) (ol : Int) (tt : Int) (s0 : SS) (s1 : SS) (s2 : SS) (s3 : SS) (cs : Int → Int) (ln : Int) (kd : Int) (fk : Int) (hd : Int) (va : Int) (le : Int) (mo : Int) (part : Int) (m : SS) (n : Int) (r_cu : RG cu) (r_fo : RG fo) (r_sv : RG sv) (r_hs : rg hs) (r_ol : rg ol) (r_tt : rg tt) (r_s0 : RG s0) (r_s1 : RG s1) (r_s2 : RG s2) (r_s3 : RG s3) (r_cs : rgA cs) (r_ln : rg ln) (r_kd : rg kd) (r_fk : rg fk) (r_hd : rg hd) (r_va : rg va) (r_le : rg le) (r_mo : rg mo) (r_part : rg part) (p0 : Rep6 cu sv hs ol tt s0 s1 s2 s3 cs ln m n) (p1 : 0 ≤ n ∧ n ≤ 600) : wp_X6_ofMerge cu fo sv hs ol tt s0 s1 s2 s3 cs ln kd fk hd va le mo part (fun r => r = an_ofMerge (m.2 0) part) := by
  unfold wp_X6_ofMerge
  obtain ⟨⟨hR, hI⟩, _⟩ := p0
  have hV := hI.1
  have ⟨⟨f2, f3, f4, f8, f12, f13, f14, f15, f16⟩, ⟨n6, n11, n17, n18, n5⟩, b16, b17, b18, b6⟩ := Rep_facts hV hR
  have ⟨_, ⟨v0, v1, v2, v5, v6, v7, v8, v9⟩, _⟩ := hV
  have ⟨rs, rl⟩ := riZ_sum hV hR
  unfold an_ofMerge
  refine ⟨fun g => by rw [if_pos (by omega)], fun g => ⟨fun g2 => by rw [if_pos (by omega)], fun g2 => ⟨fun y => ?_, fun y => ?_⟩⟩⟩
  · have y5 := n5.mp y
    rw [if_neg (by omega), if_neg (by omega)]
    refine ⟨fun g3 => by rw [if_pos g3, f8], fun g3 => by rw [if_neg (by omega), if_pos g3, n18], fun g3 => by rw [if_neg (by omega), if_neg (by omega), if_pos g3, n11], fun g3 => ⟨b18, rl, by rw [if_neg (by omega), if_neg (by omega), if_neg (by omega), rs]⟩⟩
  · have : ¬ (m.2 0) 5 = 1 := fun q => y (n5.mpr q)
    rw [if_neg (by omega), if_pos (by omega)]
def wp_X6_runs (cu : SS) (fo : SS) (sv : SS) (hs : Int) (ol : Int) (tt : Int) (s0 : SS) (s1 : SS) (s2 : SS) (s3 : SS) (cs : Int → Int) (ln : Int) (kd : Int) (fk : Int) (hd : Int) (va : Int) (le : Int) (mo : Int)  (P : Int → Prop) : Prop :=
  P (cu.1 17)
set_option maxHeartbeats 1000000 in
theorem sp_X6_runs (cu : SS) (fo : SS) (sv : SS) (hs : Int) (ol : Int) (tt : Int) (s0 : SS) (s1 : SS) (s2 : SS) (s3 : SS) (cs : Int → Int) (ln : Int) (kd : Int) (fk : Int) (hd : Int) (va : Int) (le : Int) (mo : Int)  (m : SS) (n : Int) (r_cu : RG cu) (r_fo : RG fo) (r_sv : RG sv) (r_hs : rg hs) (r_ol : rg ol) (r_tt : rg tt) (r_s0 : RG s0) (r_s1 : RG s1) (r_s2 : RG s2) (r_s3 : RG s3) (r_cs : rgA cs) (r_ln : rg ln) (r_kd : rg kd) (r_fk : rg fk) (r_hd : rg hd) (r_va : rg va) (r_le : rg le) (r_mo : rg mo)  (p0 : Rep6 cu sv hs ol tt s0 s1 s2 s3 cs ln m n) (p1 : 0 ≤ n ∧ n ≤ 600) : wp_X6_runs cu fo sv hs ol tt s0 s1 s2 s3 cs ln kd fk hd va le mo (fun r => r = manyZ (m.2 0) 0) := by
  unfold wp_X6_runs
  obtain ⟨⟨hR, hI⟩, _⟩ := p0
  have hV := hI.1
  have ⟨⟨f2, f3, f4, f8, f12, f13, f14, f15, f16⟩, ⟨n6, n11, n17, n18, n5⟩, b16, b17, b18, b6⟩ := Rep_facts hV hR
  have ⟨_, ⟨v0, v1, v2, v5, v6, v7, v8, v9⟩, _⟩ := hV
  exact n17.symm
def wp_X6_runAt (cu : SS) (fo : SS) (sv : SS) (hs : Int) (ol : Int) (tt : Int) (s0 : SS) (s1 : SS) (s2 : SS) (s3 : SS) (cs : Int → Int) (ln : Int) (kd : Int) (fk : Int) (hd : Int) (va : Int) (le : Int) (mo : Int) (index : Int) (P : Int → Prop) : Prop :=
  ((0 ≤ index ∧ index < (cu.1 17)) → ((0 ≤ index ∧ index < 120) ∧ (P ((cu.2 3) index)))) ∧ ((¬ (0 ≤ index ∧ index < (cu.1 17))) → (P (-1)))
set_option maxHeartbeats 1000000 in
theorem sp_X6_runAt (cu : SS) (fo : SS) (sv : SS) (hs : Int) (ol : Int) (tt : Int) (s0 : SS) (s1 : SS) (s2 : SS) (s3 : SS) (cs : Int → Int) (ln : Int) (kd : Int) (fk : Int) (hd : Int) (va : Int) (le : Int) (mo : Int) (index : Int) (m : SS) (n : Int) (r_cu : RG cu) (r_fo : RG fo) (r_sv : RG sv) (r_hs : rg hs) (r_ol : rg ol) (r_tt : rg tt) (r_s0 : RG s0) (r_s1 : RG s1) (r_s2 : RG s2) (r_s3 : RG s3) (r_cs : rgA cs) (r_ln : rg ln) (r_kd : rg kd) (r_fk : rg fk) (r_hd : rg hd) (r_va : rg va) (r_le : rg le) (r_mo : rg mo) (r_index : rg index) (p0 : Rep6 cu sv hs ol tt s0 s1 s2 s3 cs ln m n) (p1 : 0 ≤ n ∧ n ≤ 600) : wp_X6_runAt cu fo sv hs ol tt s0 s1 s2 s3 cs ln kd fk hd va le mo index (fun r => r = raZ (m.2 0) index ((m.2 0) 4).toNat) := by
  unfold wp_X6_runAt
  obtain ⟨⟨hR, hI⟩, _⟩ := p0
  have hV := hI.1
  have ⟨⟨f2, f3, f4, f8, f12, f13, f14, f15, f16⟩, ⟨n6, n11, n17, n18, n5⟩, b16, b17, b18, b6⟩ := Rep_facts hV hR
  have ⟨_, ⟨v0, v1, v2, v5, v6, v7, v8, v9⟩, _⟩ := hV
  have q := runAt_is (index := index) hV hR
  exact ⟨fun g => ⟨by omega, q.1 g⟩, fun g => q.2 g⟩
def wp_X6_size (cu : SS) (fo : SS) (sv : SS) (hs : Int) (ol : Int) (tt : Int) (s0 : SS) (s1 : SS) (s2 : SS) (s3 : SS) (cs : Int → Int) (ln : Int) (kd : Int) (fk : Int) (hd : Int) (va : Int) (le : Int) (mo : Int) (run : Int) (P : Int → Prop) : Prop :=
  (0 ≤ (cu.1 17) ∧ (cu.1 17) ≤ 120) ∧ (∀ (z4 : Int), rg z4 → ((z4 = -1 ∧ ∀ j, 0 ≤ j → j < (cu.1 17) → (cu.2 3) j ≠ run) ∨ (0 ≤ z4 ∧ z4 < (cu.1 17) ∧ (cu.2 3) z4 = run ∧ ∀ j, 0 ≤ j → j < z4 → (cu.2 3) j ≠ run)) → (((0 ≤ z4 ∧ z4 < (cu.1 17)) → (P (if 0 ≤ z4 ∧ z4 < 120 then (cu.2 5) z4 else 0))) ∧ ((¬ (0 ≤ z4 ∧ z4 < (cu.1 17))) → (P (-1)))))
set_option maxHeartbeats 1000000 in
theorem sp_X6_size (cu : SS) (fo : SS) (sv : SS) (hs : Int) (ol : Int) (tt : Int) (s0 : SS) (s1 : SS) (s2 : SS) (s3 : SS) (cs : Int → Int) (ln : Int) (kd : Int) (fk : Int) (hd : Int) (va : Int) (le : Int) (mo : Int) (run : Int) (m : SS) (n : Int) (r_cu : RG cu) (r_fo : RG fo) (r_sv : RG sv) (r_hs : rg hs) (r_ol : rg ol) (r_tt : rg tt) (r_s0 : RG s0) (r_s1 : RG s1) (r_s2 : RG s2) (r_s3 : RG s3) (r_cs : rgA cs) (r_ln : rg ln) (r_kd : rg kd) (r_fk : rg fk) (r_hd : rg hd) (r_va : rg va) (r_le : rg le) (r_mo : rg mo) (r_run : rg run) (p0 : Rep6 cu sv hs ol tt s0 s1 s2 s3 cs ln m n) (p1 : 0 ≤ n ∧ n ≤ 600) : wp_X6_size cu fo sv hs ol tt s0 s1 s2 s3 cs ln kd fk hd va le mo run (fun r => r = an_size (m.2 0) run) := by
  unfold wp_X6_size
  obtain ⟨⟨hR, hI⟩, _⟩ := p0
  have hV := hI.1
  have ⟨⟨f2, f3, f4, f8, f12, f13, f14, f15, f16⟩, ⟨n6, n11, n17, n18, n5⟩, b16, b17, b18, b6⟩ := Rep_facts hV hR
  have ⟨_, ⟨v0, v1, v2, v5, v6, v7, v8, v9⟩, _⟩ := hV
  refine ⟨b17, fun y ry hy => ?_⟩
  have q := size_is hV hR hy
  exact ⟨fun g => q.1 g, fun g => q.2 g⟩
def wp_X6_row (cu : SS) (fo : SS) (sv : SS) (hs : Int) (ol : Int) (tt : Int) (s0 : SS) (s1 : SS) (s2 : SS) (s3 : SS) (cs : Int → Int) (ln : Int) (kd : Int) (fk : Int) (hd : Int) (va : Int) (le : Int) (mo : Int) (run : Int) (index : Int) (part : Int) (P : Int → Prop) : Prop :=
  (0 ≤ (cu.1 17) ∧ (cu.1 17) ≤ 120) ∧ ((∀ i, 0 ≤ i → i < (cu.1 17) → ∀ j : Nat, (j : Int) < (cu.2 5) i → 0 ≤ chn (cu.2 2) ((cu.2 4) i) j ∧ chn (cu.2 2) ((cu.2 4) i) j < 120) ∧ ((∀ i j, 0 ≤ i → i < j → j < (cu.1 17) → (cu.2 3) i < (cu.2 3) j) ∧ (∀ (z8 : Int), rg z8 → ((∃ i, 0 ≤ i ∧ i < (cu.1 17) ∧ (cu.2 3) i = run ∧ 0 ≤ index ∧ index < (cu.2 5) i ∧ z8 = chn (cu.2 2) ((cu.2 4) i) index.toNat) ∨ (z8 = -1 ∧ ∀ i, 0 ≤ i → i < (cu.1 17) → (cu.2 3) i = run → ¬ (0 ≤ index ∧ index < (cu.2 5) i))) → (((0 ≤ z8 ∧ z8 < (cu.1 16)) → (((part = 0) → ((0 ≤ z8 ∧ z8 < 120) ∧ (P ((cu.2 0) z8)))) ∧ (((part = 1) → (P z8)) ∧ (((part = 2) → ((0 ≤ z8 ∧ z8 < 120) ∧ (P ((cu.2 1) z8)))) ∧ ((((part < 0 ∨ 2 < part)) → (P (-2)))))))) ∧ ((¬ (0 ≤ z8 ∧ z8 < (cu.1 16))) → (P (-1)))))))
set_option maxHeartbeats 1000000 in
theorem sp_X6_row (cu : SS) (fo : SS) (sv : SS) (hs : Int) (ol : Int) (tt : Int) (s0 : SS) (s1 : SS) (s2 : SS) (s3 : SS) (cs : Int → Int) (ln : Int) (kd : Int) (fk : Int) (hd : Int) (va : Int) (le : Int) (mo : Int) (run : Int) (index : Int) (part : Int) (m : SS) (n : Int) (r_cu : RG cu) (r_fo : RG fo) (r_sv : RG sv) (r_hs : rg hs) (r_ol : rg ol) (r_tt : rg tt) (r_s0 : RG s0) (r_s1 : RG s1) (r_s2 : RG s2) (r_s3 : RG s3) (r_cs : rgA cs) (r_ln : rg ln) (r_kd : rg kd) (r_fk : rg fk) (r_hd : rg hd) (r_va : rg va) (r_le : rg le) (r_mo : rg mo) (r_run : rg run) (r_index : rg index) (r_part : rg part) (p0 : Rep6 cu sv hs ol tt s0 s1 s2 s3 cs ln m n) (p1 : 0 ≤ n ∧ n ≤ 600) : wp_X6_row cu fo sv hs ol tt s0 s1 s2 s3 cs ln kd fk hd va le mo run index part (fun r => r = an_row (m.2 0) run index part) := by
  unfold wp_X6_row
  obtain ⟨⟨hR, hI⟩, _⟩ := p0
  have hV := hI.1
  have ⟨⟨f2, f3, f4, f8, f12, f13, f14, f15, f16⟩, ⟨n6, n11, n17, n18, n5⟩, b16, b17, b18, b6⟩ := Rep_facts hV hR
  have ⟨_, ⟨v0, v1, v2, v5, v6, v7, v8, v9⟩, _⟩ := hV
  have hd := hR.2.2.2.1
  refine ⟨b17, fun i g1 g2 j hj => ?_, hd.2.2.1, fun y ry hy => ?_⟩
  · obtain ⟨a1, a2, a3, a4⟩ := hd.2.1 i g1 g2
    obtain ⟨x1, x2, x3⟩ := a4.1 j hj
    exact ⟨x1, by omega⟩
  · have q := row_is (part := part) hV hR hy
    refine ⟨fun g => ?_, fun g => q.2 g⟩
    obtain ⟨q1, q2⟩ := q.1 g
    rw [q2]
    exact ⟨fun g3 => ⟨by omega, by rw [if_pos g3]⟩, fun g3 => by rw [if_neg (by omega), if_pos g3], fun g3 => ⟨by omega, by rw [if_neg (by omega), if_neg (by omega), if_pos g3]⟩, fun g3 => by rw [if_neg (by omega), if_neg (by omega), if_neg (by omega)]⟩
def wp_X6_count (cu : SS) (fo : SS) (sv : SS) (hs : Int) (ol : Int) (tt : Int) (s0 : SS) (s1 : SS) (s2 : SS) (s3 : SS) (cs : Int → Int) (ln : Int) (kd : Int) (fk : Int) (hd : Int) (va : Int) (le : Int) (mo : Int) (what : Int) (P : Int → Prop) : Prop :=
  ((what = 0) → (P (cu.1 16))) ∧ (((what = 1) → ((0 ≤ (cu.1 16) ∧ (cu.1 16) ≤ 120) ∧ (P (sumI (fun r => pz (0 < (cu.2 1) r)) (cu.1 16).toNat)))) ∧ (((what = 2) → ((0 ≤ (cu.1 16) ∧ (cu.1 16) ≤ 120) ∧ ((∀ r, 0 ≤ r → r < (cu.1 16) → 0 ≤ (cu.2 1) r ∧ (cu.2 1) r ≤ 120) ∧ (P (sumI (fun r => if (cu.2 0) r < (1000 : Int) then (cu.2 1) r else 0) (cu.1 16).toNat))))) ∧ (((what = 3) → (P (cu.1 12))) ∧ (((what = 4) → (P (cu.1 13))) ∧ (((what = 5) → (P (cu.1 14))) ∧ (((what = 6) → (P (cu.1 15))) ∧ ((((what < 0 ∨ 6 < what)) → (P (-2))))))))))
set_option maxHeartbeats 1000000 in
theorem sp_X6_count (cu : SS) (fo : SS) (sv : SS) (hs : Int) (ol : Int) (tt : Int) (s0 : SS) (s1 : SS) (s2 : SS) (s3 : SS) (cs : Int → Int) (ln : Int) (kd : Int) (fk : Int) (hd : Int) (va : Int) (le : Int) (mo : Int) (what : Int) (m : SS) (n : Int) (r_cu : RG cu) (r_fo : RG fo) (r_sv : RG sv) (r_hs : rg hs) (r_ol : rg ol) (r_tt : rg tt) (r_s0 : RG s0) (r_s1 : RG s1) (r_s2 : RG s2) (r_s3 : RG s3) (r_cs : rgA cs) (r_ln : rg ln) (r_kd : rg kd) (r_fk : rg fk) (r_hd : rg hd) (r_va : rg va) (r_le : rg le) (r_mo : rg mo) (r_what : rg what) (p0 : Rep6 cu sv hs ol tt s0 s1 s2 s3 cs ln m n) (p1 : 0 ≤ n ∧ n ≤ 600) : wp_X6_count cu fo sv hs ol tt s0 s1 s2 s3 cs ln kd fk hd va le mo what (fun r => r = an_count (m.2 0) what) := by
  unfold wp_X6_count
  obtain ⟨⟨hR, hI⟩, _⟩ := p0
  have hV := hI.1
  have ⟨⟨f2, f3, f4, f8, f12, f13, f14, f15, f16⟩, ⟨n6, n11, n17, n18, n5⟩, b16, b17, b18, b6⟩ := Rep_facts hV hR
  have ⟨_, ⟨v0, v1, v2, v5, v6, v7, v8, v9⟩, _⟩ := hV
  have ⟨s1, s2, s3⟩ := sums_is hV hR
  unfold an_count
  refine ⟨fun g => by rw [if_pos g, f16], fun g => ⟨b16, by rw [if_neg (by omega), if_pos g, s1]⟩, fun g => ⟨b16, s3, by rw [if_neg (by omega), if_neg (by omega), if_pos g, s2]⟩, fun g => by rw [if_neg (by omega), if_neg (by omega), if_neg (by omega), if_pos g, f12], fun g => by rw [if_neg (by omega), if_neg (by omega), if_neg (by omega), if_neg (by omega), if_pos g, f13], fun g => by rw [if_neg (by omega), if_neg (by omega), if_neg (by omega), if_neg (by omega), if_neg (by omega), if_pos g, f14], fun g => by rw [if_neg (by omega), if_neg (by omega), if_neg (by omega), if_neg (by omega), if_neg (by omega), if_neg (by omega), if_pos g, f15], fun g => by rw [if_neg (by omega), if_neg (by omega), if_neg (by omega), if_neg (by omega), if_neg (by omega), if_neg (by omega), if_neg (by omega)]⟩
def wp_X6_rank (cu : SS) (fo : SS) (sv : SS) (hs : Int) (ol : Int) (tt : Int) (s0 : SS) (s1 : SS) (s2 : SS) (s3 : SS) (cs : Int → Int) (ln : Int) (kd : Int) (fk : Int) (hd : Int) (va : Int) (le : Int) (mo : Int) (key : Int) (P : Int → Prop) : Prop :=
  ((0 ≤ key ∧ key ≤ 999) → ((0 ≤ (cu.1 16) ∧ (cu.1 16) ≤ 120) ∧ ((∀ r, 0 ≤ r → r < (cu.1 16) → 0 ≤ (cu.2 1) r ∧ (cu.2 1) r ≤ 120) ∧ (P (sumI (fun r => if (cu.2 0) r < key then (cu.2 1) r else 0) (cu.1 16).toNat))))) ∧ ((¬ (0 ≤ key ∧ key ≤ 999)) → (P (-2)))
set_option maxHeartbeats 1000000 in
theorem sp_X6_rank (cu : SS) (fo : SS) (sv : SS) (hs : Int) (ol : Int) (tt : Int) (s0 : SS) (s1 : SS) (s2 : SS) (s3 : SS) (cs : Int → Int) (ln : Int) (kd : Int) (fk : Int) (hd : Int) (va : Int) (le : Int) (mo : Int) (key : Int) (m : SS) (n : Int) (r_cu : RG cu) (r_fo : RG fo) (r_sv : RG sv) (r_hs : rg hs) (r_ol : rg ol) (r_tt : rg tt) (r_s0 : RG s0) (r_s1 : RG s1) (r_s2 : RG s2) (r_s3 : RG s3) (r_cs : rgA cs) (r_ln : rg ln) (r_kd : rg kd) (r_fk : rg fk) (r_hd : rg hd) (r_va : rg va) (r_le : rg le) (r_mo : rg mo) (r_key : rg key) (p0 : Rep6 cu sv hs ol tt s0 s1 s2 s3 cs ln m n) (p1 : 0 ≤ n ∧ n ≤ 600) : wp_X6_rank cu fo sv hs ol tt s0 s1 s2 s3 cs ln kd fk hd va le mo key (fun r => r = an_rank (m.2 0) key) := by
  unfold wp_X6_rank
  obtain ⟨⟨hR, hI⟩, _⟩ := p0
  have hV := hI.1
  have ⟨⟨f2, f3, f4, f8, f12, f13, f14, f15, f16⟩, ⟨n6, n11, n17, n18, n5⟩, b16, b17, b18, b6⟩ := Rep_facts hV hR
  have ⟨_, ⟨v0, v1, v2, v5, v6, v7, v8, v9⟩, _⟩ := hV
  have ⟨s1, s2, s3⟩ := sums_is hV hR
  unfold an_rank
  exact ⟨fun g => ⟨b16, s3, by rw [if_pos g, s2]⟩, fun g => by rw [if_neg g]⟩
