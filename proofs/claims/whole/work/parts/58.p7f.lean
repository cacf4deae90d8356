def wp_X7_letter (s : SS)  (P : Int → Prop) : Prop :=
  (((s.1 10) < (s.1 7)) → ((0 ≤ (s.1 10) ∧ (s.1 10) < 80) ∧ (P ((s.2 6) (s.1 10))))) ∧ ((¬ ((s.1 10) < (s.1 7))) → (P (-6)))
set_option maxHeartbeats 1000000 in
theorem sp_X7_letter (s : SS)  (r_s : RG s)  (p0 : 0 ≤ (s.1 7) ∧ (s.1 7) ≤ 80) (p1 : 0 ≤ (s.1 10)) : wp_X7_letter s (fun z => z = (letZ s)) := by
  unfold wp_X7_letter
  unfold letZ
  (repeat' first | (refine And.intro ?_ ?_) | intro _)
  all_goals first | omega | (rw [if_pos (by assumption)]) | (rw [if_neg (by assumption)])
def wp_X7_figure (s : SS)  (P : Int → Prop) : Prop :=
  (0 ≤ (s.1 7) ∧ (s.1 7) ≤ 80) ∧ ((0 ≤ (s.1 10)) ∧ (rg ((letZ s) - 48) ∧ ((((0 : Int) ≤ ((letZ s) - 48) ∧ ((letZ s) - 48) ≤ (9 : Int)) → (P ((letZ s) - 48))) ∧ ((¬ ((0 : Int) ≤ ((letZ s) - 48) ∧ ((letZ s) - 48) ≤ (9 : Int))) → (P (-6))))))
set_option maxHeartbeats 1000000 in
theorem sp_X7_figure (s : SS)  (r_s : RG s)  (p0 : 0 ≤ (s.1 7) ∧ (s.1 7) ≤ 80) (p1 : 0 ≤ (s.1 10)) (p2 : Bf s) : wp_X7_figure s (fun z => z = (figZ s)) := by
  unfold wp_X7_figure
  have hL : letZ s = -6 ∨ (33 ≤ letZ s ∧ letZ s ≤ 126) := by
    unfold letZ
    by_cases c : s.1 10 < s.1 7
    · rw [if_pos c]; exact Or.inr (p2 _ p1 c)
    · rw [if_neg c]; exact Or.inl rfl
  unfold figZ
  exact ⟨p0, p1, by unfold rg; omega, fun c => by rw [if_pos (by omega)], fun c => by rw [if_neg (by omega)]⟩
def wp_X7_wants (s : SS) (b : Int) (P : SS → Prop) : Prop :=
  (((s.1 11) = (-6)) → (((b = 0) → (rg ((s.1 10) + 1) ∧ (P (sS (sS s 10 ((s.1 10) + 1)) 11 (s.1 10))))) ∧ ((¬ (b = 0)) → (rg ((s.1 10) + 1) ∧ (P (sS (sS s 10 ((s.1 10) + 1)) 11 (-6))))))) ∧ ((¬ ((s.1 11) = (-6))) → (P s))
set_option maxHeartbeats 1000000 in
theorem sp_X7_wants (s : SS) (b : Int) (r_s : RG s) (r_b : rg b) (p0 : 0 ≤ (s.1 10) ∧ (s.1 10) ≤ 80) (p1 : (s.1 11) = -6) : wp_X7_wants s b (fun o0 => o0 = (sS (sS s 10 ((s.1 10) + 1)) 11 (if b = 0 then (s.1 10) else -6))) := by
  unfold wp_X7_wants
  exact ⟨fun _ => ⟨fun c => ⟨by unfold rg; omega, by rw [if_pos c]⟩, fun c => ⟨by unfold rg; omega, by rw [if_neg c]⟩⟩, fun c => absurd p1 c⟩
def wp_X7_key (s : SS)  (P : Int → SS → Prop) : Prop :=
  (0 ≤ (s.1 7) ∧ (s.1 7) ≤ 80) ∧ ((0 ≤ (s.1 10)) ∧ ((Bf s) ∧ ((((figZ s) = (-6)) → ((0 ≤ (s.1 10) ∧ (s.1 10) ≤ 80) ∧ (((s.1 11) = -6) ∧ (∃ (I22 : Int → SS → Prop) (μ23 : Int → SS → Nat), I22 (figZ s) (sS (sS s 10 ((s.1 10) + 1)) 11 (s.1 10)) ∧ ∀ (x1_21 : Int) (s0_21 : SS), rg x1_21 → RG s0_21 → I22 x1_21 s0_21 → ((((s0_21.1 11) = (-6)) → (((0 < x1_21) → ((0 ≤ (s0_21.1 7) ∧ (s0_21.1 7) ≤ 80) ∧ ((0 ≤ (s0_21.1 10)) ∧ ((Bf s0_21) ∧ ((((figZ s0_21) = (-6)) → (P x1_21 s0_21)) ∧ ((¬ ((figZ s0_21) = (-6))) → (rg (10 * x1_21) ∧ (rg ((10 * x1_21) + (figZ s0_21)) ∧ (((((10 * x1_21) + (figZ s0_21)) < 1000) → (rg ((s0_21.1 10) + 1) ∧ (I22 ((10 * x1_21) + (figZ s0_21)) (sS s0_21 10 ((s0_21.1 10) + 1)) ∧ μ23 ((10 * x1_21) + (figZ s0_21)) (sS s0_21 10 ((s0_21.1 10) + 1)) < μ23 x1_21 s0_21))) ∧ ((¬ (((10 * x1_21) + (figZ s0_21)) < 1000)) → (P x1_21 s0_21))))))))))) ∧ ((¬ (0 < x1_21)) → (P x1_21 s0_21)))) ∧ ((¬ ((s0_21.1 11) = (-6))) → (P x1_21 s0_21))))))) ∧ ((¬ ((figZ s) = (-6))) → ((0 ≤ (s.1 10) ∧ (s.1 10) ≤ 80) ∧ (((s.1 11) = -6) ∧ (∃ (I81 : Int → SS → Prop) (μ82 : Int → SS → Nat), I81 (figZ s) (sS (sS s 10 ((s.1 10) + 1)) 11 (-6)) ∧ ∀ (x1_80 : Int) (s0_80 : SS), rg x1_80 → RG s0_80 → I81 x1_80 s0_80 → ((((s0_80.1 11) = (-6)) → (((0 < x1_80) → ((0 ≤ (s0_80.1 7) ∧ (s0_80.1 7) ≤ 80) ∧ ((0 ≤ (s0_80.1 10)) ∧ ((Bf s0_80) ∧ ((((figZ s0_80) = (-6)) → (P x1_80 s0_80)) ∧ ((¬ ((figZ s0_80) = (-6))) → (rg (10 * x1_80) ∧ (rg ((10 * x1_80) + (figZ s0_80)) ∧ (((((10 * x1_80) + (figZ s0_80)) < 1000) → (rg ((s0_80.1 10) + 1) ∧ (I81 ((10 * x1_80) + (figZ s0_80)) (sS s0_80 10 ((s0_80.1 10) + 1)) ∧ μ82 ((10 * x1_80) + (figZ s0_80)) (sS s0_80 10 ((s0_80.1 10) + 1)) < μ82 x1_80 s0_80))) ∧ ((¬ (((10 * x1_80) + (figZ s0_80)) < 1000)) → (P x1_80 s0_80))))))))))) ∧ ((¬ (0 < x1_80)) → (P x1_80 s0_80)))) ∧ ((¬ ((s0_80.1 11) = (-6))) → (P x1_80 s0_80))))))))))
set_option maxHeartbeats 1000000 in
theorem sp_X7_key (s : SS)   (r_s : RG s)  (p0 : 0 ≤ (s.1 7) ∧ (s.1 7) ≤ 80) (p1 : Bf s) (p2 : (s.1 11) = -6) (p3 : 0 ≤ (s.1 10) ∧ (s.1 10) ≤ (s.1 7)) (p4 : StA (s.2 6) (s.1 10) (0, 0, 0, 0)) : wp_X7_key s (fun r s' => psA s s' 0 0 r 0 999) := by
  unfold wp_X7_key
  have hc := figZ_c s
  have fail : figZ s = -6 → psA s (sS (sS s 10 (s.1 10 + 1)) 11 (s.1 10)) 0 0 (figZ s) 0 999 := fun e => ⟨_, _, rfl, Or.inr ⟨by omega, FaA_at p3.2 p4 (fun a b => by
    rcases hc with ⟨_, q⟩ | ⟨q, _⟩
    · exact absurd b (q a)
    · omega) (fun q => absurd q.1 (by omega)), by omega, by omega, by omega⟩⟩
  refine ⟨p0, p3.1, p1, fun e => ⟨by omega, p2, ?_⟩, fun e => ⟨by omega, p2, ?_⟩⟩
  · refine ⟨fun v t => v = figZ s ∧ t = sS (sS s 10 (s.1 10 + 1)) 11 (s.1 10), fun _ _ => 0, ⟨rfl, rfl⟩, ?_⟩
    intro v t rv rt ⟨k1, k2⟩
    subst k2
    subst k1
    exact ⟨fun q => absurd q (by show ¬ s.1 10 = -6; omega), fun _ => fail e⟩
  · obtain ⟨c1, c2, c3, c4⟩ := hc.resolve_left (fun q => e q.1)
    refine ⟨fun v t => ∃ p, t = sS (sS s 10 p) 11 (-6) ∧ (s.1 10 < p ∧ p ≤ s.1 7) ∧ (0 ≤ v ∧ v ≤ 999) ∧ StA (s.2 6) p (0, 0, 1, v) ∧ cnA (s.2 6) p = cnA (s.2 6) (s.1 10), fun _ t => (s.1 7 - t.1 10).toNat, ⟨s.1 10 + 1, rfl, by omega, by omega, StA_dig p4 ((acc0_dig (by omega) (by omega)).mpr ⟨by omega, by omega⟩) (by omega) (by omega), cnA_S p3.1 (by omega)⟩, ?_⟩
    intro v t rv rt ⟨p, k1, k2, k3, k4, k5⟩
    subst k1
    have hc2 := figZ_c (sS (sS s 10 p) 11 (-6))
    rw [sS2_10, sS2_7, sS2_6] at hc2
    have done : (p < s.1 7 → 48 ≤ s.2 6 p ∧ s.2 6 p ≤ 57 → ¬ accQ 0 0 1 v (s.2 6 p)) → psA s (sS (sS s 10 p) 11 (-6)) 0 0 v 0 999 := fun h => ⟨p, -6, rfl, Or.inl ⟨rfl, k2.1, k2.2, k3, k4, h, k5⟩⟩
    refine ⟨fun _ => ⟨fun a => ⟨p0, by show 0 ≤ p; omega, p1, fun b => done (fun x y => ?_), fun b => ?_⟩, fun a => done (fun x y => ?_)⟩, fun q => absurd rfl q⟩
    · rcases hc2 with ⟨_, q⟩ | ⟨q, _⟩
      · exact absurd y (q x)
      · omega
    · obtain ⟨d1, d2, d3, d4⟩ := hc2.resolve_left (fun q => b q.1)
      refine ⟨by unfold rg; omega, by unfold rg; omega, fun g => ⟨by show rg (p + 1); unfold rg; omega, ⟨p + 1, sS_10b, by omega, by omega, StA_dig k4 ((acc0_dig (by omega) (by omega)).mpr ⟨by omega, by omega⟩) (by omega) (by omega), (cnA_S (by omega) (by omega)).trans k5⟩, ?_⟩, fun g => done (fun x y => ?_)⟩
      · show (s.1 7 - (p + 1)).toNat < (s.1 7 - p).toNat
        omega
      · rw [acc0_dig y (by omega)]
        omega
    · rw [acc0_dig y (by omega)]
      omega
def wp_X7_greater (s : SS) (than : Int) (P : Int → SS → Prop) : Prop :=
  (0 ≤ (s.1 7) ∧ (s.1 7) ≤ 80) ∧ ((0 ≤ (s.1 10)) ∧ ((Bf s) ∧ (((0 < (figZ s)) → (rg (100 * (figZ s)) ∧ (rg ((100 * (figZ s)) + 99) ∧ (((than < ((100 * (figZ s)) + 99)) → ((0 ≤ (s.1 10) ∧ (s.1 10) ≤ 80) ∧ (((s.1 11) = -6) ∧ (∃ (I194 : Int → Int → SS → Prop) (μ195 : Int → Int → SS → Nat), I194 (figZ s) 10 (sS (sS s 10 ((s.1 10) + 1)) 11 (-6)) ∧ ∀ (x2_193 : Int) (x3_193 : Int) (s0_193 : SS), rg x2_193 → rg x3_193 → RG s0_193 → I194 x2_193 x3_193 s0_193 → ((((s0_193.1 11) = (-6)) → ((0 ≤ (s0_193.1 7) ∧ (s0_193.1 7) ≤ 80) ∧ ((0 ≤ (s0_193.1 10)) ∧ ((Bf s0_193) ∧ ((((figZ s0_193) = (-6)) → (((than < x2_193) → (P x2_193 s0_193)) ∧ ((¬ (than < x2_193)) → (P x2_193 (sS s0_193 11 (s0_193.1 10)))))) ∧ ((¬ ((figZ s0_193) = (-6))) → (((0 < x3_193) → (rg (10 * x2_193) ∧ (rg ((10 * x2_193) + (figZ s0_193)) ∧ (rg (((10 * x2_193) + (figZ s0_193)) * x3_193) ∧ (rg ((((10 * x2_193) + (figZ s0_193)) * x3_193) + x3_193) ∧ (rg (((((10 * x2_193) + (figZ s0_193)) * x3_193) + x3_193) - 1) ∧ (((than < (((((10 * x2_193) + (figZ s0_193)) * x3_193) + x3_193) - 1)) → (rg ((s0_193.1 10) + 1) ∧ (0 ≤ x3_193 ∧ (I194 ((10 * x2_193) + (figZ s0_193)) (x3_193 / 10) (sS s0_193 10 ((s0_193.1 10) + 1)) ∧ μ195 ((10 * x2_193) + (figZ s0_193)) (x3_193 / 10) (sS s0_193 10 ((s0_193.1 10) + 1)) < μ195 x2_193 x3_193 s0_193)))) ∧ ((¬ (than < (((((10 * x2_193) + (figZ s0_193)) * x3_193) + x3_193) - 1))) → (((than < x2_193) → (P x2_193 s0_193)) ∧ ((¬ (than < x2_193)) → (P x2_193 (sS s0_193 11 (s0_193.1 10))))))))))))) ∧ ((¬ (0 < x3_193)) → (((than < x2_193) → (P x2_193 s0_193)) ∧ ((¬ (than < x2_193)) → (P x2_193 (sS s0_193 11 (s0_193.1 10))))))))))))) ∧ ((¬ ((s0_193.1 11) = (-6))) → (P x2_193 s0_193))))))) ∧ ((¬ (than < ((100 * (figZ s)) + 99))) → ((0 ≤ (s.1 10) ∧ (s.1 10) ≤ 80) ∧ (((s.1 11) = -6) ∧ (∃ (I112 : Int → Int → SS → Prop) (μ113 : Int → Int → SS → Nat), I112 (figZ s) 10 (sS (sS s 10 ((s.1 10) + 1)) 11 (s.1 10)) ∧ ∀ (x2_111 : Int) (x3_111 : Int) (s0_111 : SS), rg x2_111 → rg x3_111 → RG s0_111 → I112 x2_111 x3_111 s0_111 → ((((s0_111.1 11) = (-6)) → ((0 ≤ (s0_111.1 7) ∧ (s0_111.1 7) ≤ 80) ∧ ((0 ≤ (s0_111.1 10)) ∧ ((Bf s0_111) ∧ ((((figZ s0_111) = (-6)) → (((than < x2_111) → (P x2_111 s0_111)) ∧ ((¬ (than < x2_111)) → (P x2_111 (sS s0_111 11 (s0_111.1 10)))))) ∧ ((¬ ((figZ s0_111) = (-6))) → (((0 < x3_111) → (rg (10 * x2_111) ∧ (rg ((10 * x2_111) + (figZ s0_111)) ∧ (rg (((10 * x2_111) + (figZ s0_111)) * x3_111) ∧ (rg ((((10 * x2_111) + (figZ s0_111)) * x3_111) + x3_111) ∧ (rg (((((10 * x2_111) + (figZ s0_111)) * x3_111) + x3_111) - 1) ∧ (((than < (((((10 * x2_111) + (figZ s0_111)) * x3_111) + x3_111) - 1)) → (rg ((s0_111.1 10) + 1) ∧ (0 ≤ x3_111 ∧ (I112 ((10 * x2_111) + (figZ s0_111)) (x3_111 / 10) (sS s0_111 10 ((s0_111.1 10) + 1)) ∧ μ113 ((10 * x2_111) + (figZ s0_111)) (x3_111 / 10) (sS s0_111 10 ((s0_111.1 10) + 1)) < μ113 x2_111 x3_111 s0_111)))) ∧ ((¬ (than < (((((10 * x2_111) + (figZ s0_111)) * x3_111) + x3_111) - 1))) → (((than < x2_111) → (P x2_111 s0_111)) ∧ ((¬ (than < x2_111)) → (P x2_111 (sS s0_111 11 (s0_111.1 10))))))))))))) ∧ ((¬ (0 < x3_111)) → (((than < x2_111) → (P x2_111 s0_111)) ∧ ((¬ (than < x2_111)) → (P x2_111 (sS s0_111 11 (s0_111.1 10))))))))))))) ∧ ((¬ ((s0_111.1 11) = (-6))) → (P x2_111 s0_111))))))))))) ∧ ((¬ (0 < (figZ s))) → ((0 ≤ (s.1 10) ∧ (s.1 10) ≤ 80) ∧ (((s.1 11) = -6) ∧ (∃ (I22 : Int → Int → SS → Prop) (μ23 : Int → Int → SS → Nat), I22 (figZ s) 10 (sS (sS s 10 ((s.1 10) + 1)) 11 (s.1 10)) ∧ ∀ (x2_21 : Int) (x3_21 : Int) (s0_21 : SS), rg x2_21 → rg x3_21 → RG s0_21 → I22 x2_21 x3_21 s0_21 → ((((s0_21.1 11) = (-6)) → ((0 ≤ (s0_21.1 7) ∧ (s0_21.1 7) ≤ 80) ∧ ((0 ≤ (s0_21.1 10)) ∧ ((Bf s0_21) ∧ ((((figZ s0_21) = (-6)) → (((than < x2_21) → (P x2_21 s0_21)) ∧ ((¬ (than < x2_21)) → (P x2_21 (sS s0_21 11 (s0_21.1 10)))))) ∧ ((¬ ((figZ s0_21) = (-6))) → (((0 < x3_21) → (rg (10 * x2_21) ∧ (rg ((10 * x2_21) + (figZ s0_21)) ∧ (rg (((10 * x2_21) + (figZ s0_21)) * x3_21) ∧ (rg ((((10 * x2_21) + (figZ s0_21)) * x3_21) + x3_21) ∧ (rg (((((10 * x2_21) + (figZ s0_21)) * x3_21) + x3_21) - 1) ∧ (((than < (((((10 * x2_21) + (figZ s0_21)) * x3_21) + x3_21) - 1)) → (rg ((s0_21.1 10) + 1) ∧ (0 ≤ x3_21 ∧ (I22 ((10 * x2_21) + (figZ s0_21)) (x3_21 / 10) (sS s0_21 10 ((s0_21.1 10) + 1)) ∧ μ23 ((10 * x2_21) + (figZ s0_21)) (x3_21 / 10) (sS s0_21 10 ((s0_21.1 10) + 1)) < μ23 x2_21 x3_21 s0_21)))) ∧ ((¬ (than < (((((10 * x2_21) + (figZ s0_21)) * x3_21) + x3_21) - 1))) → (((than < x2_21) → (P x2_21 s0_21)) ∧ ((¬ (than < x2_21)) → (P x2_21 (sS s0_21 11 (s0_21.1 10))))))))))))) ∧ ((¬ (0 < x3_21)) → (((than < x2_21) → (P x2_21 s0_21)) ∧ ((¬ (than < x2_21)) → (P x2_21 (sS s0_21 11 (s0_21.1 10))))))))))))) ∧ ((¬ ((s0_21.1 11) = (-6))) → (P x2_21 s0_21))))))))))
set_option maxHeartbeats 1000000 in
theorem sp_X7_greater (s : SS) (than : Int)  (r_s : RG s) (r_than : rg than) (p0 : 0 ≤ (s.1 7) ∧ (s.1 7) ≤ 80) (p1 : Bf s) (p2 : (s.1 11) = -6) (p3 : 0 ≤ (s.1 10) ∧ (s.1 10) ≤ (s.1 7)) (p4 : 0 ≤ than ∧ than < 999) (p5 : StA (s.2 6) (s.1 10) (2, than, 0, 0)) : wp_X7_greater s than (fun r s' => psA s s' 2 than r (than + 1) 999) := by
  unfold wp_X7_greater
  have hc := figZ_c s
  have fail : ¬ (0 < figZ s ∧ than < 100 * figZ s + 99) → psA s (sS (sS s 10 (s.1 10 + 1)) 11 (s.1 10)) 2 than (figZ s) (than + 1) 999 := fun e => ⟨_, _, rfl, Or.inr ⟨by omega, FaA_at p3.2 p5 (fun a b => by
    rcases hc with ⟨_, q⟩ | ⟨q, q2, q3, q4⟩
    · exact absurd b (q a)
    · rw [acc2_dig b (by omega)]
      omega) (fun q => absurd q.1 (by omega)), by omega, by omega, by omega⟩⟩
  have bad : ¬ (0 < figZ s ∧ than < 100 * figZ s + 99) → ∀ (v x : Int) (t : SS), v = figZ s ∧ x = 10 ∧ t = sS (sS s 10 (s.1 10 + 1)) 11 (s.1 10) → ¬ t.1 11 = -6 ∧ psA s t 2 than v (than + 1) 999 := fun e v x t ⟨k1, k2, k3⟩ => by
    subst k3
    subst k1
    exact ⟨by show ¬ s.1 10 = -6; omega, fail e⟩
  refine ⟨p0, p3.1, p1, fun e => ⟨by unfold rg; omega, by unfold rg; omega, fun e2 => ⟨by omega, p2, ?_⟩, fun e2 => ⟨by omega, p2, ?_⟩⟩, fun e => ⟨by omega, p2, ?_⟩⟩
  · obtain ⟨c1, c2, c3, c4⟩ := hc.resolve_left (fun q => by omega)
    refine ⟨fun v x t => ∃ p, t = sS (sS s 10 p) 11 (-6) ∧ (s.1 10 < p ∧ p ≤ s.1 7) ∧ ((x = 10 ∧ 1 ≤ v ∧ v ≤ 9 ∧ than < 100 * v + 99) ∨ (x = 1 ∧ 10 ≤ v ∧ v ≤ 99 ∧ than < 10 * v + 9) ∨ (x = 0 ∧ 100 ≤ v ∧ v ≤ 999 ∧ than < v)) ∧ StA (s.2 6) p (2, than, 1, v) ∧ cnA (s.2 6) p = cnA (s.2 6) (s.1 10), fun _ _ t => (s.1 7 - t.1 10).toNat, ⟨s.1 10 + 1, rfl, by omega, Or.inl ⟨rfl, by omega, by omega, by omega⟩, StA_dig p5 ((acc2_dig (by omega) (by omega)).mpr ⟨by omega, by omega, by omega⟩) (by omega) (by omega), cnA_S p3.1 (by omega)⟩, ?_⟩
    intro v x t rv rx rt ⟨p, k1, k2, k3, k4, k5⟩
    subst k1
    have hc2 := figZ_c (sS (sS s 10 p) 11 (-6))
    rw [sS2_10, sS2_7, sS2_6] at hc2
    have ex : (p < s.1 7 → 48 ≤ s.2 6 p ∧ s.2 6 p ≤ 57 → ¬ accQ 2 than 1 v (s.2 6 p)) → (than < v → psA s (sS (sS s 10 p) 11 (-6)) 2 than v (than + 1) 999) ∧ (¬ than < v → psA s (sS (sS (sS s 10 p) 11 (-6)) 11 p) 2 than v (than + 1) 999) := fun h => ⟨fun g => ⟨p, -6, rfl, Or.inl ⟨rfl, k2.1, k2.2, by omega, k4, h, k5⟩⟩, fun g => ⟨p, p, sS_11b, Or.inr ⟨by omega, FaA_at k2.2 k4 h (fun q => by
      have := q.2.2
      rw [mnQ_2] at this
      omega), by omega, by omega, by omega⟩⟩⟩
    refine ⟨fun _ => ⟨p0, by show 0 ≤ p; omega, p1, fun b => ex (fun a y => ?_), fun b => ⟨fun g => ?_, fun g => ex (fun a y => ?_)⟩⟩, fun q => absurd rfl q⟩
    · rcases hc2 with ⟨_, q⟩ | ⟨q, _⟩
      · exact absurd y (q a)
      · omega
    · obtain ⟨d1, d2, d3, d4⟩ := hc2.resolve_left (fun q => b q.1)
      rcases k3 with ⟨h1, h2, h3, h4⟩ | ⟨h1, h2, h3, h4⟩ | ⟨h1, h2, h3, h4⟩
      · subst h1
        refine ⟨by unfold rg; omega, by unfold rg; omega, by unfold rg; omega, by unfold rg; omega, by unfold rg; omega, fun g2 => ⟨by show rg (p + 1); unfold rg; omega, by omega, ⟨p + 1, sS_10b, by omega, Or.inr (Or.inl ⟨by omega, by omega, by omega, by omega⟩), StA_dig k4 ((acc2_dig (by omega) (by omega)).mpr ⟨by omega, by omega, by omega⟩) (by omega) (by omega), (cnA_S (by omega) (by omega)).trans k5⟩, ?_⟩, fun g2 => ex (fun a y => ?_)⟩
        · show (s.1 7 - (p + 1)).toNat < (s.1 7 - p).toNat
          omega
        · rw [acc2_dig y (by omega)]
          omega
      · subst h1
        refine ⟨by unfold rg; omega, by unfold rg; omega, by unfold rg; omega, by unfold rg; omega, by unfold rg; omega, fun g2 => ⟨by show rg (p + 1); unfold rg; omega, by omega, ⟨p + 1, sS_10b, by omega, Or.inr (Or.inr ⟨by omega, by omega, by omega, by omega⟩), StA_dig k4 ((acc2_dig (by omega) (by omega)).mpr ⟨by omega, by omega, by omega⟩) (by omega) (by omega), (cnA_S (by omega) (by omega)).trans k5⟩, ?_⟩, fun g2 => ex (fun a y => ?_)⟩
        · show (s.1 7 - (p + 1)).toNat < (s.1 7 - p).toNat
          omega
        · rw [acc2_dig y (by omega)]
          omega
      · omega
    · rw [acc2_dig y (by omega)]
      omega
  · refine ⟨fun v x t => v = figZ s ∧ x = 10 ∧ t = sS (sS s 10 (s.1 10 + 1)) 11 (s.1 10), fun _ _ _ => 0, ⟨rfl, rfl, rfl⟩, ?_⟩
    intro v x t rv rx rt hI
    obtain ⟨w1, w2⟩ := bad (by omega) v x t hI
    exact ⟨fun q => absurd q w1, fun _ => w2⟩
  · refine ⟨fun v x t => v = figZ s ∧ x = 10 ∧ t = sS (sS s 10 (s.1 10 + 1)) 11 (s.1 10), fun _ _ _ => 0, ⟨rfl, rfl, rfl⟩, ?_⟩
    intro v x t rv rx rt hI
    obtain ⟨w1, w2⟩ := bad (by omega) v x t hI
    exact ⟨fun q => absurd q w1, fun _ => w2⟩
def wp_X7_number (s : SS)  (P : Int → SS → Prop) : Prop :=
  (0 ≤ (s.1 7) ∧ (s.1 7) ≤ 80) ∧ ((0 ≤ (s.1 10)) ∧ ((Bf s) ∧ (((0 < (figZ s)) → ((0 ≤ (s.1 10) ∧ (s.1 10) ≤ 80) ∧ (((s.1 11) = -6) ∧ ((((-6) = (-6)) → ((((figZ s) = 1) → ((0 ≤ ((s.1 10) + 1)) ∧ ((Bf (sS (sS s 10 ((s.1 10) + 1)) 11 (-6))) ∧ (rg (10 + (figZ (sS (sS s 10 ((s.1 10) + 1)) 11 (-6)))) ∧ ((((10 + (figZ (sS (sS s 10 ((s.1 10) + 1)) 11 (-6)))) < 10) → ((0 ≤ ((s.1 10) + 1) ∧ ((s.1 10) + 1) ≤ 80) ∧ (((-6) = -6) ∧ (P (10 + (figZ (sS (sS s 10 ((s.1 10) + 1)) 11 (-6)))) (sS (sS s 10 (((s.1 10) + 1) + 1)) 11 ((s.1 10) + 1)))))) ∧ ((¬ ((10 + (figZ (sS (sS s 10 ((s.1 10) + 1)) 11 (-6)))) < 10)) → ((0 ≤ ((s.1 10) + 1) ∧ ((s.1 10) + 1) ≤ 80) ∧ (((-6) = -6) ∧ (P (10 + (figZ (sS (sS s 10 ((s.1 10) + 1)) 11 (-6)))) (sS (sS s 10 (((s.1 10) + 1) + 1)) 11 (-6))))))))))) ∧ ((¬ ((figZ s) = 1)) → ((((figZ s) = 2) → ((0 ≤ ((s.1 10) + 1)) ∧ ((Bf (sS (sS s 10 ((s.1 10) + 1)) 11 (-6))) ∧ ((((figZ (sS (sS s 10 ((s.1 10) + 1)) 11 (-6))) = 0) → (rg (((s.1 10) + 1) + 1) ∧ (P 20 (sS (sS s 10 (((s.1 10) + 1) + 1)) 11 (-6))))) ∧ ((¬ ((figZ (sS (sS s 10 ((s.1 10) + 1)) 11 (-6))) = 0)) → (P (figZ s) (sS (sS s 10 ((s.1 10) + 1)) 11 (-6)))))))) ∧ ((¬ ((figZ s) = 2)) → (P (figZ s) (sS (sS s 10 ((s.1 10) + 1)) 11 (-6)))))))) ∧ ((¬ ((-6) = (-6))) → (P (figZ s) (sS (sS s 10 ((s.1 10) + 1)) 11 (-6)))))))) ∧ ((¬ (0 < (figZ s))) → ((0 ≤ (s.1 10) ∧ (s.1 10) ≤ 80) ∧ (((s.1 11) = -6) ∧ ((((s.1 10) = (-6)) → ((((figZ s) = 1) → ((0 ≤ ((s.1 10) + 1)) ∧ ((Bf (sS (sS s 10 ((s.1 10) + 1)) 11 (s.1 10))) ∧ (rg (10 + (figZ (sS (sS s 10 ((s.1 10) + 1)) 11 (s.1 10)))) ∧ ((((10 + (figZ (sS (sS s 10 ((s.1 10) + 1)) 11 (s.1 10)))) < 10) → ((0 ≤ ((s.1 10) + 1) ∧ ((s.1 10) + 1) ≤ 80) ∧ (((s.1 10) = -6) ∧ (P (10 + (figZ (sS (sS s 10 ((s.1 10) + 1)) 11 (s.1 10)))) (sS (sS s 10 (((s.1 10) + 1) + 1)) 11 ((s.1 10) + 1)))))) ∧ ((¬ ((10 + (figZ (sS (sS s 10 ((s.1 10) + 1)) 11 (s.1 10)))) < 10)) → ((0 ≤ ((s.1 10) + 1) ∧ ((s.1 10) + 1) ≤ 80) ∧ (((s.1 10) = -6) ∧ (P (10 + (figZ (sS (sS s 10 ((s.1 10) + 1)) 11 (s.1 10)))) (sS (sS s 10 (((s.1 10) + 1) + 1)) 11 (-6))))))))))) ∧ ((¬ ((figZ s) = 1)) → ((((figZ s) = 2) → ((0 ≤ ((s.1 10) + 1)) ∧ ((Bf (sS (sS s 10 ((s.1 10) + 1)) 11 (s.1 10))) ∧ ((((figZ (sS (sS s 10 ((s.1 10) + 1)) 11 (s.1 10))) = 0) → (rg (((s.1 10) + 1) + 1) ∧ (P 20 (sS (sS s 10 (((s.1 10) + 1) + 1)) 11 (s.1 10))))) ∧ ((¬ ((figZ (sS (sS s 10 ((s.1 10) + 1)) 11 (s.1 10))) = 0)) → (P (figZ s) (sS (sS s 10 ((s.1 10) + 1)) 11 (s.1 10)))))))) ∧ ((¬ ((figZ s) = 2)) → (P (figZ s) (sS (sS s 10 ((s.1 10) + 1)) 11 (s.1 10)))))))) ∧ ((¬ ((s.1 10) = (-6))) → (P (figZ s) (sS (sS s 10 ((s.1 10) + 1)) 11 (s.1 10)))))))))))
set_option maxHeartbeats 1000000 in
theorem sp_X7_number (s : SS)  (k : Int) (r_s : RG s)  (p0 : 0 ≤ (s.1 7) ∧ (s.1 7) ≤ 80) (p1 : Bf s) (p2 : (s.1 11) = -6) (p3 : 0 ≤ (s.1 10) ∧ (s.1 10) ≤ (s.1 7)) (p4 : StA (s.2 6) (s.1 10) (1, k, 0, 0)) : wp_X7_number s (fun r s' => psA s s' 1 k r 2 20) := by
  unfold wp_X7_number
  have hc := figZ_c s
  have hc2 := figZ_c (sS (sS s 10 (s.1 10 + 1)) 11 (-6))
  rw [sS2_10, sS2_7, sS2_6] at hc2
  refine ⟨p0, p3.1, p1, fun e => ⟨by omega, p2, fun _ => ⟨fun f => ⟨by omega, p1, by unfold rg; omega, fun g => ⟨by omega, rfl, ?_⟩, fun g => ⟨by omega, rfl, ?_⟩⟩, fun f => ⟨fun g => ⟨by omega, p1, fun q => ⟨by unfold rg; omega, ?_⟩, fun q => ?_⟩, fun g => ?_⟩⟩, fun q => absurd rfl q⟩, fun e => ⟨by omega, p2, fun q => by omega, fun q => ?_⟩⟩
  · obtain ⟨c1, c2, c3, c4⟩ := hc.resolve_left (fun q => by omega)
    have st : StA (s.2 6) (s.1 10 + 1) (1, k, 1, 1) := StA_dig p4 ((acc1_dig (by omega) (by omega)).mpr ⟨by omega, by omega, by omega⟩) (by omega) (by omega)
    refine ⟨_, _, rfl, Or.inr ⟨by omega, FaA_at (by omega) st (fun a b => ?_) (fun q => ?_), by omega, by omega, by omega⟩⟩
    · rcases hc2 with ⟨_, w⟩ | ⟨w, _⟩
      · exact absurd b (w a)
      · omega
    · have := q.2.2
      rw [mnQ_1] at this
      omega
  · obtain ⟨c1, c2, c3, c4⟩ := hc.resolve_left (fun q => by omega)
    obtain ⟨d1, d2, d3, d4⟩ := hc2.resolve_left (fun q => by omega)
    have st : StA (s.2 6) (s.1 10 + 1) (1, k, 1, 1) := StA_dig p4 ((acc1_dig (by omega) (by omega)).mpr ⟨by omega, by omega, by omega⟩) (by omega) (by omega)
    have st2 : StA (s.2 6) (s.1 10 + 1 + 1) (1, k, 1, 10 + figZ (sS (sS s 10 (s.1 10 + 1)) 11 (-6))) := StA_dig st ((acc1_dig (by omega) (by omega)).mpr ⟨by omega, by omega, by omega⟩) (by omega) (by omega)
    refine ⟨_, _, rfl, Or.inl ⟨rfl, by omega, by omega, by omega, st2, fun a b => ?_, ?_⟩⟩
    · rw [acc1_dig b (by omega)]
      omega
    · rw [cnA_S (by omega) (by omega), cnA_S (by omega) (by omega)]
  · obtain ⟨c1, c2, c3, c4⟩ := hc.resolve_left (fun q => by omega)
    obtain ⟨d1, d2, d3, d4⟩ := hc2.resolve_left (fun q => by omega)
    have st : StA (s.2 6) (s.1 10 + 1) (1, k, 1, 2) := StA_dig p4 ((acc1_dig (by omega) (by omega)).mpr ⟨by omega, by omega, by omega⟩) (by omega) (by omega)
    have st2 : StA (s.2 6) (s.1 10 + 1 + 1) (1, k, 1, 20) := StA_dig st ((acc1_dig (by omega) (by omega)).mpr ⟨by omega, by omega, by omega⟩) (by omega) (by omega)
    refine ⟨_, _, rfl, Or.inl ⟨rfl, by omega, by omega, by omega, st2, fun a b => ?_, ?_⟩⟩
    · rw [acc1_dig b (by omega)]
      omega
    · rw [cnA_S (by omega) (by omega), cnA_S (by omega) (by omega)]
  · obtain ⟨c1, c2, c3, c4⟩ := hc.resolve_left (fun q => by omega)
    have st : StA (s.2 6) (s.1 10 + 1) (1, k, 1, figZ s) := StA_dig p4 ((acc1_dig (by omega) (by omega)).mpr ⟨by omega, by omega, by omega⟩) (by omega) (by omega)
    refine ⟨_, _, rfl, Or.inl ⟨rfl, by omega, by omega, by omega, st, fun a b => ?_, cnA_S (by omega) (by omega)⟩⟩
    rw [acc1_dig b (by omega)]
    rcases hc2 with ⟨_, w⟩ | ⟨w, w2, w3, w4⟩
    · exact absurd b (w a)
    · omega
  · obtain ⟨c1, c2, c3, c4⟩ := hc.resolve_left (fun q => by omega)
    have st : StA (s.2 6) (s.1 10 + 1) (1, k, 1, figZ s) := StA_dig p4 ((acc1_dig (by omega) (by omega)).mpr ⟨by omega, by omega, by omega⟩) (by omega) (by omega)
    refine ⟨_, _, rfl, Or.inl ⟨rfl, by omega, by omega, by omega, st, fun a b => ?_, cnA_S (by omega) (by omega)⟩⟩
    rw [acc1_dig b (by omega)]
    omega
  · refine ⟨_, _, rfl, Or.inr ⟨by omega, FaA_at p3.2 p4 (fun a b => ?_) (fun q => absurd q.1 (by omega)), by omega, by omega, by omega⟩⟩
    rcases hc with ⟨_, w⟩ | ⟨w, w2, w3, w4⟩
    · exact absurd b (w a)
    · rw [acc1_dig b (by omega)]
      omega
