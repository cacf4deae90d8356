def wp_X5_moveFirstRow (s : SS)  (P : SS → Prop) : Prop :=
  (1 ≤ (s.1 18) ∧ (s.1 18) ≤ 120) ∧ ((∀ i, 0 ≤ i → i < (s.1 18) → 0 ≤ (s.2 7) i ∧ (s.2 7) i < 120) ∧ (∀ (z6 : Int), rg z6 → (0 ≤ z6 ∧ z6 < (s.1 18) ∧ ∀ i, 0 ≤ i → i < (s.1 18) → i ≠ z6 → ¬ ((s.2 0) ((s.2 7) i) < (s.2 0) ((s.2 7) z6) ∨ (s.2 0) ((s.2 7) i) = (s.2 0) ((s.2 7) z6) ∧ (s.2 7) i < (s.2 7) z6)) → ((0 ≤ z6 ∧ z6 < 120) ∧ ((((1 < (if 0 ≤ z6 ∧ z6 < 120 then (s.2 8) z6 else 0)) → ((0 ≤ ((s.2 7) z6) ∧ ((s.2 7) z6) < 120) ∧ ((rg ((s.2 8) z6 - 1)) ∧ (True)))) ∧ ((¬ (1 < (if 0 ≤ z6 ∧ z6 < 120 then (s.2 8) z6 else 0))) → ((0 ≤ z6 ∧ z6 < (s.1 18) ∧ (s.1 18) ≤ 120) ∧ (True)))) ∧ (rg ((s.1 12) + 1) ∧ ((((s.1 2) = 0) → ((((s.1 11) = 0) → (rg ((s.1 11) + 1) ∧ (rg (((s.1 12) + 1) + 1) ∧ (P (sS (sS (sS (sS (sS (sA (sA (sA s 6 (if 1 < (if 0 ≤ z6 ∧ z6 < 120 then (s.2 8) z6 else 0) then (s.2 6) else cI (s.2 6) (s.2 6) (z6 + 1) z6 ((s.1 18) - z6 - 1))) 7 (if 1 < (if 0 ≤ z6 ∧ z6 < 120 then (s.2 8) z6 else 0) then uZ (s.2 7) z6 ((s.2 2) ((s.2 7) z6)) else cI (s.2 7) (s.2 7) (z6 + 1) z6 ((s.1 18) - z6 - 1))) 8 (if 1 < (if 0 ≤ z6 ∧ z6 < 120 then (s.2 8) z6 else 0) then uZ (s.2 8) z6 ((s.2 8) z6 - 1) else cI (s.2 8) (s.2 8) (z6 + 1) z6 ((s.1 18) - z6 - 1))) 9 ((s.2 7) z6)) 10 ((s.2 7) z6)) 11 ((s.1 11) + 1)) 12 (((s.1 12) + 1) + 1)) 18 (if 1 < (if 0 ≤ z6 ∧ z6 < 120 then (s.2 8) z6 else 0) then (s.1 18) else (s.1 18) - 1)))))) ∧ ((¬ ((s.1 11) = 0)) → ((0 ≤ (s.1 10) ∧ (s.1 10) < 120) ∧ (rg ((s.1 11) + 1) ∧ (rg (((s.1 12) + 1) + 1) ∧ (P (sS (sS (sS (sS (sA (sA (sA (sA s 2 (uZ (s.2 2) (s.1 10) ((s.2 7) z6))) 6 (if 1 < (if 0 ≤ z6 ∧ z6 < 120 then (s.2 8) z6 else 0) then (s.2 6) else cI (s.2 6) (s.2 6) (z6 + 1) z6 ((s.1 18) - z6 - 1))) 7 (if 1 < (if 0 ≤ z6 ∧ z6 < 120 then (s.2 8) z6 else 0) then uZ (s.2 7) z6 ((s.2 2) ((s.2 7) z6)) else cI (s.2 7) (s.2 7) (z6 + 1) z6 ((s.1 18) - z6 - 1))) 8 (if 1 < (if 0 ≤ z6 ∧ z6 < 120 then (s.2 8) z6 else 0) then uZ (s.2 8) z6 ((s.2 8) z6 - 1) else cI (s.2 8) (s.2 8) (z6 + 1) z6 ((s.1 18) - z6 - 1))) 10 ((s.2 7) z6)) 11 ((s.1 11) + 1)) 12 (((s.1 12) + 1) + 1)) 18 (if 1 < (if 0 ≤ z6 ∧ z6 < 120 then (s.2 8) z6 else 0) then (s.1 18) else (s.1 18) - 1))))))))) ∧ ((¬ ((s.1 2) = 0)) → (((0 < (s.1 11)) → ((0 ≤ (s.1 10) ∧ (s.1 10) < 120) ∧ ((0 ≤ ((s.2 7) z6) ∧ ((s.2 7) z6) < 120) ∧ (((((s.2 0) (s.1 10)) = ((s.2 0) ((s.2 7) z6))) → ((rg ((s.2 1) (s.1 10) + (s.2 1) ((s.2 7) z6))) ∧ (P (sS (sS (sA (sA (sA (sA s 1 (uZ (uZ (s.2 1) (s.1 10) ((s.2 1) (s.1 10) + (s.2 1) ((s.2 7) z6))) ((s.2 7) z6) 0)) 6 (if 1 < (if 0 ≤ z6 ∧ z6 < 120 then (s.2 8) z6 else 0) then (s.2 6) else cI (s.2 6) (s.2 6) (z6 + 1) z6 ((s.1 18) - z6 - 1))) 7 (if 1 < (if 0 ≤ z6 ∧ z6 < 120 then (s.2 8) z6 else 0) then uZ (s.2 7) z6 ((s.2 2) ((s.2 7) z6)) else cI (s.2 7) (s.2 7) (z6 + 1) z6 ((s.1 18) - z6 - 1))) 8 (if 1 < (if 0 ≤ z6 ∧ z6 < 120 then (s.2 8) z6 else 0) then uZ (s.2 8) z6 ((s.2 8) z6 - 1) else cI (s.2 8) (s.2 8) (z6 + 1) z6 ((s.1 18) - z6 - 1))) 12 ((s.1 12) + 1)) 18 (if 1 < (if 0 ≤ z6 ∧ z6 < 120 then (s.2 8) z6 else 0) then (s.1 18) else (s.1 18) - 1))))) ∧ ((¬ (((s.2 0) (s.1 10)) = ((s.2 0) ((s.2 7) z6)))) → ((((s.1 11) = 0) → (rg ((s.1 11) + 1) ∧ (rg (((s.1 12) + 1) + 1) ∧ (P (sS (sS (sS (sS (sS (sA (sA (sA s 6 (if 1 < (if 0 ≤ z6 ∧ z6 < 120 then (s.2 8) z6 else 0) then (s.2 6) else cI (s.2 6) (s.2 6) (z6 + 1) z6 ((s.1 18) - z6 - 1))) 7 (if 1 < (if 0 ≤ z6 ∧ z6 < 120 then (s.2 8) z6 else 0) then uZ (s.2 7) z6 ((s.2 2) ((s.2 7) z6)) else cI (s.2 7) (s.2 7) (z6 + 1) z6 ((s.1 18) - z6 - 1))) 8 (if 1 < (if 0 ≤ z6 ∧ z6 < 120 then (s.2 8) z6 else 0) then uZ (s.2 8) z6 ((s.2 8) z6 - 1) else cI (s.2 8) (s.2 8) (z6 + 1) z6 ((s.1 18) - z6 - 1))) 9 ((s.2 7) z6)) 10 ((s.2 7) z6)) 11 ((s.1 11) + 1)) 12 (((s.1 12) + 1) + 1)) 18 (if 1 < (if 0 ≤ z6 ∧ z6 < 120 then (s.2 8) z6 else 0) then (s.1 18) else (s.1 18) - 1)))))) ∧ ((¬ ((s.1 11) = 0)) → (rg ((s.1 11) + 1) ∧ (rg (((s.1 12) + 1) + 1) ∧ (P (sS (sS (sS (sS (sA (sA (sA (sA s 2 (uZ (s.2 2) (s.1 10) ((s.2 7) z6))) 6 (if 1 < (if 0 ≤ z6 ∧ z6 < 120 then (s.2 8) z6 else 0) then (s.2 6) else cI (s.2 6) (s.2 6) (z6 + 1) z6 ((s.1 18) - z6 - 1))) 7 (if 1 < (if 0 ≤ z6 ∧ z6 < 120 then (s.2 8) z6 else 0) then uZ (s.2 7) z6 ((s.2 2) ((s.2 7) z6)) else cI (s.2 7) (s.2 7) (z6 + 1) z6 ((s.1 18) - z6 - 1))) 8 (if 1 < (if 0 ≤ z6 ∧ z6 < 120 then (s.2 8) z6 else 0) then uZ (s.2 8) z6 ((s.2 8) z6 - 1) else cI (s.2 8) (s.2 8) (z6 + 1) z6 ((s.1 18) - z6 - 1))) 10 ((s.2 7) z6)) 11 ((s.1 11) + 1)) 12 (((s.1 12) + 1) + 1)) 18 (if 1 < (if 0 ≤ z6 ∧ z6 < 120 then (s.2 8) z6 else 0) then (s.1 18) else (s.1 18) - 1)))))))))))) ∧ ((¬ (0 < (s.1 11))) → ((((s.1 11) = 0) → (rg ((s.1 11) + 1) ∧ (rg (((s.1 12) + 1) + 1) ∧ (P (sS (sS (sS (sS (sS (sA (sA (sA s 6 (if 1 < (if 0 ≤ z6 ∧ z6 < 120 then (s.2 8) z6 else 0) then (s.2 6) else cI (s.2 6) (s.2 6) (z6 + 1) z6 ((s.1 18) - z6 - 1))) 7 (if 1 < (if 0 ≤ z6 ∧ z6 < 120 then (s.2 8) z6 else 0) then uZ (s.2 7) z6 ((s.2 2) ((s.2 7) z6)) else cI (s.2 7) (s.2 7) (z6 + 1) z6 ((s.1 18) - z6 - 1))) 8 (if 1 < (if 0 ≤ z6 ∧ z6 < 120 then (s.2 8) z6 else 0) then uZ (s.2 8) z6 ((s.2 8) z6 - 1) else cI (s.2 8) (s.2 8) (z6 + 1) z6 ((s.1 18) - z6 - 1))) 9 ((s.2 7) z6)) 10 ((s.2 7) z6)) 11 ((s.1 11) + 1)) 12 (((s.1 12) + 1) + 1)) 18 (if 1 < (if 0 ≤ z6 ∧ z6 < 120 then (s.2 8) z6 else 0) then (s.1 18) else (s.1 18) - 1)))))) ∧ ((¬ ((s.1 11) = 0)) → ((0 ≤ (s.1 10) ∧ (s.1 10) < 120) ∧ (rg ((s.1 11) + 1) ∧ (rg (((s.1 12) + 1) + 1) ∧ (P (sS (sS (sS (sS (sA (sA (sA (sA s 2 (uZ (s.2 2) (s.1 10) ((s.2 7) z6))) 6 (if 1 < (if 0 ≤ z6 ∧ z6 < 120 then (s.2 8) z6 else 0) then (s.2 6) else cI (s.2 6) (s.2 6) (z6 + 1) z6 ((s.1 18) - z6 - 1))) 7 (if 1 < (if 0 ≤ z6 ∧ z6 < 120 then (s.2 8) z6 else 0) then uZ (s.2 7) z6 ((s.2 2) ((s.2 7) z6)) else cI (s.2 7) (s.2 7) (z6 + 1) z6 ((s.1 18) - z6 - 1))) 8 (if 1 < (if 0 ≤ z6 ∧ z6 < 120 then (s.2 8) z6 else 0) then uZ (s.2 8) z6 ((s.2 8) z6 - 1) else cI (s.2 8) (s.2 8) (z6 + 1) z6 ((s.1 18) - z6 - 1))) 10 ((s.2 7) z6)) 11 ((s.1 11) + 1)) 12 (((s.1 12) + 1) + 1)) 18 (if 1 < (if 0 ≤ z6 ∧ z6 < 120 then (s.2 8) z6 else 0) then (s.1 18) else (s.1 18) - 1)))))))))))))))))
set_option maxHeartbeats 1000000 in
theorem sp_X5_moveFirstRow (s : SS)  (z : Int → Int) (r_s : RG s)  (p0 : Rep s z) (p1 : Vz z) (p2 : 0 < riZ z) (p3 : rg (z 7 + 2)) : wp_X5_moveFirstRow s (fun s' => Rep s' (stp0 z)) := by
  unfold wp_X5_moveFirstRow
  have hb := p1.1
  have ⟨b1, b2, b3, b4, b5⟩ := hb
  have hcnt := Vz.cnt p1
  obtain ⟨_, ⟨v0, v1, v2, v5, v6, v7, _⟩, _, _, vm, _, _, vr, vD, vX⟩ := p1
  have hin := p0.2.2.2.2.1
  have t2 := p0.1.2
  have e2 : s.1 2 = z 1 := p0.2.1.1
  have e12 : s.1 12 = z 7 := p0.2.1.2.2.2.2.1
  have ho := p0.2.2.2.2.2
  have o0 := ho.1
  have o120 : s.1 11 ≤ 120 := by have := Rep_n11 hb p0; have := rowsAt_le (z := z) (p := 2) b1; omega
  have h18 : 1 ≤ s.1 18 := by
    obtain ⟨r, r1, r2, r3⟩ := riZ_pos.mp p2
    obtain ⟨i, i1, i2, _⟩ := hin.2.2.2 r r1 r2 (by omega) r3.2
    omega
  have hfi : ∀ i, 0 ≤ i → i < s.1 18 → 0 ≤ s.2 7 i ∧ s.2 7 i < 120 := fun i g1 g2 => by
    obtain ⟨a1, a2, a3, a4⟩ := hin.2.1 i g1 g2
    obtain ⟨q1, q2, q3⟩ := a4.1 0 (by omega)
    have f0 : chn (s.2 2) (s.2 7 i) 0 = s.2 7 i := rfl
    rw [f0] at q1 q2
    omega
  have lv := loV_is hb p0
  refine ⟨⟨h18, hin.1.2⟩, hfi, ?_⟩
  intro y ry ⟨y0, y1, ym⟩
  obtain ⟨ef, ⟨x1, x2⟩, x3⟩ := frV_is hb p0 ⟨y0, y1⟩ ym
  have hif : (if 0 ≤ y ∧ y < 120 then s.2 8 y else 0) = s.2 8 y := if_pos (by have := hin.1.2; omega)
  rw [hif]
  have i1 := (hin.2.1 y y0 y1).1
  have bv : ∀ r, 0 ≤ r → r < z 3 → z (250 + r) = 2 → bef z r (s.2 7 y) := fun r g1 g2 g3 => vX r _ g1 g2 x1 x2 g3 (by omega)
  have stpN : ¬ (z 1 = 1 ∧ loV z ≠ -6 ∧ z (10 + loV z) = z (10 + frV z)) → stp0 z = uZ (uZ z 7 (z 7 + 2)) (250 + s.2 7 y) 2 := fun n => by unfold stp0; rw [if_neg n, ef]
  have kx : (uZ (uZ z 7 (z 7 + 2)) (250 + s.2 7 y) 2) (250 + s.2 7 y) = 2 := uZ_at
  have ko : ∀ j, j ≠ 7 → j ≠ 250 + s.2 7 y → (uZ (uZ z 7 (z 7 + 2)) (250 + s.2 7 y) 2) j = z j := fun j g1 g2 => by rw [uZ_ne g2, uZ_ne g1]
  have k7 : (uZ (uZ z 7 (z 7 + 2)) (250 + s.2 7 y) 2) 7 = z 7 + 2 := by rw [uZ_ne (by omega), uZ_at]
  have kpl : ∀ r, 0 ≤ r → ((r < (uZ (uZ z 7 (z 7 + 2)) (250 + s.2 7 y) 2) 3 ∧ (uZ (uZ z 7 (z 7 + 2)) (250 + s.2 7 y) 2) (250 + r) = 2) ↔ (r < z 3 ∧ (z (250 + r) = 2 ∨ r = s.2 7 y))) := fun r g => by
    rw [ko 3 (by omega) (by omega)]
    by_cases w : r = s.2 7 y
    · rw [w, kx]; omega
    · rw [ko (250 + r) (by omega) (by omega)]; omega
  have E1 : s.1 11 = 0 → ∀ t : SS, (t.2 0 = s.2 0 ∧ t.2 3 = s.2 3 ∧ t.2 4 = s.2 4 ∧ t.2 5 = s.2 5 ∧ t.2 9 = s.2 9) → (t.1 16 = s.1 16 ∧ t.1 2 = s.1 2 ∧ t.1 3 = s.1 3 ∧ t.1 4 = s.1 4 ∧ t.1 6 = s.1 6 ∧ t.1 8 = s.1 8 ∧ t.1 13 = s.1 13 ∧ t.1 14 = s.1 14 ∧ t.1 15 = s.1 15 ∧ t.1 17 = s.1 17) → t.2 1 = s.2 1 → t.1 12 = s.1 12 + 1 + 1 → t.2 2 = s.2 2 → (t.2 6 = (if 1 < s.2 8 y then s.2 6 else cI (s.2 6) (s.2 6) (y + 1) y (s.1 18 - y - 1)) ∧ t.2 7 = (if 1 < s.2 8 y then uZ (s.2 7) y (s.2 2 (s.2 7 y)) else cI (s.2 7) (s.2 7) (y + 1) y (s.1 18 - y - 1)) ∧ t.2 8 = (if 1 < s.2 8 y then uZ (s.2 8) y (s.2 8 y - 1) else cI (s.2 8) (s.2 8) (y + 1) y (s.1 18 - y - 1)) ∧ t.1 18 = if 1 < s.2 8 y then s.1 18 else s.1 18 - 1) → t.1 9 = s.2 7 y → t.1 10 = s.2 7 y → t.1 11 = s.1 11 + 1 → Rep t (stp0 z) := fun c t ha hz hc h12 hn hl h9 h10 h11 => by
    rw [stpN (fun q => q.2.1 (lv.1 c))]
    refine Rep_mv hb p0 ⟨y0, y1⟩ rfl ⟨x1, x2⟩ x3 (by omega) (fun j g1 g2 => ko j g2 (by omega)) (fun r g1 g2 => ko _ (by omega) (by omega)) ha hz (fun r g1 g2 => by rw [hc, ko _ (by omega) (by omega)]; exact (t2 r g1 g2).2) (by omega) (fun r _ _ _ => by rw [hn]) hl ?_
    rw [hn, h9, h10, h11, c]
    rw [c] at ho
    exact ROu_one ho ⟨x1, x2⟩ kpl
  have E2 : 0 < s.1 11 ∧ ¬ (z 1 = 1 ∧ z (10 + s.1 10) = z (10 + s.2 7 y)) → ∀ t : SS, (t.2 0 = s.2 0 ∧ t.2 3 = s.2 3 ∧ t.2 4 = s.2 4 ∧ t.2 5 = s.2 5 ∧ t.2 9 = s.2 9) → (t.1 16 = s.1 16 ∧ t.1 2 = s.1 2 ∧ t.1 3 = s.1 3 ∧ t.1 4 = s.1 4 ∧ t.1 6 = s.1 6 ∧ t.1 8 = s.1 8 ∧ t.1 13 = s.1 13 ∧ t.1 14 = s.1 14 ∧ t.1 15 = s.1 15 ∧ t.1 17 = s.1 17) → t.2 1 = s.2 1 → t.1 12 = s.1 12 + 1 + 1 → t.2 2 = uZ (s.2 2) (s.1 10) (s.2 7 y) → (t.2 6 = (if 1 < s.2 8 y then s.2 6 else cI (s.2 6) (s.2 6) (y + 1) y (s.1 18 - y - 1)) ∧ t.2 7 = (if 1 < s.2 8 y then uZ (s.2 7) y (s.2 2 (s.2 7 y)) else cI (s.2 7) (s.2 7) (y + 1) y (s.1 18 - y - 1)) ∧ t.2 8 = (if 1 < s.2 8 y then uZ (s.2 8) y (s.2 8 y - 1) else cI (s.2 8) (s.2 8) (y + 1) y (s.1 18 - y - 1)) ∧ t.1 18 = if 1 < s.2 8 y then s.1 18 else s.1 18 - 1) → t.1 9 = s.1 9 → t.1 10 = s.2 7 y → t.1 11 = s.1 11 + 1 → Rep t (stp0 z) := fun c t ha hz hc h12 hn hl h9 h10 h11 => by
    obtain ⟨l1, l2, l3⟩ := lv.2 c.1
    rw [stpN (fun q => c.2 ⟨q.1, by rw [← ef, ← l1]; exact q.2.2⟩)]
    refine Rep_mv hb p0 ⟨y0, y1⟩ rfl ⟨x1, x2⟩ x3 (by omega) (fun j g1 g2 => ko j g2 (by omega)) (fun r g1 g2 => ko _ (by omega) (by omega)) ha hz (fun r g1 g2 => by rw [hc, ko _ (by omega) (by omega)]; exact (t2 r g1 g2).2) (by omega) (fun r _ _ g => by rw [hn, uZ_ne (fun w => by rw [w] at g; omega)]) hl ?_
    rw [hn, h9, h10, h11]
    exact ROu_add ho c.1 ⟨x1, x2, by omega⟩ bv kpl (fun r g1 g2 => ko _ (by omega) (by omega))
  have E3 : 0 < s.1 11 ∧ z 1 = 1 ∧ z (10 + s.1 10) = z (10 + s.2 7 y) → ∀ t : SS, (t.2 0 = s.2 0 ∧ t.2 3 = s.2 3 ∧ t.2 4 = s.2 4 ∧ t.2 5 = s.2 5 ∧ t.2 9 = s.2 9) → (t.1 16 = s.1 16 ∧ t.1 2 = s.1 2 ∧ t.1 3 = s.1 3 ∧ t.1 4 = s.1 4 ∧ t.1 6 = s.1 6 ∧ t.1 8 = s.1 8 ∧ t.1 13 = s.1 13 ∧ t.1 14 = s.1 14 ∧ t.1 15 = s.1 15 ∧ t.1 17 = s.1 17) → t.2 1 = uZ (uZ (s.2 1) (s.1 10) (s.2 1 (s.1 10) + s.2 1 (s.2 7 y))) (s.2 7 y) 0 → t.1 12 = s.1 12 + 1 → t.2 2 = s.2 2 → (t.2 6 = (if 1 < s.2 8 y then s.2 6 else cI (s.2 6) (s.2 6) (y + 1) y (s.1 18 - y - 1)) ∧ t.2 7 = (if 1 < s.2 8 y then uZ (s.2 7) y (s.2 2 (s.2 7 y)) else cI (s.2 7) (s.2 7) (y + 1) y (s.1 18 - y - 1)) ∧ t.2 8 = (if 1 < s.2 8 y then uZ (s.2 8) y (s.2 8 y - 1) else cI (s.2 8) (s.2 8) (y + 1) y (s.1 18 - y - 1)) ∧ t.1 18 = if 1 < s.2 8 y then s.1 18 else s.1 18 - 1) → t.1 9 = s.1 9 → t.1 10 = s.1 10 → t.1 11 = s.1 11 → Rep t (stp0 z) := fun c t ha hz hc h12 hn hl h9 h10 h11 => by
    obtain ⟨l1, l2, l3⟩ := lv.2 c.1
    have hs : stp0 z = uZ (uZ (uZ (uZ z 7 (z 7 + 1)) (130 + s.1 10) (z (130 + s.1 10) + z (130 + s.2 7 y))) (130 + s.2 7 y) 0) (250 + s.2 7 y) 0 := by
      unfold stp0
      rw [if_pos ⟨c.2.1, by omega, by rw [l1, ef]; exact c.2.2⟩, l1, ef]
    rw [hs]
    have qo : ∀ j, j ≠ 7 → j ≠ 130 + s.1 10 → j ≠ 130 + s.2 7 y → j ≠ 250 + s.2 7 y → (uZ (uZ (uZ (uZ z 7 (z 7 + 1)) (130 + s.1 10) (z (130 + s.1 10) + z (130 + s.2 7 y))) (130 + s.2 7 y) 0) (250 + s.2 7 y) 0) j = z j := fun j g1 g2 g3 g4 => by rw [uZ_ne g4, uZ_ne g3, uZ_ne g2, uZ_ne g1]
    have qx : (uZ (uZ (uZ (uZ z 7 (z 7 + 1)) (130 + s.1 10) (z (130 + s.1 10) + z (130 + s.2 7 y))) (130 + s.2 7 y) 0) (250 + s.2 7 y) 0) (250 + s.2 7 y) = 0 := uZ_at
    refine Rep_mv hb p0 ⟨y0, y1⟩ rfl ⟨x1, x2⟩ x3 (by omega) (fun j g1 g2 => qo j g2 (by omega) (by omega) (by omega)) (fun r g1 g2 => qo _ (by omega) (by omega) (by omega) (by omega)) ha hz (fun r g1 g2 => ?_) (by rw [uZ_ne (by omega), uZ_ne (by omega), uZ_ne (by omega), uZ_at]; omega) (fun r _ _ _ => by rw [hn]) hl ?_
    · rw [hc, uZ_ne (i := 250 + s.2 7 y) (by omega)]
      by_cases w : r = s.2 7 y
      · rw [w, uZ_at, uZ_at]
      · rw [uZ_ne w, uZ_ne (i := 130 + s.2 7 y) (by omega)]
        by_cases w2 : r = s.1 10
        · rw [w2, uZ_at, uZ_at, (t2 _ l2.1 l2.2).2, (t2 _ x1 x2).2]
        · rw [uZ_ne w2, uZ_ne (i := 130 + s.1 10) (by omega), uZ_ne (i := 7) (by omega)]
          exact (t2 r g1 g2).2
    · rw [hn, h9, h10, h11]
      refine ⟨ho.1, ChL_ext ho.2.1 (fun _ _ => rfl) (fun r g => ?_) (fun r g1 g2 _ => qo _ (by omega) (by omega) (by omega) (by omega)), ho.2.2⟩
      rw [qo 3 (by omega) (by omega) (by omega) (by omega)]
      by_cases w : r = s.2 7 y
      · rw [w, qx]; omega
      · rw [qo (250 + r) (by omega) (by omega) (by omega) (by omega)]
  have hy := hfi y y0 y1
  have h120 := hin.1.2
  have i3 := (hin.2.1 y y0 y1).2.2.1
  have r8 : rg (s.2 8 y) := r_s.2 8 y
  clear hif ym bv kpl ko stpN
  refine ⟨by omega, ⟨fun _ => ⟨hy, by unfold rg at *; omega, trivial⟩, fun _ => ⟨⟨y0, y1, h120⟩, trivial⟩⟩, by unfold rg at *; omega, fun c => ⟨fun d => ⟨by unfold rg; omega, by unfold rg at *; omega, ?_⟩, fun d => ?_⟩, fun c => ⟨fun d => ?_, fun d => ?_⟩⟩
  · exact E1 d _ ⟨rfl, rfl, rfl, rfl, rfl⟩ ⟨rfl, rfl, rfl, rfl, rfl, rfl, rfl, rfl, rfl, rfl⟩ rfl rfl rfl ⟨rfl, rfl, rfl, rfl⟩ rfl rfl rfl
  · obtain ⟨l1, l2, l3⟩ := lv.2 (by omega)
    refine ⟨by omega, by unfold rg; omega, by unfold rg at *; omega, ?_⟩
    exact E2 ⟨by omega, by omega⟩ _ ⟨rfl, rfl, rfl, rfl, rfl⟩ ⟨rfl, rfl, rfl, rfl, rfl, rfl, rfl, rfl, rfl, rfl⟩ rfl rfl rfl ⟨rfl, rfl, rfl, rfl⟩ rfl rfl rfl
  · obtain ⟨l1, l2, l3⟩ := lv.2 d
    have n1 := hcnt _ l2.1 l2.2
    have n2 := hcnt _ x1 x2
    rw [← (t2 _ l2.1 l2.2).2] at n1
    rw [← (t2 _ x1 x2).2] at n2
    have kk : s.2 0 (s.1 10) = s.2 0 (s.2 7 y) ↔ z (10 + s.1 10) = z (10 + s.2 7 y) := by rw [(t2 _ l2.1 l2.2).1, (t2 _ x1 x2).1]
    refine ⟨by omega, hy, fun q => ⟨by unfold rg; omega, ?_⟩, fun q => ⟨fun d2 => by omega, fun d2 => ?_⟩⟩
    · exact E3 ⟨d, by omega, kk.mp q⟩ _ ⟨rfl, rfl, rfl, rfl, rfl⟩ ⟨rfl, rfl, rfl, rfl, rfl, rfl, rfl, rfl, rfl, rfl⟩ rfl rfl rfl ⟨rfl, rfl, rfl, rfl⟩ rfl rfl rfl
    · first
      | refine ⟨by unfold rg; omega, by unfold rg at *; omega, ?_⟩
        exact E2 ⟨d, fun w => q (kk.mpr w.2)⟩ _ ⟨rfl, rfl, rfl, rfl, rfl⟩ ⟨rfl, rfl, rfl, rfl, rfl, rfl, rfl, rfl, rfl, rfl⟩ rfl rfl rfl ⟨rfl, rfl, rfl, rfl⟩ rfl rfl rfl
      | refine ⟨by omega, by unfold rg; omega, by unfold rg at *; omega, ?_⟩
        exact E2 ⟨d, fun w => q (kk.mpr w.2)⟩ _ ⟨rfl, rfl, rfl, rfl, rfl⟩ ⟨rfl, rfl, rfl, rfl, rfl, rfl, rfl, rfl, rfl, rfl⟩ rfl rfl rfl ⟨rfl, rfl, rfl, rfl⟩ rfl rfl rfl
  · refine ⟨fun d2 => ⟨by unfold rg; omega, by unfold rg at *; omega, ?_⟩, fun d2 => by omega⟩
    exact E1 d2 _ ⟨rfl, rfl, rfl, rfl, rfl⟩ ⟨rfl, rfl, rfl, rfl, rfl, rfl, rfl, rfl, rfl, rfl⟩ rfl rfl rfl ⟨rfl, rfl, rfl, rfl⟩ rfl rfl rfl
