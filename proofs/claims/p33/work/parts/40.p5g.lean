def wp_X5_collect (s : SS) (key : Int) (P : Int → SS → Prop) : Prop :=
  (((s.1 2) = 0) → ((0 ≤ (s.1 16) ∧ (s.1 16) < 120) ∧ (((0 ≤ (-1 : Int) ∧ (-1 : Int) < ((s.1 16) + 1)) → ((0 ≤ (-1 : Int) ∧ (-1 : Int) < 120) ∧ ((rg ((uZ (s.2 1) (s.1 16) 1) (-1 : Int) + (uZ (s.2 1) (s.1 16) 1) (s.1 16))) ∧ (P (s.1 16) (sS (sA (sA (sA s 0 (uZ (s.2 0) (s.1 16) key)) 1 (uZ (uZ (uZ (s.2 1) (s.1 16) 1) (-1 : Int) ((uZ (s.2 1) (s.1 16) 1) (-1 : Int) + (uZ (s.2 1) (s.1 16) 1) (s.1 16))) (s.1 16) 0)) 2 (uZ (s.2 2) (s.1 16) (-1))) 16 ((s.1 16) + 1)))))) ∧ ((¬ (0 ≤ (-1 : Int) ∧ (-1 : Int) < ((s.1 16) + 1))) → ((((s.1 6) < (s.1 4)) → ((0 ≤ (s.1 6) ∧ (s.1 6) < 20) ∧ (rg ((s.1 6) + 1) ∧ (P (s.1 16) (sS (sS (sA (sA (sA (sA s 0 (uZ (s.2 0) (s.1 16) key)) 1 (uZ (s.2 1) (s.1 16) 1)) 2 (uZ (s.2 2) (s.1 16) (-1))) 9 (uZ (s.2 9) (s.1 6) (s.1 16))) 6 ((s.1 6) + 1)) 16 ((s.1 16) + 1)))))) ∧ ((¬ ((s.1 6) < (s.1 4))) → (∃ (g33 : Int → Int), (Rep (sS (sA (sA (sA s 0 (uZ (s.2 0) (s.1 16) key)) 1 (uZ (s.2 1) (s.1 16) 1)) 2 (uZ (s.2 2) (s.1 16) (-1))) 16 ((s.1 16) + 1)) g33) ∧ ((Vb g33 ∧ g33 4 + 1 ≤ 900000000) ∧ ((rg (g33 7 + rowsAt g33 1)) ∧ (∀ (z43 : Int) (u_s41 : SS), rg z43 → RG u_s41 → (z43 = (if rowsAt g33 1 = 0 then -6 else g33 4) ∧ Rep u_s41 (wriZ g33)) → ((0 ≤ (u_s41.1 6) ∧ (u_s41.1 6) < 20) ∧ (rg ((u_s41.1 6) + 1) ∧ (P (s.1 16) (sS (sA u_s41 9 (uZ (u_s41.2 9) (u_s41.1 6) (s.1 16))) 6 ((u_s41.1 6) + 1))))))))))))))) ∧ ((¬ ((s.1 2) = 0)) → ((0 ≤ (s.1 6) ∧ (s.1 6) ≤ 20) ∧ ((∀ i, 0 ≤ i → i < (s.1 6) → 0 ≤ (s.2 9) i ∧ (s.2 9) i < 120) ∧ (∀ (z68 : Int), rg z68 → ((z68 = -1 ∧ ∀ i, 0 ≤ i → i < (s.1 6) → (s.2 0) ((s.2 9) i) ≠ key) ∨ ∃ i, 0 ≤ i ∧ i < (s.1 6) ∧ z68 = (s.2 9) i ∧ (s.2 0) z68 = key) → ((0 ≤ (s.1 16) ∧ (s.1 16) < 120) ∧ (((0 ≤ z68 ∧ z68 < ((s.1 16) + 1)) → ((0 ≤ z68 ∧ z68 < 120) ∧ ((rg ((uZ (s.2 1) (s.1 16) 1) z68 + (uZ (s.2 1) (s.1 16) 1) (s.1 16))) ∧ (P (s.1 16) (sS (sA (sA (sA s 0 (uZ (s.2 0) (s.1 16) key)) 1 (uZ (uZ (uZ (s.2 1) (s.1 16) 1) z68 ((uZ (s.2 1) (s.1 16) 1) z68 + (uZ (s.2 1) (s.1 16) 1) (s.1 16))) (s.1 16) 0)) 2 (uZ (s.2 2) (s.1 16) (-1))) 16 ((s.1 16) + 1)))))) ∧ ((¬ (0 ≤ z68 ∧ z68 < ((s.1 16) + 1))) → ((((s.1 6) < (s.1 4)) → ((0 ≤ (s.1 6) ∧ (s.1 6) < 20) ∧ (rg ((s.1 6) + 1) ∧ (P (s.1 16) (sS (sS (sA (sA (sA (sA s 0 (uZ (s.2 0) (s.1 16) key)) 1 (uZ (s.2 1) (s.1 16) 1)) 2 (uZ (s.2 2) (s.1 16) (-1))) 9 (uZ (s.2 9) (s.1 6) (s.1 16))) 6 ((s.1 6) + 1)) 16 ((s.1 16) + 1)))))) ∧ ((¬ ((s.1 6) < (s.1 4))) → (∃ (g100 : Int → Int), (Rep (sS (sA (sA (sA s 0 (uZ (s.2 0) (s.1 16) key)) 1 (uZ (s.2 1) (s.1 16) 1)) 2 (uZ (s.2 2) (s.1 16) (-1))) 16 ((s.1 16) + 1)) g100) ∧ ((Vb g100 ∧ g100 4 + 1 ≤ 900000000) ∧ ((rg (g100 7 + rowsAt g100 1)) ∧ (∀ (z110 : Int) (u_s108 : SS), rg z110 → RG u_s108 → (z110 = (if rowsAt g100 1 = 0 then -6 else g100 4) ∧ Rep u_s108 (wriZ g100)) → ((0 ≤ (u_s108.1 6) ∧ (u_s108.1 6) < 20) ∧ (rg ((u_s108.1 6) + 1) ∧ (P (s.1 16) (sS (sA u_s108 9 (uZ (u_s108.2 9) (u_s108.1 6) (s.1 16))) 6 ((u_s108.1 6) + 1))))))))))))))))))
set_option maxHeartbeats 1000000 in
theorem sp_X5_collect (s : SS) (key : Int) (z : Int → Int) (r_s : RG s) (r_key : rg key) (p0 : Rep s z) (p1 : Vz z) (p2 : z 4 + 1 ≤ 900000000) (p3 : rg (z 7 + rowsAt z 1)) (p4 : z 3 < 120) (p5 : z 2 = 1) : wp_X5_collect s key (fun r s' => r = z 3 ∧ Rep s' (addZ z key)) := by
  unfold wp_X5_collect
  have hb := p1.1
  have ⟨b1, b2, b3, b4, b5⟩ := hb
  have hcnt := Vz.cnt p1
  obtain ⟨_, ⟨v0, v1, v2, v5, _⟩, _, _, vm, _, _, vr, vD, _⟩ := p1
  have e6 := Rep_n6 hb p0
  have t1 : s.1 16 = z 3 := p0.1.1
  have t2 := p0.1.2
  have c2 : s.1 2 = z 1 := p0.2.1.1
  have c0 : s.1 4 = z 0 := p0.2.1.2.2.1
  have hm := p0.2.2.1
  have h60 := hm.1.1
  have hrw := vm p5
  have hN : Rep (sS (sA (sA (sA s 0 (uZ (s.2 0) (s.1 16) key)) 1 (uZ (s.2 1) (s.1 16) 1)) 2 (uZ (s.2 2) (s.1 16) (-1))) 16 (s.1 16 + 1)) (newZ z key 1) := Rep_new hb p0 p4 ⟨by rw [t1, uZ_at], fun r g1 g2 => uZ_ne (by omega)⟩ (fun r g1 g2 => uZ_ne (by omega))
  have plc : samV z key = -6 → s.1 6 < s.1 4 → Rep (sS (sS (sA (sA (sA (sA s 0 (uZ (s.2 0) (s.1 16) key)) 1 (uZ (s.2 1) (s.1 16) 1)) 2 (uZ (s.2 2) (s.1 16) (-1))) 9 (uZ (s.2 9) (s.1 6) (s.1 16))) 6 (s.1 6 + 1)) 16 (s.1 16 + 1)) (addZ z key) := fun hsam d => by
    have q := Rep_mem (newZ_Vb hb p4) hN (show s.1 6 < 20 by omega) (x := s.1 16) ⟨by omega, by rw [newZ_3 b1]; omega⟩ (by rw [t1]; exact newZ_p)
    rw [addZ_2 hsam (by omega), ← newZ_in, ← t1, sS_comm (by omega)]
    exact q
  have wr : samV z key = -6 → ¬ s.1 6 < s.1 4 → ∀ u : SS, Rep u (wriZ (newZ z key 1)) → (0 ≤ u.1 6 ∧ u.1 6 < 20) ∧ rg (u.1 6 + 1) ∧ s.1 16 = z 3 ∧ Rep (sS (sA u 9 (uZ (u.2 9) (u.1 6) (s.1 16))) 6 (u.1 6 + 1)) (addZ z key) := fun hsam d u hu => by
    have hv : Vb (wriZ (newZ z key 1)) := wriZ_Vb (newZ_Vb hb p4) (by rw [newZ_lo (i := 4) (by omega) (by omega) (by omega) (by omega)]; omega)
    have w3 : wriZ (newZ z key 1) 3 = z 3 + 1 := by rw [wriZ_lo (by omega) (by omega) (by omega), newZ_3 b1]
    have u6 : u.1 6 = 0 := by
      obtain ⟨m0, ma, _⟩ := hu.2.2.1
      by_cases w : u.1 6 = 0
      · exact w
      · obtain ⟨a1, a2, a3⟩ := ma 0 (by omega) (by omega)
        rw [w3] at a2
        rw [wriZ_pl (by rw [newZ_3 b1]; omega) a1 (by rw [newZ_3 b1]; exact a2)] at a3
        have e4 : newZ z key 1 4 = z 4 := newZ_lo (by omega) (by omega) (by omega) (by omega)
        rw [e4] at a3
        split at a3 <;> omega
    have q := Rep_mem hv hu (by omega) (x := s.1 16) ⟨by omega, by rw [w3]; omega⟩ (by
      rw [t1, wriZ_pl (by rw [newZ_3 b1]; omega) b1 (by rw [newZ_3 b1]; omega), newZ_p, if_neg (by omega)])
    refine ⟨by omega, by unfold rg; omega, t1, ?_⟩
    rw [addZ_1 hsam (by omega), ← wriZ_new hb p4, ← t1]
    exact q
  refine ⟨fun c => ⟨by omega, fun d => by omega, fun _ => ?_⟩, fun c => ⟨hm.1, fun i g1 g2 => by obtain ⟨q1, q2, q3⟩ := hm.2.1 i g1 g2; omega, ?_⟩⟩
  · have hsam : samV z key = -6 := by unfold samV; rw [if_neg (by omega)]
    refine ⟨fun d => ⟨by omega, by unfold rg; omega, t1, ?_⟩, fun d => ⟨newZ z key 1, hN, ⟨newZ_Vb hb p4, by rw [newZ_lo (i := 4) (by omega) (by omega) (by omega) (by omega)]; omega⟩, by rw [newZ_lo (i := 7) (by omega) (by omega) (by omega) (by omega), newZ_rows hb p4 (by omega)]; exact p3, fun r u rr ru ⟨h1, h2⟩ => ?_⟩⟩
    · exact plc hsam d
    · exact wr hsam d u h2
  have hz1 : z 1 = 1 := by omega
  intro y ry hy
  refine ⟨by omega, fun d => ?_, fun d => ?_⟩
  · obtain ⟨i, i1, i2, i3, i4⟩ := hy.resolve_left (fun w => by omega)
    obtain ⟨m1, m2, m3⟩ := hm.2.1 i i1 i2
    rw [← i3] at m1 m2 m3
    have kz : z (10 + y) = key := by rw [← (t2 y m1 m2).1]; exact i4
    have hsam : samV z key = y := by
      rcases samV_spec (z := z) (k := key) b1 with w | ⟨_, w1, w2, w3, w4⟩
      · exfalso
        unfold samV at w
        rw [if_pos hz1] at w
        rcases samZ_spec (z := z) (k := key) (z 3).toNat with ⟨_, x2⟩ | ⟨x1, _⟩
        · refine x2 y.toNat (by omega) ?_
          rw [show ((y.toNat : Nat) : Int) = y by omega]
          exact ⟨m3, kz⟩
        · omega
      · exact vD hz1 _ _ w1 w2 m1 m2 w3 m3 (by rw [w4, kz])
    have cy : s.2 1 y = z (130 + y) := (t2 y m1 m2).2
    have hc := hcnt y m1 m2
    have eA : uZ (s.2 1) (s.1 16) 1 y = z (130 + y) := by rw [uZ_ne (by omega), cy]
    rw [eA, uZ_at]
    refine ⟨by omega, by unfold rg; omega, t1, ?_⟩
    have q := Rep_new (key := key) (c := 0) (cs := uZ (s.2 1) (s.1 16) 0) (ne := uZ (s.2 2) (s.1 16) (-1)) hb p0 p4 ⟨by rw [t1, uZ_at], fun r g1 g2 => uZ_ne (by omega)⟩ (fun r g1 g2 => uZ_ne (by omega))
    have q2 := Rep_cnt (cs := uZ (uZ (uZ (s.2 1) (s.1 16) 1) y (z (130 + y) + 1)) (s.1 16) 0) (z' := addZ z key) (newZ_Vb hb p4) q (fun i hi => by
      rw [addZ_3 (by omega), hsam, uZ_ne (by omega)]; rfl) (fun r g1 g2 => by
      rw [newZ_3 b1] at g2
      rw [addZ_3 (by omega), hsam]
      by_cases w : r = z 3
      · rw [w, t1, uZ_at, uZ_ne (by omega), uZ_ne (by omega), uZ_at]
      · by_cases w2 : r = y
        · rw [w2, uZ_ne (by omega), uZ_at, uZ_at]
        · rw [uZ_ne (by omega), uZ_ne w2, uZ_ne (by omega), uZ_ne (by omega), uZ_ne (by omega), uZ_ne (by omega), uZ_ne (by omega), uZ_ne (by omega)]
          exact (t2 r g1 (by omega)).2)
    have e0 : sA (sS (sA (sA (sA s 0 (uZ (s.2 0) (s.1 16) key)) 1 (uZ (s.2 1) (s.1 16) 0)) 2 (uZ (s.2 2) (s.1 16) (-1))) 16 (s.1 16 + 1)) 1 (uZ (uZ (uZ (s.2 1) (s.1 16) 1) y (z (130 + y) + 1)) (s.1 16) 0) = sS (sA (sA (sA s 0 (uZ (s.2 0) (s.1 16) key)) 1 (uZ (uZ (uZ (s.2 1) (s.1 16) 1) y (z (130 + y) + 1)) (s.1 16) 0)) 2 (uZ (s.2 2) (s.1 16) (-1))) 16 (s.1 16 + 1) := by
      unfold sS sA
      refine Prod.ext rfl (funext fun k => ?_)
      dsimp only
      by_cases k1 : k = 1
      · rw [if_pos k1, if_neg (by omega), if_pos k1]
      · rw [if_neg k1, if_neg k1, if_neg k1]
    rw [e0] at q2
    exact q2
  · have hsam : samV z key = -6 := by
      rcases samV_spec (z := z) (k := key) b1 with w | ⟨_, w1, w2, w3, w4⟩
      · exact w
      · exfalso
        obtain ⟨i, i1, i2, i3⟩ := hm.2.2.2 _ w1 w2 w3
        rcases hy with ⟨_, h2⟩ | ⟨i', j1, j2, j3, j4⟩
        · refine h2 i i1 i2 ?_
          rw [i3, (t2 _ w1 w2).1, w4]
        · obtain ⟨m1, m2, m3⟩ := hm.2.1 i' j1 j2
          rw [← j3] at m1 m2
          omega
    refine ⟨fun d => ⟨by omega, by unfold rg; omega, t1, ?_⟩, fun d => ⟨newZ z key 1, hN, ⟨newZ_Vb hb p4, by rw [newZ_lo (i := 4) (by omega) (by omega) (by omega) (by omega)]; omega⟩, by rw [newZ_lo (i := 7) (by omega) (by omega) (by omega) (by omega), newZ_rows hb p4 (by omega)]; exact p3, fun r u rr ru ⟨h1, h2⟩ => ?_⟩⟩
    · exact plc hsam d
    · exact wr hsam d u h2
