def wp_X5_resize (s : SS) (size : Int) (P : Int → SS → Prop) : Prop :=
  (((s.1 3) = 0) → ((2 ≤ size ∧ size ≤ 20) ∧ ((((waysZ size) < (s.1 18)) → (∃ (g15 : Int → Int), (Rep (sS s 4 size) g15) ∧ ((Vb g15 ∧ g15 4 + 1 + manyZ g15 1 ≤ 900000000) ∧ ((rg (g15 9 + 1)) ∧ (∀ (z25 : Int) (u_s23 : SS), rg z25 → RG u_s23 → (z25 = pz (0 < rowsAt g15 2) + manyZ g15 1 ∧ Rep u_s23 (cutZ g15)) → (P z25 u_s23)))))) ∧ ((¬ ((waysZ size) < (s.1 18))) → (P 0 (sS s 4 size)))))) ∧ ((¬ ((s.1 3) = 0)) → (((size < (s.1 6)) → (∃ (g59 : Int → Int), (Rep (sS s 4 size) g59) ∧ ((Vb g59 ∧ g59 4 + 1 ≤ 900000000) ∧ ((rg (g59 7 + rowsAt g59 1)) ∧ (∀ (z69 : Int) (u_s67 : SS), rg z69 → RG u_s67 → (z69 = (if rowsAt g59 1 = 0 then -6 else g59 4) ∧ Rep u_s67 (wriZ g59)) → (P 1 u_s67)))))) ∧ ((¬ (size < (s.1 6))) → ((2 ≤ size ∧ size ≤ 20) ∧ ((((waysZ size) < (s.1 18)) → (∃ (g44 : Int → Int), (Rep (sS s 4 size) g44) ∧ ((Vb g44 ∧ g44 4 + 1 + manyZ g44 1 ≤ 900000000) ∧ ((rg (g44 9 + 1)) ∧ (∀ (z54 : Int) (u_s52 : SS), rg z54 → RG u_s52 → (z54 = pz (0 < rowsAt g44 2) + manyZ g44 1 ∧ Rep u_s52 (cutZ g44)) → (P z54 u_s52)))))) ∧ ((¬ ((waysZ size) < (s.1 18))) → (P 0 (sS s 4 size))))))))
set_option maxHeartbeats 1000000 in
theorem sp_X5_resize (s : SS) (size : Int) (z : Int → Int) (r_s : RG s) (r_size : rg size) (p0 : Rep s z) (p1 : Vz z) (p2 : z 4 + 1 + manyZ z 1 ≤ 900000000) (p3 : rg (z 7 + rowsAt z 1)) (p4 : rg (z 9 + 1)) (p5 : 2 ≤ size ∧ size ≤ 20) : wp_X5_resize s size (fun r s' => r = graA z size ∧ Rep s' (graZ z size)) := by
  unfold wp_X5_resize
  have hb := p1.1
  have ⟨b1, b2, b3, b4, b5⟩ := hb
  obtain ⟨_, ⟨_, _, v2, v5, _⟩, _, _, vm, _, _, vr, _⟩ := p1
  have e6 := Rep_n6 hb p0
  have e3 : s.1 3 = z 2 := p0.2.1.2.1
  have e18 : manyZ z 1 = s.1 18 := RLs_many p0.2.2.2.2.1 b1 b3 (Or.inr rfl)
  have hpos : 0 < s.1 18 → z 5 = 1 := fun c => vr.mpr (by
    obtain ⟨a1, a2, a3, a4⟩ := p0.2.2.2.2.1.2.1 0 (by omega) c
    obtain ⟨x1, x2, x3⟩ := a4.1 0 (by omega)
    exact riZ_pos2 b1 x1 x2 (by omega))
  have hw : 1 ≤ waysZ size := by unfold waysZ; omega
  have hR : Rep (sS s 4 size) (uZ z 0 size) := by
    have ⟨_, ⟨c1, c2, c3, c4, c5, c6, c7, c8⟩, _⟩ := p0
    exact Rep_sc p0 rfl rfl rfl rfl rfl rfl rfl rfl ⟨c1, c2, rfl, c4, c5, c6, c7, c8⟩ (fun i g => uZ_ne (by omega)) rfl (Int.le_refl _)
  have hz2 : Vb (uZ z 0 size) := Vb_lo hb (by omega) (by omega) (by omega)
  have er : rowsAt (uZ z 0 size) 1 = rowsAt z 1 := rowsAt_lo (by omega) (by omega)
  have er2 : rowsAt (uZ z 0 size) 2 = rowsAt z 2 := rowsAt_lo (by omega) (by omega)
  have em : manyZ (uZ z 0 size) 1 = manyZ z 1 := manyZ_lo (by omega) (by omega) (by omega)
  have e7 : uZ z 0 size 7 = z 7 := uZ_ne (by omega)
  have e4 : uZ z 0 size 4 = z 4 := uZ_ne (by omega)
  have e9 : uZ z 0 size 9 = z 9 := uZ_ne (by omega)
  have hmn := manyZ_nn (z := z) (k := 1) b3
  have cutG : waysZ size < s.1 18 → ¬ (z 2 = 1 ∧ size < rowsAt z 1) → (Rep (sS s 4 size) (uZ z 0 size)) ∧ ((Vb (uZ z 0 size) ∧ uZ z 0 size 4 + 1 + manyZ (uZ z 0 size) 1 ≤ 900000000) ∧ ((rg (uZ z 0 size 9 + 1)) ∧ (∀ (z25 : Int) (u : SS), rg z25 → RG u → (z25 = pz (0 < rowsAt (uZ z 0 size) 2) + manyZ (uZ z 0 size) 1 ∧ Rep u (cutZ (uZ z 0 size))) → (z25 = graA z size ∧ Rep u (graZ z size))))) := fun c n => by
    refine ⟨hR, ⟨hz2, by rw [e4, em]; exact p2⟩, by rw [e9]; exact p4, fun r u _ _ ⟨h1, h2⟩ => ?_⟩
    have c2 : z 5 = 1 ∧ waysZ size < manyZ z 1 := ⟨hpos (by omega), by omega⟩
    unfold graA graZ
    rw [if_neg n, if_neg n, if_pos c2, if_pos c2]
    rw [er2, em] at h1
    exact ⟨h1, h2⟩
  have zero : ¬ waysZ size < s.1 18 → ¬ (z 2 = 1 ∧ size < rowsAt z 1) → (0 : Int) = graA z size ∧ Rep (sS s 4 size) (graZ z size) := fun c n => by
    unfold graA graZ
    rw [if_neg n, if_neg n, if_neg (by omega), if_neg (by omega)]
    exact ⟨rfl, hR⟩
  refine ⟨fun c => ⟨p5, fun d => ⟨_, cutG d (by omega)⟩, fun d => zero d (by omega)⟩, fun c => ⟨fun d => ?_, fun d => ⟨p5, fun q => ⟨_, cutG q (by omega)⟩, fun q => zero q (by omega)⟩⟩⟩
  refine ⟨uZ z 0 size, hR, ⟨hz2, by rw [e4]; omega⟩, by rw [e7, er]; exact p3, fun r u _ _ ⟨h1, h2⟩ => ?_⟩
  have n : z 2 = 1 ∧ size < rowsAt z 1 := ⟨by omega, by omega⟩
  unfold graA graZ
  rw [if_pos n, if_pos n]
  exact ⟨rfl, h2⟩
