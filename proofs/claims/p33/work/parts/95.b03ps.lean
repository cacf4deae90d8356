theorem st_fin {f_x n_x l_x d_x mg k_x t_x z f1 l1 c1 t1 : Int → Int} (P : (Int → Int) → (Int → Int) → (Int → Int) → (Int → Int) → (Int → Int) → (Int → Int) → Prop) (hz : Vz z) (h : LV f_x n_x l_x d_x mg k_x t_x z) (g5 : z 5 = 1) (g4 : z 4 + 1 ≤ 900000000) (hri : 0 < riZ z) (h2 : z 2 = 0) (hF : LF f1 n_x l1 d_x (t_x 10) (stp0 z)) (hl1 : 0 < l1 (t_x 10 - 1)) (hl : ∀ i, 0 ≤ i → i < t_x 10 → d_x i = 0 → l1 i = l_x i) (hc : LC c1 (stp0 z)) (e7 : t1 7 = stp0 z 7) (eo : ∀ i, i ≠ 7 → t1 i = t_x i) (hP : ∀ f n l d c t, (LV f n l d mg k_x t (stpZ z) ∧ LC c (stpZ z)) → P f n l d c t) : (0 ≤ t1 10 ∧ t1 10 ≤ 64) ∧ (((1 : Int) = 1) ∧ ((((kdZ l1 d_x (1 : Int) (t1 10).toNat) = 0) → (rg ((t_x 4) + 1) ∧ (∃ (g199 : Int → Int) (g200 : Int → Int), (LF g199 (uZ n_x ((t_x 10) - 1) (t_x 4)) l1 (uZ d_x ((t_x 10) - 1) 0) ((uZ (uZ t1 4 ((t_x 4) + 1)) 5 0) 10) g200) ∧ ((0 ≤ (uZ (uZ t1 4 ((t_x 4) + 1)) 5 0) 10 ∧ (uZ (uZ t1 4 ((t_x 4) + 1)) 5 0) 10 ≤ 64) ∧ (∀ (u_n_x206 : Int → Int) (u_l_x207 : Int → Int) (u_d_x208 : Int → Int) (u_t_x209 : Int → Int), rgA u_n_x206 → rgA u_l_x207 → rgA u_d_x208 → rgA u_t_x209 → ((∀ i, i ≠ 10 → u_t_x209 i = (uZ (uZ t1 4 ((t_x 4) + 1)) 5 0) i) ∧ (0 ≤ u_t_x209 10 ∧ u_t_x209 10 ≤ (uZ (uZ t1 4 ((t_x 4) + 1)) 5 0) 10) ∧ LF g199 u_n_x206 u_l_x207 u_d_x208 (u_t_x209 10) g200 ∧ (∀ i, 0 ≤ i → i < u_t_x209 10 → 0 < u_l_x207 i ∧ ∃ j, (0 ≤ j ∧ j < (uZ (uZ t1 4 ((t_x 4) + 1)) 5 0) 10) ∧ u_d_x208 i = (uZ d_x ((t_x 10) - 1) 0) j ∧ 0 < l1 j)) → (P f1 u_n_x206 u_l_x207 u_d_x208 c1 u_t_x209)))))) ∧ ((¬ ((kdZ l1 d_x (1 : Int) (t1 10).toNat) = 0)) → (P f1 n_x l1 d_x c1 t1)))) := by
  have hb := hz.1
  have h120 := hb.2.1
  have hz4 := hb.2.2.1
  have A := stp0_all hz hri
  have hbq : Vb (stp0 z) := A.1.1
  have q3 : stp0 z 3 = z 3 := A.2.2.2.2.1
  have q4 : stp0 z 4 = z 4 := A.2.2.2.2.2.1
  have S := stpZ_all hz hri g4
  obtain ⟨y1, y2, _, _⟩ := frV_spec hri
  have hlo : loV z = -6 ∨ 0 ≤ loV z := by
    rcases loV_spec (z := z) hb.1 with ⟨s1, _⟩ | ⟨s1, _⟩
    · exact Or.inl s1
    · exact Or.inr s1
  have lo : ∀ i, i < 130 → i ≠ 7 → stp0 z i = z i := fun i a b => stp0_lo y1 hlo a b
  have t11 := LV_t11 hz h2 h
  have h' := h
  obtain ⟨⟨t0, t1', t2, t3, t4, t5, t7, t8, t9, t6⟩, hk, hm, _, hX, hT, h56⟩ := h'
  obtain ⟨x1, x2, x3⟩ := hX.2 g5
  have e10 := eo 10 (by omega)
  have kd := LF_kinds hbq hF (kind := 1) (Or.inr rfl)
  have mr := many_ri hbq
  rw [e10]
  refine ⟨by omega, rfl, fun c => ⟨by unfold rg; omega, f1, becm (stp0 z) 2, ?_, ?_, fun un ul ud ut _ _ _ _ ⟨u1, u2, u3, u4⟩ => hP _ _ _ _ _ _ ?_⟩, fun c => hP _ _ _ _ _ _ ?_⟩
  · rw [uZ_ne (by omega), uZ_ne (by omega), e10]
    have q := LF_close hbq hF (a := t_x 10 - 1) (by omega) hl1
    rw [pF_2 x2, q4, ← t4] at q
    exact q
  · rw [uZ_ne (by omega), uZ_ne (by omega), e10]; omega
  · have r0 : riZ (stp0 z) = 0 := mr.mp (by omega)
    have es : stpZ z = uZ (becm (stp0 z) 2) 5 0 := if_pos r0
    have b3 : becm (stp0 z) 2 3 = z 3 := by rw [becm_lo (by omega) (by omega), q3]
    have v1 : ∀ i, i ≠ 10 → i ≠ 5 → i ≠ 4 → i ≠ 7 → ut i = t_x i := fun i a b e g => by rw [u1 i a, uZ_ne b, uZ_ne e, eo i g]
    have sl : ∀ i, i < 130 → i ≠ 4 → i ≠ 5 → i ≠ 7 → stpZ z i = z i := fun i a b e g => by rw [es, uZ_ne e, becm_lo (by omega) b, lo i a g]
    refine ⟨LV_done S.1 (by rw [es, uZ_at]) (by rw [sl 2 (by omega) (by omega) (by omega) (by omega)]; exact h2) (by rw [sl 3 (by omega) (by omega) (by omega) (by omega)]; exact h56) ?_ u2.1 (fun i a b => ?_) ⟨?_, ?_, ?_, ?_, ?_, ?_, ?_, ?_, ?_, fun q => ?_⟩ (by rw [v1 11 (by omega) (by omega) (by omega) (by omega)]; exact t11) (fun r r0 r1 => ?_), fun r r0 r1 => ?_⟩
    · rw [es]
      exact LF_z u3 (by rw [uZ_ne (by omega)]; exact Int.le_refl _) (fun r r0 r1 _ => ⟨by rw [uZ_ne (by omega)]; exact r1, uZ_ne (by omega)⟩) (fun r r0 r1 _ => ⟨by rw [uZ_ne (by omega)] at r1; exact r1, uZ_ne (by omega)⟩) (fun r r0 r1 => uZ_ne (by omega))
    · obtain ⟨w1, j, j1, j2, j3⟩ := u4 i a b
      refine ⟨?_, w1⟩
      rw [j2]
      rw [uZ_ne (by omega), uZ_ne (by omega), e10] at j1
      by_cases w : j = t_x 10 - 1
      · rw [w, uZ_at]
      · rw [uZ_ne w]
        rcases x3 j j1.1 (by omega) with v | ⟨v, _⟩
        · exfalso
          unfold kdZ at c
          have := sumI_eq0 (f := fun i => pz (d_x i = 1 ∧ 0 < l1 i)) (fun _ _ => pz_nn _) c j.toNat (by omega)
          rw [show ((j.toNat : Nat) : Int) = j by omega] at this
          exact pz_0 this ⟨v, j3⟩
        · exact v
    · rw [v1 0 (by omega) (by omega) (by omega) (by omega), sl 0 (by omega) (by omega) (by omega) (by omega)]; exact t0
    · rw [v1 1 (by omega) (by omega) (by omega) (by omega), sl 1 (by omega) (by omega) (by omega) (by omega)]; exact t1'
    · rw [v1 2 (by omega) (by omega) (by omega) (by omega), sl 2 (by omega) (by omega) (by omega) (by omega)]; exact t2
    · rw [v1 3 (by omega) (by omega) (by omega) (by omega), sl 3 (by omega) (by omega) (by omega) (by omega)]; exact t3
    · rw [u1 4 (by omega), uZ_ne (by omega), uZ_at, es, uZ_ne (by omega), becm_4, q4, t4]
    · rw [u1 5 (by omega), uZ_at, es, uZ_at]
    · rw [u1 7 (by omega), uZ_ne (by omega), uZ_ne (by omega), e7, es, uZ_ne (by omega), becm_lo (by omega) (by omega)]
    · rw [v1 8 (by omega) (by omega) (by omega) (by omega), sl 8 (by omega) (by omega) (by omega) (by omega)]; exact t8
    · rw [v1 9 (by omega) (by omega) (by omega) (by omega), sl 9 (by omega) (by omega) (by omega) (by omega)]; exact t9
    · rw [es, uZ_at] at q; omega
    · rw [sl 3 (by omega) (by omega) (by omega) (by omega)] at r1
      rw [sl _ (by omega) (by omega) (by omega) (by omega)]; exact hk r r0 r1
    · rw [sl 3 (by omega) (by omega) (by omega) (by omega)] at r1
      rw [es, uZ_ne (by omega), becm_lo (by omega) (by omega)]
      exact hc r r0 (by omega)
  · have r0 : ¬ riZ (stp0 z) = 0 := fun q => c (by have := mr.mpr q; omega)
    have rn := (riZ_le hbq.1).1
    have es : stpZ z = stp0 z := if_neg r0
    rw [es]
    exact ⟨LV_on hz g5 h hri (by omega) hF hl e7 eo, hc⟩
set_option maxRecDepth 100000 in
def wp_L_step (f_x : Int → Int) (n_x : Int → Int) (l_x : Int → Int) (d_x : Int → Int) (k_x : Int → Int) (c_x : Int → Int) (t_x : Int → Int)  (P : (Int → Int) → (Int → Int) → (Int → Int) → (Int → Int) → (Int → Int) → (Int → Int) → Prop) : Prop :=
  ∃ (I2 : Int → Int → Prop) (μ3 : Int → Int → Nat), I2 (-1) 0 ∧ ∀ (x7_1 : Int) (x8_1 : Int), rg x7_1 → rg x8_1 → I2 x7_1 x8_1 → (((x8_1 < (t_x 10)) → ((0 ≤ x8_1 ∧ x8_1 < 64) ∧ ((((d_x x8_1) = 1) → (((0 < (l_x x8_1)) → (((x7_1 < 0) → (rg (x8_1 + 1) ∧ (I2 x8_1 (x8_1 + 1) ∧ μ3 x8_1 (x8_1 + 1) < μ3 x7_1 x8_1))) ∧ ((¬ (x7_1 < 0)) → ((0 ≤ x8_1 ∧ x8_1 ≤ 64) ∧ ((∀ i, 0 ≤ i → i < x8_1 → 0 ≤ l_x i ∧ l_x i ≤ 60) ∧ ((0 ≤ (sumI l_x (x8_1).toNat) ∧ (sumI l_x (x8_1).toNat) < 60) ∧ ((0 ≤ x7_1 ∧ x7_1 ≤ 64) ∧ ((∀ i, 0 ≤ i → i < x7_1 → 0 ≤ l_x i ∧ l_x i ≤ 60) ∧ ((0 ≤ (sumI l_x (x7_1).toNat) ∧ (sumI l_x (x7_1).toNat) < 60) ∧ ((0 ≤ (f_x (sumI l_x (x8_1).toNat)) ∧ (f_x (sumI l_x (x8_1).toNat)) < 60) ∧ ((0 ≤ (f_x (sumI l_x (x7_1).toNat)) ∧ (f_x (sumI l_x (x7_1).toNat)) < 60) ∧ (((k_x (f_x (sumI l_x (x8_1).toNat)) < k_x (f_x (sumI l_x (x7_1).toNat)) ∨ k_x (f_x (sumI l_x (x8_1).toNat)) = k_x (f_x (sumI l_x (x7_1).toNat)) ∧ (f_x (sumI l_x (x8_1).toNat)) < (f_x (sumI l_x (x7_1).toNat))) → (rg (x8_1 + 1) ∧ (I2 x8_1 (x8_1 + 1) ∧ μ3 x8_1 (x8_1 + 1) < μ3 x7_1 x8_1))) ∧ ((¬ (k_x (f_x (sumI l_x (x8_1).toNat)) < k_x (f_x (sumI l_x (x7_1).toNat)) ∨ k_x (f_x (sumI l_x (x8_1).toNat)) = k_x (f_x (sumI l_x (x7_1).toNat)) ∧ (f_x (sumI l_x (x8_1).toNat)) < (f_x (sumI l_x (x7_1).toNat)))) → (rg (x8_1 + 1) ∧ (I2 x7_1 (x8_1 + 1) ∧ μ3 x7_1 (x8_1 + 1) < μ3 x7_1 x8_1))))))))))))))) ∧ ((¬ (0 < (l_x x8_1))) → (rg (x8_1 + 1) ∧ (I2 x7_1 (x8_1 + 1) ∧ μ3 x7_1 (x8_1 + 1) < μ3 x7_1 x8_1))))) ∧ ((¬ ((d_x x8_1) = 1)) → (rg (x8_1 + 1) ∧ (I2 x7_1 (x8_1 + 1) ∧ μ3 x7_1 (x8_1 + 1) < μ3 x7_1 x8_1)))))) ∧ ((¬ (x8_1 < (t_x 10))) → ((0 ≤ (t_x 10) ∧ (t_x 10) ≤ 64) ∧ ((∀ i, 0 ≤ i → i < (t_x 10) → 0 ≤ l_x i ∧ l_x i ≤ 60) ∧ ((0 ≤ x7_1 ∧ x7_1 ≤ 64) ∧ ((∀ i, 0 ≤ i → i < x7_1 → 0 ≤ l_x i ∧ l_x i ≤ 60) ∧ ((0 ≤ (sumI l_x (x7_1).toNat) ∧ (sumI l_x (x7_1).toNat) < 60) ∧ (∃ (I30 : Int → (Int → Int) → Prop) (μ31 : Int → (Int → Int) → Nat), I30 (sumI l_x (x7_1).toNat) f_x ∧ ∀ (x11_29 : Int) (x0_29 : Int → Int), rg x11_29 → rgA x0_29 → I30 x11_29 x0_29 → (rg ((sumI l_x ((t_x 10)).toNat) - 1) ∧ (((x11_29 < ((sumI l_x ((t_x 10)).toNat) - 1)) → (rg (x11_29 + 1) ∧ ((0 ≤ (x11_29 + 1) ∧ (x11_29 + 1) < 60) ∧ ((0 ≤ x11_29 ∧ x11_29 < 60) ∧ (I30 (x11_29 + 1) (uZ x0_29 x11_29 (x0_29 (x11_29 + 1))) ∧ μ31 (x11_29 + 1) (uZ x0_29 x11_29 (x0_29 (x11_29 + 1))) < μ31 x11_29 x0_29))))) ∧ ((¬ (x11_29 < ((sumI l_x ((t_x 10)).toNat) - 1))) → ((0 ≤ x7_1 ∧ x7_1 < 64) ∧ (rg ((l_x x7_1) - 1) ∧ (rg ((t_x 10) - 1) ∧ ((((t_x 1) = 1) → ((0 ≤ ((t_x 10) - 1) ∧ ((t_x 10) - 1) < 64) ∧ (((0 < ((uZ l_x x7_1 ((l_x x7_1) - 1)) ((t_x 10) - 1))) → (rg ((sumI l_x ((t_x 10)).toNat) - 2) ∧ ((0 ≤ ((sumI l_x ((t_x 10)).toNat) - 2) ∧ ((sumI l_x ((t_x 10)).toNat) - 2) < 60) ∧ ((0 ≤ (x0_29 ((sumI l_x ((t_x 10)).toNat) - 2)) ∧ (x0_29 ((sumI l_x ((t_x 10)).toNat) - 2)) < 60) ∧ ((0 ≤ (f_x (sumI l_x (x7_1).toNat)) ∧ (f_x (sumI l_x (x7_1).toNat)) < 60) ∧ ((((k_x (x0_29 ((sumI l_x ((t_x 10)).toNat) - 2))) = (k_x (f_x (sumI l_x (x7_1).toNat)))) → (rg ((c_x (x0_29 ((sumI l_x ((t_x 10)).toNat) - 2))) + (c_x (f_x (sumI l_x (x7_1).toNat)))) ∧ (rg ((t_x 7) + 1) ∧ ((0 ≤ (uZ t_x 7 ((t_x 7) + 1)) 10 ∧ (uZ t_x 7 ((t_x 7) + 1)) 10 ≤ 64) ∧ (((1 : Int) = 1) ∧ ((((kdZ (uZ l_x x7_1 ((l_x x7_1) - 1)) d_x (1 : Int) ((uZ t_x 7 ((t_x 7) + 1)) 10).toNat) = 0) → (rg ((t_x 4) + 1) ∧ (∃ (g199 : Int → Int) (g200 : Int → Int), (LF g199 (uZ n_x ((t_x 10) - 1) (t_x 4)) (uZ l_x x7_1 ((l_x x7_1) - 1)) (uZ d_x ((t_x 10) - 1) 0) ((uZ (uZ (uZ t_x 7 ((t_x 7) + 1)) 4 ((t_x 4) + 1)) 5 0) 10) g200) ∧ ((0 ≤ (uZ (uZ (uZ t_x 7 ((t_x 7) + 1)) 4 ((t_x 4) + 1)) 5 0) 10 ∧ (uZ (uZ (uZ t_x 7 ((t_x 7) + 1)) 4 ((t_x 4) + 1)) 5 0) 10 ≤ 64) ∧ (∀ (u_n_x206 : Int → Int) (u_l_x207 : Int → Int) (u_d_x208 : Int → Int) (u_t_x209 : Int → Int), rgA u_n_x206 → rgA u_l_x207 → rgA u_d_x208 → rgA u_t_x209 → ((∀ i, i ≠ 10 → u_t_x209 i = (uZ (uZ (uZ t_x 7 ((t_x 7) + 1)) 4 ((t_x 4) + 1)) 5 0) i) ∧ (0 ≤ u_t_x209 10 ∧ u_t_x209 10 ≤ (uZ (uZ (uZ t_x 7 ((t_x 7) + 1)) 4 ((t_x 4) + 1)) 5 0) 10) ∧ LF g199 u_n_x206 u_l_x207 u_d_x208 (u_t_x209 10) g200 ∧ (∀ i, 0 ≤ i → i < u_t_x209 10 → 0 < u_l_x207 i ∧ ∃ j, (0 ≤ j ∧ j < (uZ (uZ (uZ t_x 7 ((t_x 7) + 1)) 4 ((t_x 4) + 1)) 5 0) 10) ∧ u_d_x208 i = (uZ d_x ((t_x 10) - 1) 0) j ∧ 0 < (uZ l_x x7_1 ((l_x x7_1) - 1)) j)) → (P x0_29 u_n_x206 u_l_x207 u_d_x208 (uZ (uZ c_x (x0_29 ((sumI l_x ((t_x 10)).toNat) - 2)) ((c_x (x0_29 ((sumI l_x ((t_x 10)).toNat) - 2))) + (c_x (f_x (sumI l_x (x7_1).toNat))))) (f_x (sumI l_x (x7_1).toNat)) 0) u_t_x209)))))) ∧ ((¬ ((kdZ (uZ l_x x7_1 ((l_x x7_1) - 1)) d_x (1 : Int) ((uZ t_x 7 ((t_x 7) + 1)) 10).toNat) = 0)) → (P x0_29 n_x (uZ l_x x7_1 ((l_x x7_1) - 1)) d_x (uZ (uZ c_x (x0_29 ((sumI l_x ((t_x 10)).toNat) - 2)) ((c_x (x0_29 ((sumI l_x ((t_x 10)).toNat) - 2))) + (c_x (f_x (sumI l_x (x7_1).toNat))))) (f_x (sumI l_x (x7_1).toNat)) 0) (uZ t_x 7 ((t_x 7) + 1)))))))))) ∧ ((¬ ((k_x (x0_29 ((sumI l_x ((t_x 10)).toNat) - 2))) = (k_x (f_x (sumI l_x (x7_1).toNat))))) → ((0 ≤ ((sumI l_x ((t_x 10)).toNat) - 1) ∧ ((sumI l_x ((t_x 10)).toNat) - 1) < 60) ∧ (rg (((uZ l_x x7_1 ((l_x x7_1) - 1)) ((t_x 10) - 1)) + 1) ∧ (rg ((t_x 7) + 2) ∧ ((0 ≤ (uZ t_x 7 ((t_x 7) + 2)) 10 ∧ (uZ t_x 7 ((t_x 7) + 2)) 10 ≤ 64) ∧ (((1 : Int) = 1) ∧ ((((kdZ (uZ (uZ l_x x7_1 ((l_x x7_1) - 1)) ((t_x 10) - 1) (((uZ l_x x7_1 ((l_x x7_1) - 1)) ((t_x 10) - 1)) + 1)) d_x (1 : Int) ((uZ t_x 7 ((t_x 7) + 2)) 10).toNat) = 0) → (rg ((t_x 4) + 1) ∧ (∃ (g165 : Int → Int) (g166 : Int → Int), (LF g165 (uZ n_x ((t_x 10) - 1) (t_x 4)) (uZ (uZ l_x x7_1 ((l_x x7_1) - 1)) ((t_x 10) - 1) (((uZ l_x x7_1 ((l_x x7_1) - 1)) ((t_x 10) - 1)) + 1)) (uZ d_x ((t_x 10) - 1) 0) ((uZ (uZ (uZ t_x 7 ((t_x 7) + 2)) 4 ((t_x 4) + 1)) 5 0) 10) g166) ∧ ((0 ≤ (uZ (uZ (uZ t_x 7 ((t_x 7) + 2)) 4 ((t_x 4) + 1)) 5 0) 10 ∧ (uZ (uZ (uZ t_x 7 ((t_x 7) + 2)) 4 ((t_x 4) + 1)) 5 0) 10 ≤ 64) ∧ (∀ (u_n_x172 : Int → Int) (u_l_x173 : Int → Int) (u_d_x174 : Int → Int) (u_t_x175 : Int → Int), rgA u_n_x172 → rgA u_l_x173 → rgA u_d_x174 → rgA u_t_x175 → ((∀ i, i ≠ 10 → u_t_x175 i = (uZ (uZ (uZ t_x 7 ((t_x 7) + 2)) 4 ((t_x 4) + 1)) 5 0) i) ∧ (0 ≤ u_t_x175 10 ∧ u_t_x175 10 ≤ (uZ (uZ (uZ t_x 7 ((t_x 7) + 2)) 4 ((t_x 4) + 1)) 5 0) 10) ∧ LF g165 u_n_x172 u_l_x173 u_d_x174 (u_t_x175 10) g166 ∧ (∀ i, 0 ≤ i → i < u_t_x175 10 → 0 < u_l_x173 i ∧ ∃ j, (0 ≤ j ∧ j < (uZ (uZ (uZ t_x 7 ((t_x 7) + 2)) 4 ((t_x 4) + 1)) 5 0) 10) ∧ u_d_x174 i = (uZ d_x ((t_x 10) - 1) 0) j ∧ 0 < (uZ (uZ l_x x7_1 ((l_x x7_1) - 1)) ((t_x 10) - 1) (((uZ l_x x7_1 ((l_x x7_1) - 1)) ((t_x 10) - 1)) + 1)) j)) → (P (uZ x0_29 ((sumI l_x ((t_x 10)).toNat) - 1) (f_x (sumI l_x (x7_1).toNat))) u_n_x172 u_l_x173 u_d_x174 c_x u_t_x175)))))) ∧ ((¬ ((kdZ (uZ (uZ l_x x7_1 ((l_x x7_1) - 1)) ((t_x 10) - 1) (((uZ l_x x7_1 ((l_x x7_1) - 1)) ((t_x 10) - 1)) + 1)) d_x (1 : Int) ((uZ t_x 7 ((t_x 7) + 2)) 10).toNat) = 0)) → (P (uZ x0_29 ((sumI l_x ((t_x 10)).toNat) - 1) (f_x (sumI l_x (x7_1).toNat))) n_x (uZ (uZ l_x x7_1 ((l_x x7_1) - 1)) ((t_x 10) - 1) (((uZ l_x x7_1 ((l_x x7_1) - 1)) ((t_x 10) - 1)) + 1)) d_x c_x (uZ t_x 7 ((t_x 7) + 2))))))))))))))))) ∧ ((¬ (0 < ((uZ l_x x7_1 ((l_x x7_1) - 1)) ((t_x 10) - 1)))) → ((0 ≤ ((sumI l_x ((t_x 10)).toNat) - 1) ∧ ((sumI l_x ((t_x 10)).toNat) - 1) < 60) ∧ (rg (((uZ l_x x7_1 ((l_x x7_1) - 1)) ((t_x 10) - 1)) + 1) ∧ (rg ((t_x 7) + 2) ∧ ((0 ≤ (uZ t_x 7 ((t_x 7) + 2)) 10 ∧ (uZ t_x 7 ((t_x 7) + 2)) 10 ≤ 64) ∧ (((1 : Int) = 1) ∧ ((((kdZ (uZ (uZ l_x x7_1 ((l_x x7_1) - 1)) ((t_x 10) - 1) (((uZ l_x x7_1 ((l_x x7_1) - 1)) ((t_x 10) - 1)) + 1)) d_x (1 : Int) ((uZ t_x 7 ((t_x 7) + 2)) 10).toNat) = 0) → (rg ((t_x 4) + 1) ∧ (∃ (g117 : Int → Int) (g118 : Int → Int), (LF g117 (uZ n_x ((t_x 10) - 1) (t_x 4)) (uZ (uZ l_x x7_1 ((l_x x7_1) - 1)) ((t_x 10) - 1) (((uZ l_x x7_1 ((l_x x7_1) - 1)) ((t_x 10) - 1)) + 1)) (uZ d_x ((t_x 10) - 1) 0) ((uZ (uZ (uZ t_x 7 ((t_x 7) + 2)) 4 ((t_x 4) + 1)) 5 0) 10) g118) ∧ ((0 ≤ (uZ (uZ (uZ t_x 7 ((t_x 7) + 2)) 4 ((t_x 4) + 1)) 5 0) 10 ∧ (uZ (uZ (uZ t_x 7 ((t_x 7) + 2)) 4 ((t_x 4) + 1)) 5 0) 10 ≤ 64) ∧ (∀ (u_n_x124 : Int → Int) (u_l_x125 : Int → Int) (u_d_x126 : Int → Int) (u_t_x127 : Int → Int), rgA u_n_x124 → rgA u_l_x125 → rgA u_d_x126 → rgA u_t_x127 → ((∀ i, i ≠ 10 → u_t_x127 i = (uZ (uZ (uZ t_x 7 ((t_x 7) + 2)) 4 ((t_x 4) + 1)) 5 0) i) ∧ (0 ≤ u_t_x127 10 ∧ u_t_x127 10 ≤ (uZ (uZ (uZ t_x 7 ((t_x 7) + 2)) 4 ((t_x 4) + 1)) 5 0) 10) ∧ LF g117 u_n_x124 u_l_x125 u_d_x126 (u_t_x127 10) g118 ∧ (∀ i, 0 ≤ i → i < u_t_x127 10 → 0 < u_l_x125 i ∧ ∃ j, (0 ≤ j ∧ j < (uZ (uZ (uZ t_x 7 ((t_x 7) + 2)) 4 ((t_x 4) + 1)) 5 0) 10) ∧ u_d_x126 i = (uZ d_x ((t_x 10) - 1) 0) j ∧ 0 < (uZ (uZ l_x x7_1 ((l_x x7_1) - 1)) ((t_x 10) - 1) (((uZ l_x x7_1 ((l_x x7_1) - 1)) ((t_x 10) - 1)) + 1)) j)) → (P (uZ x0_29 ((sumI l_x ((t_x 10)).toNat) - 1) (f_x (sumI l_x (x7_1).toNat))) u_n_x124 u_l_x125 u_d_x126 c_x u_t_x127)))))) ∧ ((¬ ((kdZ (uZ (uZ l_x x7_1 ((l_x x7_1) - 1)) ((t_x 10) - 1) (((uZ l_x x7_1 ((l_x x7_1) - 1)) ((t_x 10) - 1)) + 1)) d_x (1 : Int) ((uZ t_x 7 ((t_x 7) + 2)) 10).toNat) = 0)) → (P (uZ x0_29 ((sumI l_x ((t_x 10)).toNat) - 1) (f_x (sumI l_x (x7_1).toNat))) n_x (uZ (uZ l_x x7_1 ((l_x x7_1) - 1)) ((t_x 10) - 1) (((uZ l_x x7_1 ((l_x x7_1) - 1)) ((t_x 10) - 1)) + 1)) d_x c_x (uZ t_x 7 ((t_x 7) + 2)))))))))))))) ∧ ((¬ ((t_x 1) = 1)) → ((0 ≤ ((sumI l_x ((t_x 10)).toNat) - 1) ∧ ((sumI l_x ((t_x 10)).toNat) - 1) < 60) ∧ ((0 ≤ ((t_x 10) - 1) ∧ ((t_x 10) - 1) < 64) ∧ (rg (((uZ l_x x7_1 ((l_x x7_1) - 1)) ((t_x 10) - 1)) + 1) ∧ (rg ((t_x 7) + 2) ∧ ((0 ≤ (uZ t_x 7 ((t_x 7) + 2)) 10 ∧ (uZ t_x 7 ((t_x 7) + 2)) 10 ≤ 64) ∧ (((1 : Int) = 1) ∧ ((((kdZ (uZ (uZ l_x x7_1 ((l_x x7_1) - 1)) ((t_x 10) - 1) (((uZ l_x x7_1 ((l_x x7_1) - 1)) ((t_x 10) - 1)) + 1)) d_x (1 : Int) ((uZ t_x 7 ((t_x 7) + 2)) 10).toNat) = 0) → (rg ((t_x 4) + 1) ∧ (∃ (g75 : Int → Int) (g76 : Int → Int), (LF g75 (uZ n_x ((t_x 10) - 1) (t_x 4)) (uZ (uZ l_x x7_1 ((l_x x7_1) - 1)) ((t_x 10) - 1) (((uZ l_x x7_1 ((l_x x7_1) - 1)) ((t_x 10) - 1)) + 1)) (uZ d_x ((t_x 10) - 1) 0) ((uZ (uZ (uZ t_x 7 ((t_x 7) + 2)) 4 ((t_x 4) + 1)) 5 0) 10) g76) ∧ ((0 ≤ (uZ (uZ (uZ t_x 7 ((t_x 7) + 2)) 4 ((t_x 4) + 1)) 5 0) 10 ∧ (uZ (uZ (uZ t_x 7 ((t_x 7) + 2)) 4 ((t_x 4) + 1)) 5 0) 10 ≤ 64) ∧ (∀ (u_n_x82 : Int → Int) (u_l_x83 : Int → Int) (u_d_x84 : Int → Int) (u_t_x85 : Int → Int), rgA u_n_x82 → rgA u_l_x83 → rgA u_d_x84 → rgA u_t_x85 → ((∀ i, i ≠ 10 → u_t_x85 i = (uZ (uZ (uZ t_x 7 ((t_x 7) + 2)) 4 ((t_x 4) + 1)) 5 0) i) ∧ (0 ≤ u_t_x85 10 ∧ u_t_x85 10 ≤ (uZ (uZ (uZ t_x 7 ((t_x 7) + 2)) 4 ((t_x 4) + 1)) 5 0) 10) ∧ LF g75 u_n_x82 u_l_x83 u_d_x84 (u_t_x85 10) g76 ∧ (∀ i, 0 ≤ i → i < u_t_x85 10 → 0 < u_l_x83 i ∧ ∃ j, (0 ≤ j ∧ j < (uZ (uZ (uZ t_x 7 ((t_x 7) + 2)) 4 ((t_x 4) + 1)) 5 0) 10) ∧ u_d_x84 i = (uZ d_x ((t_x 10) - 1) 0) j ∧ 0 < (uZ (uZ l_x x7_1 ((l_x x7_1) - 1)) ((t_x 10) - 1) (((uZ l_x x7_1 ((l_x x7_1) - 1)) ((t_x 10) - 1)) + 1)) j)) → (P (uZ x0_29 ((sumI l_x ((t_x 10)).toNat) - 1) (f_x (sumI l_x (x7_1).toNat))) u_n_x82 u_l_x83 u_d_x84 c_x u_t_x85)))))) ∧ ((¬ ((kdZ (uZ (uZ l_x x7_1 ((l_x x7_1) - 1)) ((t_x 10) - 1) (((uZ l_x x7_1 ((l_x x7_1) - 1)) ((t_x 10) - 1)) + 1)) d_x (1 : Int) ((uZ t_x 7 ((t_x 7) + 2)) 10).toNat) = 0)) → (P (uZ x0_29 ((sumI l_x ((t_x 10)).toNat) - 1) (f_x (sumI l_x (x7_1).toNat))) n_x (uZ (uZ l_x x7_1 ((l_x x7_1) - 1)) ((t_x 10) - 1) (((uZ l_x x7_1 ((l_x x7_1) - 1)) ((t_x 10) - 1)) + 1)) d_x c_x (uZ t_x 7 ((t_x 7) + 2)))))))))))))))))))))))))))
set_option maxRecDepth 100000 in
set_option maxHeartbeats 4000000 in
theorem sp_L_step (f_x : Int → Int) (n_x : Int → Int) (l_x : Int → Int) (d_x : Int → Int) (k_x : Int → Int) (c_x : Int → Int) (t_x : Int → Int)  (mg : Int → Int) (z : Int → Int) (r_f_x : rgA f_x) (r_n_x : rgA n_x) (r_l_x : rgA l_x) (r_d_x : rgA d_x) (r_k_x : rgA k_x) (r_c_x : rgA c_x) (r_t_x : rgA t_x)  (p0 : LV f_x n_x l_x d_x mg k_x t_x z) (p1 : LC c_x z) (p2 : Vz z) (p3 : z 5 = 1 ∧ z 4 + 1 ≤ 900000000 ∧ z 7 + 2 ≤ 2000000000) : wp_L_step f_x n_x l_x d_x k_x c_x t_x (fun f_x' n_x' l_x' d_x' c_x' t_x' => LV f_x' n_x' l_x' d_x' mg k_x t_x' (stpZ z) ∧ LC c_x' (stpZ z)) := by
  unfold wp_L_step
  obtain ⟨g5, g4, g7⟩ := p3
  have hb := p2.1
  have hz3 := hb.1
  have h120 := hb.2.1
  have hS := (LV_sum hb p0).1
  have hri : 0 < riZ z := by
    have p2' := p2
    obtain ⟨_, _, _, _, _, _, _, w, _⟩ := p2'
    exact w.mp g5
  have h2 : z 2 = 0 := by
    have p2' := p2
    obtain ⟨_, ⟨_, _, w, _⟩, _, _, w2, _⟩ := p2'
    rcases w with w | w
    · exact w
    · have := (w2 w).1; omega
  have v7 : 0 ≤ z 7 := p2.2.1.2.2.2.2.2.1
  have t11 := LV_t11 p2 h2 p0
  have p0' := p0
  obtain ⟨⟨t0, t1, t2, t3, t4, t5, t7, t8, t9, t6⟩, hk, hm, hF, hX, hT, h56⟩ := p0'
  obtain ⟨x1, x2, x3⟩ := hX.2 g5
  have hd2 : ∀ i, 0 ≤ i → i < t_x 10 - 1 → d_x i ≠ 2 := fun i a b => by rcases x3 i a b with w | ⟨w, _⟩ <;> omega
  have rng := LF_rng hF (show sumI l_x (t_x 10).toNat ≤ 60 by omega)
  have head : ∀ i, 0 ≤ i → i < t_x 10 → 0 < l_x i → 0 ≤ f_x (sumI l_x i.toNat) ∧ f_x (sumI l_x i.toNat) < z 3 ∧ z (250 + f_x (sumI l_x i.toNat)) = pF n_x d_x i := fun i a b e => LF_row hF ⟨a, b⟩ (Int.le_refl _) (by omega)
  obtain ⟨y1, y2, y3, y4⟩ := frV_spec hri
  refine ⟨fun fm i => (0 ≤ i ∧ i ≤ t_x 10) ∧ ((fm = -1 ∧ ∀ j, 0 ≤ j → j < i → d_x j = 1 → ¬ 0 < l_x j) ∨ ((0 ≤ fm ∧ fm < i) ∧ d_x fm = 1 ∧ 0 < l_x fm ∧ ∀ j, 0 ≤ j → j < i → d_x j = 1 → 0 < l_x j → ¬ befK k_x (f_x (sumI l_x j.toNat)) (f_x (sumI l_x fm.toNat)))), fun _ i => (t_x 10 - i).toNat, ⟨by omega, Or.inl ⟨rfl, fun j a b => by omega⟩⟩, ?_⟩
  intro fm i rfm ri ⟨i0, hi⟩
  refine ⟨fun c1 => ⟨by omega, fun c2 => ⟨fun c3 => ⟨fun c4 => ⟨by unfold rg; omega, ⟨by omega, Or.inr ⟨by omega, c2, c3, fun j a b e g => ?_⟩⟩, by dsimp only; omega⟩, fun c4 => ?_⟩, fun c3 => ⟨by unfold rg; omega, ⟨by omega, ?_⟩, by dsimp only; omega⟩⟩, fun c2 => ⟨by unfold rg; omega, ⟨by omega, ?_⟩, by dsimp only; omega⟩⟩, fun c1 => ?_⟩
  · rcases hi with ⟨_, w⟩ | ⟨w, _⟩
    · by_cases v : j = i
      · rw [v]; exact befK_irr
      · exact absurd g (w j a (by omega) e)
    · omega
  · rcases hi with ⟨w, _⟩ | ⟨w, w1, w2, w3⟩
    · omega
    · have r1 := rng i i0.1 c1
      have r2 := rng fm w.1 (by omega)
      have q1 := head i i0.1 c1 c3
      have q2 := head fm w.1 (by omega) w2
      refine ⟨by omega, fun j a b => by have := rng j a (by omega); omega, by omega, by omega, fun j a b => by have := rng j a (by omega); omega, by omega, by omega, by omega, fun c5 => ⟨by unfold rg; omega, ⟨by omega, Or.inr ⟨by omega, c2, c3, fun j a b e g q => ?_⟩⟩, by dsimp only; omega⟩, fun c5 => ⟨by unfold rg; omega, ⟨by omega, Or.inr ⟨by omega, w1, w2, fun j a b e g => ?_⟩⟩, by dsimp only; omega⟩⟩
      · by_cases v : j = i
        · rw [v] at q; exact befK_irr q
        · exact w3 j a (by omega) e g (befK_trans q c5)
      · by_cases v : j = i
        · rw [v]; exact c5
        · exact w3 j a (by omega) e g
  · rcases hi with ⟨w, w1⟩ | ⟨w, w1, w2, w3⟩
    · exact Or.inl ⟨w, fun j a b e => by
        by_cases v : j = i
        · rw [v]; exact c3
        · exact w1 j a (by omega) e⟩
    · exact Or.inr ⟨by omega, w1, w2, fun j a b e g => by
        by_cases v : j = i
        · rw [v] at g; exact absurd g c3
        · exact w3 j a (by omega) e g⟩
  · rcases hi with ⟨w, w1⟩ | ⟨w, w1, w2, w3⟩
    · exact Or.inl ⟨w, fun j a b e => by
        by_cases v : j = i
        · rw [v] at e; exact absurd e c2
        · exact w1 j a (by omega) e⟩
    · exact Or.inr ⟨by omega, w1, w2, fun j a b e g => by
        by_cases v : j = i
        · rw [v] at e; exact absurd e c2
        · exact w3 j a (by omega) e g⟩
  rcases hi with ⟨_, w1⟩ | ⟨w, w1, w2, w3⟩
  · obtain ⟨j, j1, j2, j3, j4⟩ := hF.2.2.2 _ y1 y2 (by omega)
    obtain ⟨b1, b2, _⟩ := hF.2.1 j j1 j2 j3
    have nj : d_x j ≠ 2 := fun q => by rw [pF_2 q] at j4; omega
    have := b2 nj
    rw [pF_n nj] at j4
    exact absurd j3 (w1 j j1 (by omega) (by omega))
  have fT : fm < t_x 10 := by omega
  have r2 := rng fm w.1 fT
  have q2 := head fm w.1 fT w2
  have up := sumI_pre hF.1 w.1 fT
  have ef := (LF_first hb hF ⟨w.1, fT⟩ w2 w1 (fun j a b e g _ q => w3 j a (by omega) e g (by
    obtain ⟨v1, v2, _⟩ := head j a b g
    unfold bef at q
    unfold befK
    rw [hk _ v1 v2, hk _ q2.1 q2.2.1]
    exact q))).1
  have fo : fm ≠ t_x 10 - 1 := fun q => by rw [q] at w1; omega
  refine ⟨by omega, fun j a b => by have := rng j a b; omega, by omega, fun j a b => by have := rng j a (by omega); omega, by omega, ?_⟩
  generalize hat : sumI l_x fm.toNat = at_ at *
  refine ⟨fun x f => (at_ ≤ x ∧ x ≤ sumI l_x (t_x 10).toNat - 1) ∧ ∀ q, (q < at_ → f q = f_x q) ∧ (at_ ≤ q → q < x → f q = f_x (q + 1)) ∧ (x ≤ q → f q = f_x q), fun x _ => (sumI l_x (t_x 10).toNat - 1 - x).toNat, ⟨by omega, fun q => ⟨fun _ => rfl, fun a b => by omega, fun _ => rfl⟩⟩, ?_⟩
  intro x f' rx rf ⟨x0, hx⟩
  refine ⟨by unfold rg; omega, fun e1 => ⟨by unfold rg; omega, by omega, by omega, ⟨by omega, fun q => ⟨fun a => by rw [uZ_ne (by omega)]; exact (hx q).1 a, fun a b => ?_, fun a => by rw [uZ_ne (by omega)]; exact (hx q).2.2 (by omega)⟩⟩, by dsimp only; omega⟩, fun e1 => ?_⟩
  · by_cases v : q = x
    · rw [v, uZ_at]; exact (hx (x + 1)).2.2 (by omega)
    · rw [uZ_ne v]; exact (hx q).2.1 a (by omega)
  have xe : x = sumI l_x (t_x 10).toNat - 1 := by omega
  have hf : ∀ q, q < sumI l_x (t_x 10).toNat - 1 → (q < sumI l_x fm.toNat → f' q = f_x q) ∧ (sumI l_x fm.toNat ≤ q → f' q = f_x (q + 1)) := fun q a => by
    rw [hat]
    exact ⟨(hx q).1, fun b => (hx q).2.1 b (by omega)⟩
  have efr : frV z = f_x (sumI l_x fm.toNat) := by rw [hat]; exact ef
  have hlast := LF_last hb hF x1 x2 hd2
  have lo1 : uZ l_x fm (l_x fm - 1) (t_x 10 - 1) = l_x (t_x 10 - 1) := uZ_ne (fun q => fo q.symm)
  have rl := rng (t_x 10 - 1) (by omega) (by omega)
  have hlo : loV z = -6 ∨ (0 ≤ loV z ∧ loV z < z 3) := by
    rcases loV_spec (z := z) hz3 with ⟨s1, _⟩ | ⟨s1, s2, _⟩
    · exact Or.inl s1
    · exact Or.inr ⟨s1, s2⟩
  have l0 : ∀ j, 0 ≤ j → j < t_x 10 → d_x j = 0 → j ≠ fm ∧ j ≠ t_x 10 - 1 := fun j a b e => ⟨fun q => by rw [q] at e; omega, fun q => by rw [q] at e; omega⟩
  have dif : ¬ (z 1 = 1 ∧ loV z ≠ -6 ∧ z (10 + loV z) = z (10 + frV z)) → _ := fun hc => st_fin (t1 := uZ t_x 7 (t_x 7 + 2)) (c1 := c_x) (fun f n l d c t => LV f n l d mg k_x t (stpZ z) ∧ LC c (stpZ z)) p2 p0 g5 g4 hri h2 (LV_diff p2 hri hF x2 hd2 ⟨w.1, fT⟩ w2 w1 efr hf hc) (by rw [uZ_at, lo1]; omega) (fun j a b e => by rw [uZ_ne (l0 j a b e).2, uZ_ne (l0 j a b e).1]) (fun r a b => by
    rw [(stp0_all p2 hri).2.2.2.2.1] at b
    rw [stp0_cn h120 y1 y2 hlo a b, if_neg hc]; exact p1 r a b) (by
    rw [uZ_at]
    unfold stp0
    rw [if_neg hc, uZ_ne (by omega), uZ_at, t7]) (fun j a => uZ_ne a) (fun _ _ _ _ _ _ q => q)
  rw [ef] at dif
  refine ⟨by omega, by unfold rg; omega, by unfold rg; omega, fun d1 => ⟨by omega, fun d3 => ?_, fun d3 => ⟨by omega, by rw [lo1]; unfold rg; omega, by unfold rg; omega, dif (fun q => ?_)⟩⟩, fun d1 => ⟨by omega, by omega, by rw [lo1]; unfold rg; omega, by unfold rg; omega, dif (fun q => by omega)⟩⟩
  · rw [lo1] at d3
    obtain ⟨e2, e3, e4⟩ := hlast.2 d3
    have upT := sumI_pre (l := l_x) (i := fm) (T := t_x 10 - 1) (fun r a b => hF.1 r a (by omega)) w.1 (by omega)
    have upL := sumI_pre hF.1 (i := t_x 10 - 1) (by omega) (by omega)
    rw [hat] at upT
    have e5 : f' (sumI l_x (t_x 10).toNat - 2) = loV z := by
      rw [e2, (hx _).2.1 (by omega) (by omega)]
      congr 1
      omega
    have ne : loV z ≠ frV z := fun q => by rw [q] at e4; omega
    rw [e5, ← ef]
    have ck : k_x (loV z) = z (10 + loV z) := hk _ e3.1 e3.2
    have cf : k_x (frV z) = z (10 + frV z) := hk _ y1 y2
    refine ⟨by unfold rg; omega, by omega, by omega, by omega, fun d5 => ?_, fun d5 => ⟨by omega, by rw [lo1]; unfold rg; omega, by unfold rg; omega, ?_⟩⟩
    · have hc : z 1 = 1 ∧ loV z ≠ -6 ∧ z (10 + loV z) = z (10 + frV z) := ⟨by omega, by omega, by omega⟩
      have c1 := Vz.cnt p2 _ e3.1 e3.2
      have c2 := Vz.cnt p2 _ y1 y2
      rw [p1 _ e3.1 e3.2, p1 _ y1 y2]
      refine ⟨by unfold rg; omega, by unfold rg; omega, ?_⟩
      exact st_fin (t1 := uZ t_x 7 (t_x 7 + 1)) (fun f n l d c t => LV f n l d mg k_x t (stpZ z) ∧ LC c (stpZ z)) p2 p0 g5 g4 hri h2 (LV_same p2 hri hF ⟨w.1, fT⟩ w2 efr hf hc) (by rw [lo1]; omega) (fun j a b e => uZ_ne (l0 j a b e).1) (fun r a b => by
        rw [(stp0_all p2 hri).2.2.2.2.1] at b
        rw [stp0_cn h120 y1 y2 hlo a b, if_pos hc]
        by_cases v : r = frV z
        · rw [if_pos v, v, uZ_at]
        · rw [if_neg v, uZ_ne v]
          by_cases v2 : r = loV z
          · rw [if_pos v2, v2, uZ_at]
          · rw [if_neg v2, uZ_ne v2]; exact p1 r a b) (by
        rw [uZ_at]
        unfold stp0
        rw [if_pos hc, uZ_ne (by omega), uZ_ne (by omega), uZ_ne (by omega), uZ_at, t7]) (fun j a => uZ_ne a) (fun _ _ _ _ _ _ q => q)
    · have := dif (fun q => d5 (by rw [ck, cf]; rw [← ef] at q; exact q.2.2))
      rw [← ef] at this
      exact this
  · rw [lo1] at d3
    exact d3 (hlast.1.mp q.2.1)
