def wp_X1_remember (ol : Int) (tt : Int) (s0 : SS) (s1 : SS) (s2 : SS) (s3 : SS) (o_s : SS)  (P : Int → Int → SS → SS → SS → SS → Prop) : Prop :=
  ((tt = 4) → (rg (ol + 1) ∧ (0 ≤ (ol + 1) ∧ (rg (tt - 1) ∧ ((0 ≤ ((ol + 1) % 4) ∧ ((ol + 1) % 4) < 4 ∧ 0 ≤ (tt - 1) ∧ (tt - 1) < 4) ∧ (((((((ol + 1) % 4) + (tt - 1)) % 4) = 0) → ((((o_s.1 2) = 0 ∨ (o_s.1 2) = 1) ∧ ((o_s.1 3) = 0 ∨ (o_s.1 3) = 1)) ∧ (rg ((tt - 1) + 1) ∧ (P ((ol + 1) % 4) ((tt - 1) + 1) o_s s1 s2 s3)))) ∧ (((((((ol + 1) % 4) + (tt - 1)) % 4) = 1) → ((((o_s.1 2) = 0 ∨ (o_s.1 2) = 1) ∧ ((o_s.1 3) = 0 ∨ (o_s.1 3) = 1)) ∧ (rg ((tt - 1) + 1) ∧ (P ((ol + 1) % 4) ((tt - 1) + 1) s0 o_s s2 s3)))) ∧ (((((((ol + 1) % 4) + (tt - 1)) % 4) = 2) → ((((o_s.1 2) = 0 ∨ (o_s.1 2) = 1) ∧ ((o_s.1 3) = 0 ∨ (o_s.1 3) = 1)) ∧ (rg ((tt - 1) + 1) ∧ (P ((ol + 1) % 4) ((tt - 1) + 1) s0 s1 o_s s3)))) ∧ (((((((ol + 1) % 4) + (tt - 1)) % 4) = 3) → ((((o_s.1 2) = 0 ∨ (o_s.1 2) = 1) ∧ ((o_s.1 3) = 0 ∨ (o_s.1 3) = 1)) ∧ (rg ((tt - 1) + 1) ∧ (P ((ol + 1) % 4) ((tt - 1) + 1) s0 s1 s2 o_s))))))))))))) ∧ ((¬ (tt = 4)) → ((0 ≤ ol ∧ ol < 4 ∧ 0 ≤ tt ∧ tt < 4) ∧ (((((ol + tt) % 4) = 0) → ((((o_s.1 2) = 0 ∨ (o_s.1 2) = 1) ∧ ((o_s.1 3) = 0 ∨ (o_s.1 3) = 1)) ∧ (rg (tt + 1) ∧ (P ol (tt + 1) o_s s1 s2 s3)))) ∧ (((((ol + tt) % 4) = 1) → ((((o_s.1 2) = 0 ∨ (o_s.1 2) = 1) ∧ ((o_s.1 3) = 0 ∨ (o_s.1 3) = 1)) ∧ (rg (tt + 1) ∧ (P ol (tt + 1) s0 o_s s2 s3)))) ∧ (((((ol + tt) % 4) = 2) → ((((o_s.1 2) = 0 ∨ (o_s.1 2) = 1) ∧ ((o_s.1 3) = 0 ∨ (o_s.1 3) = 1)) ∧ (rg (tt + 1) ∧ (P ol (tt + 1) s0 s1 o_s s3)))) ∧ (((((ol + tt) % 4) = 3) → ((((o_s.1 2) = 0 ∨ (o_s.1 2) = 1) ∧ ((o_s.1 3) = 0 ∨ (o_s.1 3) = 1)) ∧ (rg (tt + 1) ∧ (P ol (tt + 1) s0 s1 s2 o_s))))))))))
set_option maxHeartbeats 1000000 in
theorem sp_X1_remember (ol : Int) (tt : Int) (s0 : SS) (s1 : SS) (s2 : SS) (s3 : SS) (o_s : SS)  (r_ol : rg ol) (r_tt : rg tt) (r_s0 : RG s0) (r_s1 : RG s1) (r_s2 : RG s2) (r_s3 : RG s3) (r_o_s : RG o_s)  (p0 : 0 ≤ ol ∧ ol < 4 ∧ 0 ≤ tt ∧ tt ≤ 4) (p1 : B01 o_s) : wp_X1_remember ol tt s0 s1 s2 s3 o_s (fun o0 o1 o2 o3 o4 o5 => o0 = (rmO ol tt) ∧ o1 = (recN tt + 1) ∧ o2 = (rmS 0 ol tt o_s s0) ∧ o3 = (rmS 1 ol tt o_s s1) ∧ o4 = (rmS 2 ol tt o_s s2) ∧ o5 = (rmS 3 ol tt o_s s3)) := by
  unfold wp_X1_remember
  have b1 : (o_s.1 2 = 0 ∨ o_s.1 2 = 1) ∧ (o_s.1 3 = 0 ∨ o_s.1 3 = 1) := p1
  have mod : ∀ x : Int, 0 ≤ x % 4 ∧ x % 4 < 4 := fun x => by omega
  refine ⟨fun c => ?_, fun c => ?_⟩
  · subst c
    have e1 : rmO ol 4 = (ol + 1) % 4 := if_pos rfl
    have e2 : recN 4 = 3 := rfl
    have e3 : ∀ (k : Int) (o s : SS), rmS k ol 4 o s = if ((ol + 1) % 4 + (4 - 1)) % 4 = k then o else s := fun k o s => by unfold rmS; rw [e1]; rfl
    refine ⟨by unfold rg; omega, by omega, by unfold rg; omega, ⟨by omega, by omega, by omega, by omega⟩, fun h => ?_, fun h => ?_, fun h => ?_, fun h => ?_⟩
    all_goals
      refine ⟨b1, by unfold rg; omega, e1.symm, by rw [e2]; rfl, ?_, ?_, ?_, ?_⟩ <;> rw [e3, h] <;> rfl
  · have e1 : rmO ol tt = ol := if_neg c
    have e2 : recN tt = tt := if_neg c
    have e3 : ∀ (k : Int) (o s : SS), rmS k ol tt o s = if (ol + tt) % 4 = k then o else s := fun k o s => by unfold rmS; rw [e1, e2]
    refine ⟨⟨by omega, by omega, by omega, by omega⟩, fun h => ?_, fun h => ?_, fun h => ?_, fun h => ?_⟩
    all_goals
      refine ⟨b1, by unfold rg; omega, e1.symm, by rw [e2], ?_, ?_, ?_, ?_⟩ <;> rw [e3, h] <;> rfl
