def wp_X5_copyFrom (s : SS) (o_s : SS)  (P : SS → Prop) : Prop :=
  ((o_s.1 2) = 0 ∨ (o_s.1 2) = 1) ∧ (((o_s.1 3) = 0 ∨ (o_s.1 3) = 1) ∧ (P (sS (sS (sS (sS (sS (sS (sS (sS (sS (sS (sS (sS (sS (sS (sS (sA (sA (sA (sA (sA (sA (sA (sA (sA (sA s 0 (o_s.2 0)) 1 (o_s.2 1)) 2 (o_s.2 2)) 3 (o_s.2 3)) 4 (o_s.2 4)) 5 (o_s.2 5)) 6 (o_s.2 6)) 7 (o_s.2 7)) 8 (o_s.2 8)) 9 (o_s.2 9)) 2 (o_s.1 2)) 3 (o_s.1 3)) 4 (o_s.1 4)) 6 (o_s.1 6)) 8 (o_s.1 8)) 9 (o_s.1 9)) 10 (o_s.1 10)) 11 (o_s.1 11)) 12 (o_s.1 12)) 13 (o_s.1 13)) 14 (o_s.1 14)) 15 (o_s.1 15)) 16 (o_s.1 16)) 17 (o_s.1 17)) 18 (o_s.1 18))))
set_option maxHeartbeats 1000000 in
theorem sp_X5_copyFrom (s : SS) (o_s : SS)  (r_s : RG s) (r_o_s : RG o_s)  (p0 : ((o_s.1 2) = 0 ∨ (o_s.1 2) = 1) ∧ ((o_s.1 3) = 0 ∨ (o_s.1 3) = 1)) : wp_X5_copyFrom s o_s (fun o0 => Eq5 o0 o_s) := by
  unfold wp_X5_copyFrom
  exact ⟨p0.1, p0.2, ⟨rfl, rfl, rfl, rfl, rfl, rfl, rfl, rfl, rfl, rfl, rfl, rfl, rfl, rfl, rfl⟩, rfl, rfl, rfl, rfl, rfl, rfl, rfl, rfl, rfl, rfl⟩
