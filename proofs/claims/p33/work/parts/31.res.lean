theorem riZ_pos2 {z : Int → Int} (h3 : 0 ≤ z 3) {r : Int} (h0 : 0 ≤ r) (h : r < z 3) (hp : 11 ≤ z (250 + r) ∧ z (250 + r) % 2 = 1) : 0 < riZ z := by
  unfold riZ
  have a : sumI (fun r => pz (11 ≤ z (250 + r) ∧ z (250 + r) % 2 = 1)) (r + 1).toNat ≤ sumI (fun r => pz (11 ≤ z (250 + r) ∧ z (250 + r) % 2 = 1)) (z 3).toNat := sumI_mono (fun _ => pz_nn _) (by omega)
  have b : sumI (fun r => pz (11 ≤ z (250 + r) ∧ z (250 + r) % 2 = 1)) (r + 1).toNat = sumI (fun r => pz (11 ≤ z (250 + r) ∧ z (250 + r) % 2 = 1)) r.toNat + pz (11 ≤ z (250 + r) ∧ z (250 + r) % 2 = 1) := sumI_S h0
  have c := sumI_mono (f := fun r => pz (11 ≤ z (250 + r) ∧ z (250 + r) % 2 = 1)) (fun _ => pz_nn _) (m := 0) (n := r.toNat) (by omega)
  rw [pz_t hp] at b
  have d : sumI (fun r => pz (11 ≤ z (250 + r) ∧ z (250 + r) % 2 = 1)) 0 = 0 := rfl
  omega
