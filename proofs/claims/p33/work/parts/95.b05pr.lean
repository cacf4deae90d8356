set_option maxRecDepth 100000 in
def wp_L_run (f_x : Int → Int) (n_x : Int → Int) (l_x : Int → Int) (d_x : Int → Int) (m_x : Int → Int) (k_x : Int → Int) (c_x : Int → Int) (t_x : Int → Int)  (P : Int → (Int → Int) → (Int → Int) → (Int → Int) → (Int → Int) → (Int → Int) → (Int → Int) → Prop) : Prop :=
  (((t_x 2) = 1) → (∃ (g186 : Int → Int), (LV f_x n_x l_x d_x m_x k_x t_x g186) ∧ ((Vb g186) ∧ ((g186 5 = 0 ∧ g186 4 + 1 ≤ 900000000 ∧ 0 ≤ g186 7 ∧ g186 7 + 120 ≤ 2000000000) ∧ (∀ (z200 : Int) (u_f_x194 : Int → Int) (u_n_x195 : Int → Int) (u_l_x196 : Int → Int) (u_d_x197 : Int → Int) (u_t_x198 : Int → Int), rg z200 → rgA u_f_x194 → rgA u_n_x195 → rgA u_l_x196 → rgA u_d_x197 → rgA u_t_x198 → (z200 = (if rowsAt g186 1 = 0 then -6 else g186 4) ∧ LV u_f_x194 u_n_x195 u_l_x196 u_d_x197 m_x k_x u_t_x198 (wriZ g186)) → (∃ (I205 : (Int → Int) → (Int → Int) → (Int → Int) → (Int → Int) → (Int → Int) → (Int → Int) → Prop) (μ206 : (Int → Int) → (Int → Int) → (Int → Int) → (Int → Int) → (Int → Int) → (Int → Int) → Nat), I205 u_f_x194 u_n_x195 u_l_x196 u_d_x197 c_x (uZ u_t_x198 2 0) ∧ ∀ (x0_204 : Int → Int) (x1_204 : Int → Int) (x2_204 : Int → Int) (x3_204 : Int → Int) (x6_204 : Int → Int) (x7_204 : Int → Int), rgA x0_204 → rgA x1_204 → rgA x2_204 → rgA x3_204 → rgA x6_204 → rgA x7_204 → I205 x0_204 x1_204 x2_204 x3_204 x6_204 x7_204 → ((((x7_204 5) = 1) → ((((x7_204 5) = 0) → ((2 ≤ (x7_204 0) ∧ (x7_204 0) ≤ 20) ∧ ((((waysZ (x7_204 0)) < 2) → (P (-3) x0_204 x1_204 x2_204 x3_204 x6_204 x7_204)) ∧ ((¬ ((waysZ (x7_204 0)) < 2)) → (∃ (g253 : Int → Int) (g254 : Int → Int) (g255 : Int → Int) (g256 : Int → Int), (LV g253 x1_204 x2_204 x3_204 g254 g255 x7_204 g256) ∧ ((Vz g256) ∧ ((g256 5 = 0 ∧ g256 2 = 0 ∧ 2 ≤ begN g256 ∧ g256 8 + 1 ≤ 2000000000) ∧ (∀ (u_n_x264 : Int → Int) (u_l_x265 : Int → Int) (u_d_x266 : Int → Int) (u_t_x267 : Int → Int), rgA u_n_x264 → rgA u_l_x265 → rgA u_d_x266 → rgA u_t_x267 → (LV g253 u_n_x264 u_l_x265 u_d_x266 g254 g255 u_t_x267 (begZ g256)) → (∃ (g272 : Int → Int) (g273 : Int → Int), (LV x0_204 u_n_x264 u_l_x265 u_d_x266 g272 k_x u_t_x267 g273) ∧ ((LC x6_204 g273) ∧ ((Vz g273) ∧ ((g273 5 = 1 ∧ g273 4 + 1 ≤ 900000000 ∧ g273 7 + 2 ≤ 2000000000) ∧ (∀ (u_f_x283 : Int → Int) (u_n_x284 : Int → Int) (u_l_x285 : Int → Int) (u_d_x286 : Int → Int) (u_c_x287 : Int → Int) (u_t_x288 : Int → Int), rgA u_f_x283 → rgA u_n_x284 → rgA u_l_x285 → rgA u_d_x286 → rgA u_c_x287 → rgA u_t_x288 → (LV u_f_x283 u_n_x284 u_l_x285 u_d_x286 g272 k_x u_t_x288 (stpZ g273) ∧ LC u_c_x287 (stpZ g273)) → (I205 u_f_x283 u_n_x284 u_l_x285 u_d_x286 u_c_x287 u_t_x288 ∧ μ206 u_f_x283 u_n_x284 u_l_x285 u_d_x286 u_c_x287 u_t_x288 < μ206 x0_204 x1_204 x2_204 x3_204 x6_204 x7_204)))))))))))))) ∧ ((¬ ((x7_204 5) = 0)) → (∃ (g220 : Int → Int) (g221 : Int → Int), (LV x0_204 x1_204 x2_204 x3_204 g220 k_x x7_204 g221) ∧ ((LC x6_204 g221) ∧ ((Vz g221) ∧ ((g221 5 = 1 ∧ g221 4 + 1 ≤ 900000000 ∧ g221 7 + 2 ≤ 2000000000) ∧ (∀ (u_f_x231 : Int → Int) (u_n_x232 : Int → Int) (u_l_x233 : Int → Int) (u_d_x234 : Int → Int) (u_c_x235 : Int → Int) (u_t_x236 : Int → Int), rgA u_f_x231 → rgA u_n_x232 → rgA u_l_x233 → rgA u_d_x234 → rgA u_c_x235 → rgA u_t_x236 → (LV u_f_x231 u_n_x232 u_l_x233 u_d_x234 g220 k_x u_t_x236 (stpZ g221) ∧ LC u_c_x235 (stpZ g221)) → (I205 u_f_x231 u_n_x232 u_l_x233 u_d_x234 u_c_x235 u_t_x236 ∧ μ206 u_f_x231 u_n_x232 u_l_x233 u_d_x234 u_c_x235 u_t_x236 < μ206 x0_204 x1_204 x2_204 x3_204 x6_204 x7_204))))))))) ∧ ((¬ ((x7_204 5) = 1)) → (((1 < (x7_204 10)) → ((((x7_204 5) = 0) → ((2 ≤ (x7_204 0) ∧ (x7_204 0) ≤ 20) ∧ ((((waysZ (x7_204 0)) < 2) → (P (-3) x0_204 x1_204 x2_204 x3_204 x6_204 x7_204)) ∧ ((¬ ((waysZ (x7_204 0)) < 2)) → (∃ (g341 : Int → Int) (g342 : Int → Int) (g343 : Int → Int) (g344 : Int → Int), (LV g341 x1_204 x2_204 x3_204 g342 g343 x7_204 g344) ∧ ((Vz g344) ∧ ((g344 5 = 0 ∧ g344 2 = 0 ∧ 2 ≤ begN g344 ∧ g344 8 + 1 ≤ 2000000000) ∧ (∀ (u_n_x352 : Int → Int) (u_l_x353 : Int → Int) (u_d_x354 : Int → Int) (u_t_x355 : Int → Int), rgA u_n_x352 → rgA u_l_x353 → rgA u_d_x354 → rgA u_t_x355 → (LV g341 u_n_x352 u_l_x353 u_d_x354 g342 g343 u_t_x355 (begZ g344)) → (∃ (g360 : Int → Int) (g361 : Int → Int), (LV x0_204 u_n_x352 u_l_x353 u_d_x354 g360 k_x u_t_x355 g361) ∧ ((LC x6_204 g361) ∧ ((Vz g361) ∧ ((g361 5 = 1 ∧ g361 4 + 1 ≤ 900000000 ∧ g361 7 + 2 ≤ 2000000000) ∧ (∀ (u_f_x371 : Int → Int) (u_n_x372 : Int → Int) (u_l_x373 : Int → Int) (u_d_x374 : Int → Int) (u_c_x375 : Int → Int) (u_t_x376 : Int → Int), rgA u_f_x371 → rgA u_n_x372 → rgA u_l_x373 → rgA u_d_x374 → rgA u_c_x375 → rgA u_t_x376 → (LV u_f_x371 u_n_x372 u_l_x373 u_d_x374 g360 k_x u_t_x376 (stpZ g361) ∧ LC u_c_x375 (stpZ g361)) → (I205 u_f_x371 u_n_x372 u_l_x373 u_d_x374 u_c_x375 u_t_x376 ∧ μ206 u_f_x371 u_n_x372 u_l_x373 u_d_x374 u_c_x375 u_t_x376 < μ206 x0_204 x1_204 x2_204 x3_204 x6_204 x7_204)))))))))))))) ∧ ((¬ ((x7_204 5) = 0)) → (∃ (g308 : Int → Int) (g309 : Int → Int), (LV x0_204 x1_204 x2_204 x3_204 g308 k_x x7_204 g309) ∧ ((LC x6_204 g309) ∧ ((Vz g309) ∧ ((g309 5 = 1 ∧ g309 4 + 1 ≤ 900000000 ∧ g309 7 + 2 ≤ 2000000000) ∧ (∀ (u_f_x319 : Int → Int) (u_n_x320 : Int → Int) (u_l_x321 : Int → Int) (u_d_x322 : Int → Int) (u_c_x323 : Int → Int) (u_t_x324 : Int → Int), rgA u_f_x319 → rgA u_n_x320 → rgA u_l_x321 → rgA u_d_x322 → rgA u_c_x323 → rgA u_t_x324 → (LV u_f_x319 u_n_x320 u_l_x321 u_d_x322 g308 k_x u_t_x324 (stpZ g309) ∧ LC u_c_x323 (stpZ g309)) → (I205 u_f_x319 u_n_x320 u_l_x321 u_d_x322 u_c_x323 u_t_x324 ∧ μ206 u_f_x319 u_n_x320 u_l_x321 u_d_x322 u_c_x323 u_t_x324 < μ206 x0_204 x1_204 x2_204 x3_204 x6_204 x7_204))))))))) ∧ ((¬ (1 < (x7_204 10))) → (rg ((x7_204 8) - (u_t_x198 8)) ∧ (P ((x7_204 8) - (u_t_x198 8)) x0_204 x1_204 x2_204 x3_204 x6_204 x7_204)))))))))))) ∧ ((¬ ((t_x 2) = 1)) → (∃ (I6 : (Int → Int) → (Int → Int) → (Int → Int) → (Int → Int) → (Int → Int) → (Int → Int) → Prop) (μ7 : (Int → Int) → (Int → Int) → (Int → Int) → (Int → Int) → (Int → Int) → (Int → Int) → Nat), I6 f_x n_x l_x d_x c_x t_x ∧ ∀ (x0_5 : Int → Int) (x1_5 : Int → Int) (x2_5 : Int → Int) (x3_5 : Int → Int) (x6_5 : Int → Int) (x7_5 : Int → Int), rgA x0_5 → rgA x1_5 → rgA x2_5 → rgA x3_5 → rgA x6_5 → rgA x7_5 → I6 x0_5 x1_5 x2_5 x3_5 x6_5 x7_5 → ((((x7_5 5) = 1) → ((((x7_5 5) = 0) → ((2 ≤ (x7_5 0) ∧ (x7_5 0) ≤ 20) ∧ ((((waysZ (x7_5 0)) < 2) → (P (-3) x0_5 x1_5 x2_5 x3_5 x6_5 x7_5)) ∧ ((¬ ((waysZ (x7_5 0)) < 2)) → (∃ (g54 : Int → Int) (g55 : Int → Int) (g56 : Int → Int) (g57 : Int → Int), (LV g54 x1_5 x2_5 x3_5 g55 g56 x7_5 g57) ∧ ((Vz g57) ∧ ((g57 5 = 0 ∧ g57 2 = 0 ∧ 2 ≤ begN g57 ∧ g57 8 + 1 ≤ 2000000000) ∧ (∀ (u_n_x65 : Int → Int) (u_l_x66 : Int → Int) (u_d_x67 : Int → Int) (u_t_x68 : Int → Int), rgA u_n_x65 → rgA u_l_x66 → rgA u_d_x67 → rgA u_t_x68 → (LV g54 u_n_x65 u_l_x66 u_d_x67 g55 g56 u_t_x68 (begZ g57)) → (∃ (g73 : Int → Int) (g74 : Int → Int), (LV x0_5 u_n_x65 u_l_x66 u_d_x67 g73 k_x u_t_x68 g74) ∧ ((LC x6_5 g74) ∧ ((Vz g74) ∧ ((g74 5 = 1 ∧ g74 4 + 1 ≤ 900000000 ∧ g74 7 + 2 ≤ 2000000000) ∧ (∀ (u_f_x84 : Int → Int) (u_n_x85 : Int → Int) (u_l_x86 : Int → Int) (u_d_x87 : Int → Int) (u_c_x88 : Int → Int) (u_t_x89 : Int → Int), rgA u_f_x84 → rgA u_n_x85 → rgA u_l_x86 → rgA u_d_x87 → rgA u_c_x88 → rgA u_t_x89 → (LV u_f_x84 u_n_x85 u_l_x86 u_d_x87 g73 k_x u_t_x89 (stpZ g74) ∧ LC u_c_x88 (stpZ g74)) → (I6 u_f_x84 u_n_x85 u_l_x86 u_d_x87 u_c_x88 u_t_x89 ∧ μ7 u_f_x84 u_n_x85 u_l_x86 u_d_x87 u_c_x88 u_t_x89 < μ7 x0_5 x1_5 x2_5 x3_5 x6_5 x7_5)))))))))))))) ∧ ((¬ ((x7_5 5) = 0)) → (∃ (g21 : Int → Int) (g22 : Int → Int), (LV x0_5 x1_5 x2_5 x3_5 g21 k_x x7_5 g22) ∧ ((LC x6_5 g22) ∧ ((Vz g22) ∧ ((g22 5 = 1 ∧ g22 4 + 1 ≤ 900000000 ∧ g22 7 + 2 ≤ 2000000000) ∧ (∀ (u_f_x32 : Int → Int) (u_n_x33 : Int → Int) (u_l_x34 : Int → Int) (u_d_x35 : Int → Int) (u_c_x36 : Int → Int) (u_t_x37 : Int → Int), rgA u_f_x32 → rgA u_n_x33 → rgA u_l_x34 → rgA u_d_x35 → rgA u_c_x36 → rgA u_t_x37 → (LV u_f_x32 u_n_x33 u_l_x34 u_d_x35 g21 k_x u_t_x37 (stpZ g22) ∧ LC u_c_x36 (stpZ g22)) → (I6 u_f_x32 u_n_x33 u_l_x34 u_d_x35 u_c_x36 u_t_x37 ∧ μ7 u_f_x32 u_n_x33 u_l_x34 u_d_x35 u_c_x36 u_t_x37 < μ7 x0_5 x1_5 x2_5 x3_5 x6_5 x7_5))))))))) ∧ ((¬ ((x7_5 5) = 1)) → (((1 < (x7_5 10)) → ((((x7_5 5) = 0) → ((2 ≤ (x7_5 0) ∧ (x7_5 0) ≤ 20) ∧ ((((waysZ (x7_5 0)) < 2) → (P (-3) x0_5 x1_5 x2_5 x3_5 x6_5 x7_5)) ∧ ((¬ ((waysZ (x7_5 0)) < 2)) → (∃ (g142 : Int → Int) (g143 : Int → Int) (g144 : Int → Int) (g145 : Int → Int), (LV g142 x1_5 x2_5 x3_5 g143 g144 x7_5 g145) ∧ ((Vz g145) ∧ ((g145 5 = 0 ∧ g145 2 = 0 ∧ 2 ≤ begN g145 ∧ g145 8 + 1 ≤ 2000000000) ∧ (∀ (u_n_x153 : Int → Int) (u_l_x154 : Int → Int) (u_d_x155 : Int → Int) (u_t_x156 : Int → Int), rgA u_n_x153 → rgA u_l_x154 → rgA u_d_x155 → rgA u_t_x156 → (LV g142 u_n_x153 u_l_x154 u_d_x155 g143 g144 u_t_x156 (begZ g145)) → (∃ (g161 : Int → Int) (g162 : Int → Int), (LV x0_5 u_n_x153 u_l_x154 u_d_x155 g161 k_x u_t_x156 g162) ∧ ((LC x6_5 g162) ∧ ((Vz g162) ∧ ((g162 5 = 1 ∧ g162 4 + 1 ≤ 900000000 ∧ g162 7 + 2 ≤ 2000000000) ∧ (∀ (u_f_x172 : Int → Int) (u_n_x173 : Int → Int) (u_l_x174 : Int → Int) (u_d_x175 : Int → Int) (u_c_x176 : Int → Int) (u_t_x177 : Int → Int), rgA u_f_x172 → rgA u_n_x173 → rgA u_l_x174 → rgA u_d_x175 → rgA u_c_x176 → rgA u_t_x177 → (LV u_f_x172 u_n_x173 u_l_x174 u_d_x175 g161 k_x u_t_x177 (stpZ g162) ∧ LC u_c_x176 (stpZ g162)) → (I6 u_f_x172 u_n_x173 u_l_x174 u_d_x175 u_c_x176 u_t_x177 ∧ μ7 u_f_x172 u_n_x173 u_l_x174 u_d_x175 u_c_x176 u_t_x177 < μ7 x0_5 x1_5 x2_5 x3_5 x6_5 x7_5)))))))))))))) ∧ ((¬ ((x7_5 5) = 0)) → (∃ (g109 : Int → Int) (g110 : Int → Int), (LV x0_5 x1_5 x2_5 x3_5 g109 k_x x7_5 g110) ∧ ((LC x6_5 g110) ∧ ((Vz g110) ∧ ((g110 5 = 1 ∧ g110 4 + 1 ≤ 900000000 ∧ g110 7 + 2 ≤ 2000000000) ∧ (∀ (u_f_x120 : Int → Int) (u_n_x121 : Int → Int) (u_l_x122 : Int → Int) (u_d_x123 : Int → Int) (u_c_x124 : Int → Int) (u_t_x125 : Int → Int), rgA u_f_x120 → rgA u_n_x121 → rgA u_l_x122 → rgA u_d_x123 → rgA u_c_x124 → rgA u_t_x125 → (LV u_f_x120 u_n_x121 u_l_x122 u_d_x123 g109 k_x u_t_x125 (stpZ g110) ∧ LC u_c_x124 (stpZ g110)) → (I6 u_f_x120 u_n_x121 u_l_x122 u_d_x123 u_c_x124 u_t_x125 ∧ μ7 u_f_x120 u_n_x121 u_l_x122 u_d_x123 u_c_x124 u_t_x125 < μ7 x0_5 x1_5 x2_5 x3_5 x6_5 x7_5))))))))) ∧ ((¬ (1 < (x7_5 10))) → (rg ((x7_5 8) - (t_x 8)) ∧ (P ((x7_5 8) - (t_x 8)) x0_5 x1_5 x2_5 x3_5 x6_5 x7_5))))))))
set_option maxRecDepth 100000 in
set_option maxHeartbeats 4000000 in
theorem sp_L_run (f_x : Int → Int) (n_x : Int → Int) (l_x : Int → Int) (d_x : Int → Int) (m_x : Int → Int) (k_x : Int → Int) (c_x : Int → Int) (t_x : Int → Int)  (z : Int → Int) (r_f_x : rgA f_x) (r_n_x : rgA n_x) (r_l_x : rgA l_x) (r_d_x : rgA d_x) (r_m_x : rgA m_x) (r_k_x : rgA k_x) (r_c_x : rgA c_x) (r_t_x : rgA t_x)  (p0 : LV f_x n_x l_x d_x m_x k_x t_x z) (p1 : LC c_x z) (p2 : Vz z) (p3 : Bd z 50000) : wp_L_run f_x n_x l_x d_x m_x k_x c_x t_x (fun r f_x' n_x' l_x' d_x' c_x' t_x' => (crZ z ∧ ∃ y, AllZ (finZ z) y ∧ r = y 8 - z 8 ∧ LV f_x' n_x' l_x' d_x' m_x k_x t_x' y ∧ LC c_x' y) ∨ (¬ crZ z ∧ r = -3)) := by
  unfold wp_L_run
  obtain ⟨B4, B7, B8, B9⟩ := p3
  have hb := p2.1
  have hz3 := hb.1
  have hz4 := hb.2.2.1
  have h120 := hb.2.1
  have p2' := p2
  obtain ⟨_, ⟨v0, v1, v2, v5, v6, v7, v8, v9⟩, _, _, vc, vm, _, _, _, _⟩ := p2'
  have ⟨⟨t0, t1, t2, t3, t4, t5, t7, t8, t9, t6⟩, _, hm, _⟩ := p0
  have hr := RMm_len hm hz3
  have rle := rowsAt_le (p := 1) hz3
  have hf := finZ_Vz p2 (by omega)
  have w3 : wriZ z 3 = z 3 := wriZ_lo (by omega) (by omega) (by omega)
  have fl : ∀ i, i < 250 → i ≠ 2 → i ≠ 4 → i ≠ 7 → finZ z i = z i := fun i a b e g => by
    unfold finZ
    rw [uZ_ne b]; exact wriZ_lo a e g
  have f3 := fl 3 (by omega) (by omega) (by omega) (by omega)
  have f5 := fl 5 (by omega) (by omega) (by omega) (by omega)
  have f0 := fl 0 (by omega) (by omega) (by omega) (by omega)
  have f8 := fl 8 (by omega) (by omega) (by omega) (by omega)
  have f2 : finZ z 2 = 0 := by unfold finZ; rw [uZ_at]
  have fu := fin_upd p2
  have fm := finZ_many hb
  have fp := phi_le hf
  have f4 : 0 ≤ finZ z 4 := hf.1.2.2.1
  have hcf : LC c_x (finZ z) := fun r a b => by
    rw [f3] at b
    rw [fl _ (by omega) (by omega) (by omega) (by omega)]; exact p1 r a b
  have i1 : crZ z → goC (finZ z) := finZ_goC p2
  have i2 : ¬ crZ z → 2 ≤ manyZ (finZ z) 0 + finZ z 5 ∧ waysZ (finZ z 0) < 2 := fun q => by
    unfold crZ at q
    rw [fm, f5, f0]
    have e : pz (z 2 = 1 ∧ 0 < rowsAt z 1 ∨ z 5 = 1) = pz (0 < rowsAt z 1) + z 5 := by
      rcases v2 with w | w
      · have := vm w
        rw [pz_f (c := 0 < rowsAt z 1) (by omega)]
        rcases v5 with u | u
        · rw [pz_f (by omega), u]; rfl
        · rw [pz_t (by omega), u]; rfl
      · have := (vc w).1
        by_cases u : 0 < rowsAt z 1
        · rw [pz_t (by omega), pz_t u]; omega
        · rw [pz_f (by omega), pz_f u]; omega
    omega
  refine ⟨fun c => ⟨z, p0, hb, ⟨(vc (by omega)).1, by omega, by omega, by omega⟩, fun z' uf un ul ud ut _ _ _ _ _ _ hw => ?A⟩, fun c => ?B⟩
  case' A =>
    have hi : LV uf un ul ud m_x k_x (uZ ut 2 0) (finZ z) := LV_noCol hw.2
    have e8 : ut 8 = z 8 := by
      have := hi.1.2.2.2.2.2.2.2.1
      rw [uZ_ne (by omega), f8] at this
      exact this
  case' B =>
    have hi : LV f_x n_x l_x d_x m_x k_x t_x (finZ z) := by rw [finZ_same (by omega) (vm (by omega))]; exact p0
    have e8 : t_x 8 = z 8 := t8
  all_goals
    refine ⟨fun f n l d c t => ∃ y, LV f n l d m_x k_x t y ∧ LC c y ∧ Vz y ∧ y 2 = 0 ∧ (∀ e, AllZ y e → AllZ (finZ z) e) ∧ (y 4 + phiZ y ≤ z 4 + 25000 ∧ y 7 + 2 * phiZ y ≤ z 7 + 50000 ∧ y 8 + phiZ y ≤ z 8 + 25000 ∧ z 8 ≤ y 8) ∧ (crZ z → goC y) ∧ (¬ crZ z → 2 ≤ manyZ y 0 + y 5 ∧ waysZ (y 0) < 2), fun _ _ _ _ _ t => (z 7 + 50001 - t 7).toNat, ⟨finZ z, hi, hcf, hf, f2, fun e q => q, ⟨by omega, by omega, by omega, by omega⟩, i1, i2⟩, ?_⟩
    intro f n l d c' t rf rn rl rd rc rt ⟨y, hL, hC, hV, y2, hA, ⟨b4, b7, b8, b8'⟩, g1, g2⟩
    have ⟨⟨s0, s1, s2, s3, s4, s5, s7, s8, s9, s6⟩, _⟩ := hL
    have hV' := hV
    obtain ⟨hbY, ⟨u0, u1, u2, u5, u6, u7, u8, u9⟩, _⟩ := hV'
    have pn := phi_nn hV
    have y3 := hbY.2.1
    -- one round
    have go : goOn y → (y 5 = 1 ∨ 2 ≤ waysZ (y 0)) → ∀ f n l d c t : Int → Int, LV f n l d m_x k_x t (oneZ y) ∧ LC c (oneZ y) → (∃ y, LV f n l d m_x k_x t y ∧ LC c y ∧ Vz y ∧ y 2 = 0 ∧ (∀ e, AllZ y e → AllZ (finZ z) e) ∧ (y 4 + phiZ y ≤ z 4 + 25000 ∧ y 7 + 2 * phiZ y ≤ z 7 + 50000 ∧ y 8 + phiZ y ≤ z 8 + 25000 ∧ z 8 ≤ y 8) ∧ (crZ z → goC y) ∧ (¬ crZ z → 2 ≤ manyZ y 0 + y 5 ∧ waysZ (y 0) < 2)) ∧ y 7 + 1 ≤ t 7 := fun hg hw f n l d c t hh => by
      obtain ⟨o1, o2, o3, o4, o5, o6, o7, o8, o9, o10⟩ := oneZ_all hV y2 hw hg (by omega)
      refine ⟨⟨oneZ y, hh.1, hh.2, o1, o10, fun e q => hA e (AllZ_step hg q), ⟨by omega, by omega, by omega, by omega⟩, fun q => (goC_one hV hg (g1 q) (by omega)).2, fun q => ?_⟩, ?_⟩
      · obtain ⟨w1, w2⟩ := g2 q
        have y5 : y 5 = 1 := by omega
        have hri : 0 < riZ y := by
          have hV' := hV
          obtain ⟨_, _, _, _, _, _, _, w, _⟩ := hV'
          exact w.mp y5
        have e1 : oneZ y = stpZ y := by unfold oneZ; rw [if_neg (by omega)]
        rw [o9, e1, stpZ_sum hV hri (by omega)]
        exact ⟨w1, w2⟩
      · have := hh.1.1.2.2.2.2.2.2.1
        have := oneZ_w7 (z := y)
        omega
    have e1 : y 5 = 1 → oneZ y = stpZ y := fun q => by unfold oneZ; rw [if_neg (by omega)]
    refine ⟨fun c5 => ⟨fun q => by omega, fun _ => ⟨m_x, y, hL, hC, hV, ⟨by omega, by omega, by omega⟩, fun uf' un' ul' ud' uc' ut' _ _ _ _ _ _ hh => ?_⟩⟩, fun c5 => ⟨fun c10 => ⟨fun c50 => ⟨by omega, fun cw => ?_, fun cw => ?_⟩, fun q => by omega⟩, fun c10 => ?_⟩⟩
    · rw [← e1 (by omega)] at hh
      have := go (Or.inl (by omega)) (Or.inl (by omega)) _ _ _ _ _ _ hh
      exact ⟨this.1, by dsimp only; omega⟩
    · refine Or.inr ⟨fun q => ?_, rfl⟩
      have my := LV_runs hbY hL (by omega)
      have := (g1 q).2
      rw [s0] at cw
      omega
    · have my := LV_runs hbY hL (by omega)
      rw [s0] at cw
      have bN : 2 ≤ begN y := by unfold begN; omega
      have bV := begZ_Vz hV y2 (by omega) (by omega)
      refine ⟨f, m_x, k_x, y, hL, hV, ⟨by omega, y2, bN, by omega⟩, fun un' ul' ud' ut' _ _ _ _ hh => ⟨m_x, begZ y, hh, fun r a b => ?_, bV, ⟨begZ_5, ?_, ?_⟩, fun uf2 un2 ul2 ud2 uc2 ut2 _ _ _ _ _ _ h2 => ?_⟩⟩
      · rw [begZ_lo hbY (by omega) (by omega) (by omega) (by omega)] at b
        rw [begZ_lo hbY (by omega) (by omega) (by omega) (by omega)]
        exact hC r a b
      · rw [begZ_lo hbY (by omega) (by omega) (by omega) (by omega)]; omega
      · rw [begZ_lo hbY (by omega) (by omega) (by omega) (by omega)]; omega
      · have e2 : oneZ y = stpZ (begZ y) := by unfold oneZ; rw [if_pos (by omega)]
        rw [← e2] at h2
        have := go (Or.inr (by omega)) (Or.inr (by omega)) _ _ _ _ _ _ h2
        exact ⟨this.1, by dsimp only; omega⟩
    · have my := LV_runs hbY hL (by omega)
      have ng : ¬ goOn y := fun q => by unfold goOn at q; omega
      rw [e8]
      refine ⟨by unfold rg; omega, Or.inl ⟨?_, y, hA y (AllZ_0 ng), by omega, hL, hC⟩⟩
      by_cases q : crZ z
      · exact q
      · have := (g2 q).1
        omega
