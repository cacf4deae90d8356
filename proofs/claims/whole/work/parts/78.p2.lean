def wp_X2_beginNumber (kd : Int) (fk : Int) (hd : Int) (va : Int) (le : Int) (mo : Int) (nk : Int) (nl : Int) (nm : Int) (P : Int → Int → Int → Int → Int → Prop) : Prop :=
  P nk 0 0 nl nm
set_option maxHeartbeats 1000000 in
theorem sp_X2_beginNumber (kd : Int) (fk : Int) (hd : Int) (va : Int) (le : Int) (mo : Int) (nk : Int) (nl : Int) (nm : Int) (r_kd : rg kd) (r_fk : rg fk) (r_hd : rg hd) (r_va : rg va) (r_le : rg le) (r_mo : rg mo) (r_nk : rg nk) (r_nl : rg nl) (r_nm : rg nm)  : wp_X2_beginNumber kd fk hd va le mo nk nl nm (fun o0 o1 o2 o3 o4 => o0 = nk ∧ o1 = 0 ∧ o2 = 0 ∧ o3 = nl ∧ o4 = nm) := by
  unfold wp_X2_beginNumber
  exact ⟨rfl, rfl, rfl, rfl, rfl⟩
def wp_X2_beginItem (kd : Int) (fk : Int) (hd : Int) (va : Int) (le : Int) (mo : Int)  (P : Int → Int → Int → Int → Int → Prop) : Prop :=
  P (0 : Int) 0 0 (0 : Int) (999 : Int)
set_option maxHeartbeats 1000000 in
theorem sp_X2_beginItem (kd : Int) (fk : Int) (hd : Int) (va : Int) (le : Int) (mo : Int)  (r_kd : rg kd) (r_fk : rg fk) (r_hd : rg hd) (r_va : rg va) (r_le : rg le) (r_mo : rg mo)   : wp_X2_beginItem kd fk hd va le mo (fun o0 o1 o2 o3 o4 => o0 = 0 ∧ o1 = 0 ∧ o2 = 0 ∧ o3 = 0 ∧ o4 = 999) := by
  unfold wp_X2_beginItem
  exact ⟨rfl, rfl, rfl, rfl, rfl⟩
def wp_X2_meets (kd : Int) (fk : Int) (hd : Int) (va : Int) (le : Int) (mo : Int) (low : Int) (high : Int) (P : Int → Prop) : Prop :=
  ((mo < low) → (P 0)) ∧ ((¬ (mo < low)) → (((high < le) → (P 0)) ∧ ((¬ (high < le)) → (P 1))))
set_option maxHeartbeats 1000000 in
theorem sp_X2_meets (kd : Int) (fk : Int) (hd : Int) (va : Int) (le : Int) (mo : Int) (low : Int) (high : Int) (r_kd : rg kd) (r_fk : rg fk) (r_hd : rg hd) (r_va : rg va) (r_le : rg le) (r_mo : rg mo) (r_low : rg low) (r_high : rg high)  : wp_X2_meets kd fk hd va le mo low high (fun z => z = (pz (low ≤ mo ∧ le ≤ high))) := by
  unfold wp_X2_meets
  (repeat' first | (refine And.intro ?_ ?_) | intro _)
  all_goals first | (exact (pz_t (by omega)).symm) | (exact (pz_f (by omega)).symm) | (unfold rg at *; omega) | omega
def wp_X2_canBegin (kd : Int) (fk : Int) (hd : Int) (va : Int) (le : Int) (mo : Int) (digits : Int) (P : Int → Prop) : Prop :=
  ((digits = 0) → (((0 < le) → (P 0)) ∧ ((¬ (0 < le)) → (P 1)))) ∧ ((¬ (digits = 0)) → (((digits ≤ mo ∧ le ≤ digits) → (P 1)) ∧ ((¬ (digits ≤ mo ∧ le ≤ digits)) → (rg (digits * 10) ∧ (rg ((digits * 10) + 9) ∧ ((((digits * 10) ≤ mo ∧ le ≤ ((digits * 10) + 9)) → (P 1)) ∧ ((¬ ((digits * 10) ≤ mo ∧ le ≤ ((digits * 10) + 9))) → (rg (digits * 100) ∧ (rg ((digits * 100) + 99) ∧ ((((digits * 100) ≤ mo ∧ le ≤ ((digits * 100) + 99)) → (P 1)) ∧ ((¬ ((digits * 100) ≤ mo ∧ le ≤ ((digits * 100) + 99))) → (P 0))))))))))))
set_option maxHeartbeats 1000000 in
theorem sp_X2_canBegin (kd : Int) (fk : Int) (hd : Int) (va : Int) (le : Int) (mo : Int) (digits : Int) (r_kd : rg kd) (r_fk : rg fk) (r_hd : rg hd) (r_va : rg va) (r_le : rg le) (r_mo : rg mo) (r_digits : rg digits) (p0 : 0 ≤ digits ∧ digits ≤ 100000) : wp_X2_canBegin kd fk hd va le mo digits (fun z => z = (pz (((digits = 0 ∧ le ≤ 0) ∨ (¬ digits = 0 ∧ ((digits ≤ mo ∧ le ≤ digits) ∨ (10 * digits ≤ mo ∧ le ≤ 10 * digits + 9) ∨ (100 * digits ≤ mo ∧ le ≤ 100 * digits + 99))))))) := by
  unfold wp_X2_canBegin
  (repeat' first | (refine And.intro ?_ ?_) | intro _)
  all_goals first | (exact (pz_t (by omega)).symm) | (exact (pz_f (by omega)).symm) | (unfold rg at *; omega) | omega
def wp_X2_isWhole (kd : Int) (fk : Int) (hd : Int) (va : Int) (le : Int) (mo : Int)  (P : Int → Prop) : Prop :=
  ((hd = 0) → (P 0)) ∧ ((¬ (hd = 0)) → (((va ≤ mo ∧ le ≤ va) → (P 1)) ∧ ((¬ (va ≤ mo ∧ le ≤ va)) → (P 0))))
set_option maxHeartbeats 1000000 in
theorem sp_X2_isWhole (kd : Int) (fk : Int) (hd : Int) (va : Int) (le : Int) (mo : Int)  (r_kd : rg kd) (r_fk : rg fk) (r_hd : rg hd) (r_va : rg va) (r_le : rg le) (r_mo : rg mo)  (p0 : hd = 0 ∨ hd = 1) : wp_X2_isWhole kd fk hd va le mo (fun z => z = (pz (hd = 1 ∧ va ≤ mo ∧ le ≤ va))) := by
  unfold wp_X2_isWhole
  (repeat' first | (refine And.intro ?_ ?_) | intro _)
  all_goals first | (exact (pz_t (by omega)).symm) | (exact (pz_f (by omega)).symm) | (unfold rg at *; omega) | omega
def wp_X2_takeDigit (kd : Int) (fk : Int) (hd : Int) (va : Int) (le : Int) (mo : Int) (digit : Int) (P : Int → Int → Int → Prop) : Prop :=
  ((hd = 0) → (rg (va * 10) ∧ (rg ((va * 10) + digit) ∧ ((0 ≤ ((va * 10) + digit) ∧ ((va * 10) + digit) ≤ 100000) ∧ (((((((va * 10) + digit) = 0 ∧ le ≤ 0) ∨ (¬ ((va * 10) + digit) = 0 ∧ ((((va * 10) + digit) ≤ mo ∧ le ≤ ((va * 10) + digit)) ∨ (10 * ((va * 10) + digit) ≤ mo ∧ le ≤ 10 * ((va * 10) + digit) + 9) ∨ (100 * ((va * 10) + digit) ≤ mo ∧ le ≤ 100 * ((va * 10) + digit) + 99))))) → (P 1 1 ((va * 10) + digit))) ∧ ((¬ (((((va * 10) + digit) = 0 ∧ le ≤ 0) ∨ (¬ ((va * 10) + digit) = 0 ∧ ((((va * 10) + digit) ≤ mo ∧ le ≤ ((va * 10) + digit)) ∨ (10 * ((va * 10) + digit) ≤ mo ∧ le ≤ 10 * ((va * 10) + digit) + 9) ∨ (100 * ((va * 10) + digit) ≤ mo ∧ le ≤ 100 * ((va * 10) + digit) + 99)))))) → (P 0 hd va))))))) ∧ ((¬ (hd = 0)) → (((va = 0) → (P 0 hd va)) ∧ ((¬ (va = 0)) → (rg (va * 10) ∧ (rg ((va * 10) + digit) ∧ ((0 ≤ ((va * 10) + digit) ∧ ((va * 10) + digit) ≤ 100000) ∧ (((((((va * 10) + digit) = 0 ∧ le ≤ 0) ∨ (¬ ((va * 10) + digit) = 0 ∧ ((((va * 10) + digit) ≤ mo ∧ le ≤ ((va * 10) + digit)) ∨ (10 * ((va * 10) + digit) ≤ mo ∧ le ≤ 10 * ((va * 10) + digit) + 9) ∨ (100 * ((va * 10) + digit) ≤ mo ∧ le ≤ 100 * ((va * 10) + digit) + 99))))) → (P 1 1 ((va * 10) + digit))) ∧ ((¬ (((((va * 10) + digit) = 0 ∧ le ≤ 0) ∨ (¬ ((va * 10) + digit) = 0 ∧ ((((va * 10) + digit) ≤ mo ∧ le ≤ ((va * 10) + digit)) ∨ (10 * ((va * 10) + digit) ≤ mo ∧ le ≤ 10 * ((va * 10) + digit) + 9) ∨ (100 * ((va * 10) + digit) ≤ mo ∧ le ≤ 100 * ((va * 10) + digit) + 99)))))) → (P 0 hd va)))))))))
set_option maxHeartbeats 1000000 in
theorem sp_X2_takeDigit (kd : Int) (fk : Int) (hd : Int) (va : Int) (le : Int) (mo : Int) (digit : Int)  (r_kd : rg kd) (r_fk : rg fk) (r_hd : rg hd) (r_va : rg va) (r_le : rg le) (r_mo : rg mo) (r_digit : rg digit) (p0 : hd = 0 ∨ hd = 1) (p1 : (0 ≤ va ∧ va ≤ 999) ∧ 0 ≤ digit ∧ digit ≤ 9) : wp_X2_takeDigit kd fk hd va le mo digit (fun r hd' va' => (r = 1 ∧ (¬ (hd = 1 ∧ va = 0) ∧ canQ le mo (va * 10 + digit)) ∧ hd' = 1 ∧ va' = va * 10 + digit) ∨ (r = 0 ∧ ¬ (¬ (hd = 1 ∧ va = 0) ∧ canQ le mo (va * 10 + digit)) ∧ hd' = hd ∧ va' = va)) := by
  unfold wp_X2_takeDigit
  unfold canQ
  (repeat' first | (refine And.intro ?_ ?_) | intro _)
  all_goals first | (unfold rg at *; omega) | omega
def wp_X2_takeSign (kd : Int) (fk : Int) (hd : Int) (va : Int) (le : Int) (mo : Int) (code : Int) (P : Int → Int → Int → Int → Int → Int → Int → Prop) : Prop :=
  ((code = 120) → (P 1 (1 : Int) va 0 0 (2 : Int) (20 : Int))) ∧ ((¬ (code = 120)) → (((code = 45) → (((va < 999) → (rg (va + 1) ∧ (P 1 (2 : Int) va 0 0 (va + 1) (999 : Int)))) ∧ ((¬ (va < 999)) → (P 0 kd fk hd va le mo)))) ∧ ((¬ (code = 45)) → (P 0 kd fk hd va le mo))))
set_option maxHeartbeats 1000000 in
theorem sp_X2_takeSign (kd : Int) (fk : Int) (hd : Int) (va : Int) (le : Int) (mo : Int) (code : Int)  (r_kd : rg kd) (r_fk : rg fk) (r_hd : rg hd) (r_va : rg va) (r_le : rg le) (r_mo : rg mo) (r_code : rg code) (p0 : 0 ≤ va ∧ va ≤ 999) : wp_X2_takeSign kd fk hd va le mo code (fun r kd' fk' hd' va' le' mo' => (r = 1 ∧ code = 120 ∧ kd' = 1 ∧ fk' = va ∧ hd' = 0 ∧ va' = 0 ∧ le' = 2 ∧ mo' = 20) ∨ (r = 1 ∧ code = 45 ∧ va < 999 ∧ kd' = 2 ∧ fk' = va ∧ hd' = 0 ∧ va' = 0 ∧ le' = va + 1 ∧ mo' = 999) ∨ (r = 0 ∧ ¬ (code = 120 ∨ (code = 45 ∧ va < 999)) ∧ kd' = kd ∧ fk' = fk ∧ hd' = hd ∧ va' = va ∧ le' = le ∧ mo' = mo)) := by
  unfold wp_X2_takeSign
  refine ⟨fun c => Or.inl ⟨rfl, c, rfl, rfl, rfl, rfl, rfl, rfl⟩, fun c => ⟨fun d => ⟨fun e => ⟨by unfold rg; omega, Or.inr (Or.inl ⟨rfl, d, e, rfl, rfl, rfl, rfl, rfl, rfl⟩)⟩, fun e => Or.inr (Or.inr ⟨rfl, by omega, rfl, rfl, rfl, rfl, rfl, rfl⟩)⟩, fun d => Or.inr (Or.inr ⟨rfl, by omega, rfl, rfl, rfl, rfl, rfl, rfl⟩)⟩⟩
def wp_X2_take (kd : Int) (fk : Int) (hd : Int) (va : Int) (le : Int) (mo : Int) (code : Int) (P : Int → Int → Int → Int → Int → Int → Int → Prop) : Prop :=
  ((code < 48) → ((hd = 0 ∨ hd = 1) ∧ (((hd = 1 ∧ va ≤ mo ∧ le ≤ va) → (((code = 44) → (P 1 0 fk 0 0 0 999)) ∧ ((¬ (code = 44)) → (((kd = 0) → ((0 ≤ va ∧ va ≤ 999) ∧ (∀ (z31 : Int) (u_kd24 : Int) (u_fk25 : Int) (u_hd26 : Int) (u_va27 : Int) (u_le28 : Int) (u_mo29 : Int), rg z31 → rg u_kd24 → rg u_fk25 → rg u_hd26 → rg u_va27 → rg u_le28 → rg u_mo29 → ((z31 = 1 ∧ code = 120 ∧ u_kd24 = 1 ∧ u_fk25 = va ∧ u_hd26 = 0 ∧ u_va27 = 0 ∧ u_le28 = 2 ∧ u_mo29 = 20) ∨ (z31 = 1 ∧ code = 45 ∧ va < 999 ∧ u_kd24 = 2 ∧ u_fk25 = va ∧ u_hd26 = 0 ∧ u_va27 = 0 ∧ u_le28 = va + 1 ∧ u_mo29 = 999) ∨ (z31 = 0 ∧ ¬ (code = 120 ∨ (code = 45 ∧ va < 999)) ∧ u_kd24 = kd ∧ u_fk25 = fk ∧ u_hd26 = hd ∧ u_va27 = va ∧ u_le28 = le ∧ u_mo29 = mo)) → ((z31 = 0 ∨ z31 = 1) ∧ (P z31 u_kd24 u_fk25 u_hd26 u_va27 u_le28 u_mo29))))) ∧ ((¬ (kd = 0)) → (P 0 kd fk hd va le mo)))))) ∧ ((¬ (hd = 1 ∧ va ≤ mo ∧ le ≤ va)) → (P 0 kd fk hd va le mo))))) ∧ ((¬ (code < 48)) → (((57 < code) → ((hd = 0 ∨ hd = 1) ∧ (((hd = 1 ∧ va ≤ mo ∧ le ≤ va) → (((code = 44) → (P 1 0 fk 0 0 0 999)) ∧ ((¬ (code = 44)) → (((kd = 0) → ((0 ≤ va ∧ va ≤ 999) ∧ (∀ (z78 : Int) (u_kd71 : Int) (u_fk72 : Int) (u_hd73 : Int) (u_va74 : Int) (u_le75 : Int) (u_mo76 : Int), rg z78 → rg u_kd71 → rg u_fk72 → rg u_hd73 → rg u_va74 → rg u_le75 → rg u_mo76 → ((z78 = 1 ∧ code = 120 ∧ u_kd71 = 1 ∧ u_fk72 = va ∧ u_hd73 = 0 ∧ u_va74 = 0 ∧ u_le75 = 2 ∧ u_mo76 = 20) ∨ (z78 = 1 ∧ code = 45 ∧ va < 999 ∧ u_kd71 = 2 ∧ u_fk72 = va ∧ u_hd73 = 0 ∧ u_va74 = 0 ∧ u_le75 = va + 1 ∧ u_mo76 = 999) ∨ (z78 = 0 ∧ ¬ (code = 120 ∨ (code = 45 ∧ va < 999)) ∧ u_kd71 = kd ∧ u_fk72 = fk ∧ u_hd73 = hd ∧ u_va74 = va ∧ u_le75 = le ∧ u_mo76 = mo)) → ((z78 = 0 ∨ z78 = 1) ∧ (P z78 u_kd71 u_fk72 u_hd73 u_va74 u_le75 u_mo76))))) ∧ ((¬ (kd = 0)) → (P 0 kd fk hd va le mo)))))) ∧ ((¬ (hd = 1 ∧ va ≤ mo ∧ le ≤ va)) → (P 0 kd fk hd va le mo))))) ∧ ((¬ (57 < code)) → (rg (code - 48) ∧ ((hd = 0 ∨ hd = 1) ∧ (((0 ≤ va ∧ va ≤ 999) ∧ 0 ≤ (code - 48) ∧ (code - 48) ≤ 9) ∧ (∀ (z104 : Int) (u_hd101 : Int) (u_va102 : Int), rg z104 → rg u_hd101 → rg u_va102 → ((z104 = 1 ∧ (¬ (hd = 1 ∧ va = 0) ∧ canQ le mo (va * 10 + (code - 48))) ∧ u_hd101 = 1 ∧ u_va102 = va * 10 + (code - 48)) ∨ (z104 = 0 ∧ ¬ (¬ (hd = 1 ∧ va = 0) ∧ canQ le mo (va * 10 + (code - 48))) ∧ u_hd101 = hd ∧ u_va102 = va)) → ((z104 = 0 ∨ z104 = 1) ∧ (P z104 kd fk u_hd101 u_va102 le mo)))))))))
set_option maxHeartbeats 1000000 in
theorem sp_X2_take (kd : Int) (fk : Int) (hd : Int) (va : Int) (le : Int) (mo : Int) (code : Int) (a : AT) (r_kd : rg kd) (r_fk : rg fk) (r_hd : rg hd) (r_va : rg va) (r_le : rg le) (r_mo : rg mo) (r_code : rg code) (p0 : RA kd fk hd va le mo a) (p1 : 0 ≤ va ∧ va ≤ 999) : wp_X2_take kd fk hd va le mo code (fun r kd' fk' hd' va' le' mo' => (r = 1 ∧ accA a code ∧ RA kd' fk' hd' va' le' mo' (nxA a code)) ∨ (r = 0 ∧ ¬ accA a code ∧ RA kd' fk' hd' va' le' mo' a)) := by
  unfold wp_X2_take
  have self := p0
  obtain ⟨k, f, h, v⟩ := a
  obtain ⟨⟨e1, e2, e3, e4, e5, e6⟩, e7, e8⟩ := p0
  have e1' : kd = k := e1
  have e4' : hd = h := e4
  have e5' : va = v := e5
  subst e1'
  subst e4'
  subst e5'
  have em : mnQ kd f = le := by
    rw [e7]
    by_cases w : kd = 0
    · rw [w, mnQ_0, mnQ_0]
    · rw [e3 w]
  refine ⟨fun c => ?_, fun c => ⟨fun d => ?_, fun d => ?_⟩⟩
  iterate 2
    · have nn : ¬ (48 ≤ code ∧ code ≤ 57) := by omega
      have N := acc_non (kd := kd) (fk := f) (hd := hd) (va := va) nn
      unfold whQ at N
      rw [em, ← e8] at N
      refine ⟨e6, fun w => ⟨fun g => Or.inl ⟨rfl, N.mpr ⟨w, Or.inl g⟩, ?_⟩, fun g => ⟨fun k0 => ⟨p1, ?_⟩, fun k0 => Or.inr ⟨rfl, fun q => ?_, self⟩⟩⟩, fun w => Or.inr ⟨rfl, fun q => w (N.mp q).1, self⟩⟩
      · show RA 0 fk 0 0 0 999 (nxQ kd f va code)
        unfold nxQ
        rw [if_neg nn, if_pos g]
        exact RA_0
      · intro z k' f' h' v' l' m' _ _ _ _ _ _ _ hz
        refine ⟨by omega, ?_⟩
        rcases hz with ⟨z1, z2, z3, z4, z5, z6, z7, z8⟩ | ⟨z1, z2, z0, z3, z4, z5, z6, z7, z8⟩ | ⟨z1, z2, z3, z4, z5, z6, z7, z8⟩
        · refine Or.inl ⟨z1, N.mpr ⟨w, Or.inr ⟨k0, Or.inl z2⟩⟩, ?_⟩
          rw [z3, z4, z5, z6, z7, z8]
          show RA 1 va 0 0 2 20 (nxQ kd f va code)
          unfold nxQ
          rw [if_neg nn, if_neg g, if_pos z2]
          exact ⟨⟨rfl, Or.inr (Or.inl rfl), fun _ => rfl, rfl, rfl, Or.inl rfl⟩, mnQ_1.symm, mxQ_1.symm⟩
        · refine Or.inl ⟨z1, N.mpr ⟨w, Or.inr ⟨k0, Or.inr ⟨z2, z0⟩⟩⟩, ?_⟩
          rw [z3, z4, z5, z6, z7, z8]
          show RA 2 va 0 0 (va + 1) 999 (nxQ kd f va code)
          unfold nxQ
          rw [if_neg nn, if_neg g, if_neg (by omega)]
          exact ⟨⟨rfl, Or.inr (Or.inr rfl), fun _ => rfl, rfl, rfl, Or.inl rfl⟩, mnQ_2.symm, mxQ_2.symm⟩
        · refine Or.inr ⟨z1, fun q => ?_, by rw [z3, z4, z5, z6, z7, z8]; exact self⟩
          rcases (N.mp q).2 with y | ⟨_, y⟩
          · exact g y
          · exact z2 y
      · rcases (N.mp q).2 with y | ⟨y, _⟩
        · exact g y
        · exact k0 y
  have dd : 48 ≤ code ∧ code ≤ 57 := by omega
  have D := acc_dig (kd := kd) (fk := f) (hd := hd) (va := va) dd
  rw [em, ← e8] at D
  refine ⟨by unfold rg; omega, e6, ⟨p1, by omega, by omega⟩, ?_⟩
  intro z h' v' _ _ _ hz
  refine ⟨by omega, ?_⟩
  rcases hz with ⟨z1, z2, z3, z4⟩ | ⟨z1, z2, z3, z4⟩
  · refine Or.inl ⟨z1, D.mpr z2, ?_⟩
    show RA kd fk h' v' le mo (nxQ kd f va code)
    unfold nxQ
    rw [if_pos dd]
    exact ⟨⟨rfl, e2, e3, z3, z4, Or.inr z3⟩, e7, e8⟩
  · exact Or.inr ⟨z1, fun q => z2 (D.mp q), by rw [z3, z4]; exact self⟩
def wp_X2_rowsOfItem (kd : Int) (fk : Int) (hd : Int) (va : Int) (le : Int) (mo : Int)  (P : Int → Prop) : Prop :=
  ((kd = 1) → (P va)) ∧ (((kd = 2) → (rg (va - fk) ∧ (rg ((va - fk) + 1) ∧ (P ((va - fk) + 1))))) ∧ ((((¬ kd = 1 ∧ ¬ kd = 2)) → (P 1))))
set_option maxHeartbeats 1000000 in
theorem sp_X2_rowsOfItem (kd : Int) (fk : Int) (hd : Int) (va : Int) (le : Int) (mo : Int)  (r_kd : rg kd) (r_fk : rg fk) (r_hd : rg hd) (r_va : rg va) (r_le : rg le) (r_mo : rg mo)  (p0 : -1000 ≤ va ∧ va ≤ 1000 ∧ -1000 ≤ fk ∧ fk ≤ 1000 ∨ kd = 0) : wp_X2_rowsOfItem kd fk hd va le mo (fun z => z = (if kd = 1 then va else if kd = 2 then va - fk + 1 else 1)) := by
  unfold wp_X2_rowsOfItem
  refine ⟨fun c => by rw [if_pos c], fun c => ⟨by unfold rg; omega, by unfold rg; omega, by rw [if_neg (by omega), if_pos c]⟩, fun c => by rw [if_neg c.1, if_neg c.2]⟩
def wp_X2_keyOfItem (kd : Int) (fk : Int) (hd : Int) (va : Int) (le : Int) (mo : Int) (index : Int) (P : Int → Prop) : Prop :=
  ((kd = 1) → (P fk)) ∧ (((kd = 2) → (rg (fk + index) ∧ (P (fk + index)))) ∧ ((((¬ kd = 1 ∧ ¬ kd = 2)) → (P va))))
set_option maxHeartbeats 1000000 in
theorem sp_X2_keyOfItem (kd : Int) (fk : Int) (hd : Int) (va : Int) (le : Int) (mo : Int) (index : Int) (r_kd : rg kd) (r_fk : rg fk) (r_hd : rg hd) (r_va : rg va) (r_le : rg le) (r_mo : rg mo) (r_index : rg index) (p0 : rg (fk + index) ∨ ¬ kd = 2) : wp_X2_keyOfItem kd fk hd va le mo index (fun z => z = (if kd = 1 then fk else if kd = 2 then fk + index else va)) := by
  unfold wp_X2_keyOfItem
  refine ⟨fun c => by rw [if_pos c], fun c => ⟨p0.resolve_right (fun q => q c), by rw [if_neg (by omega), if_pos c]⟩, fun c => by rw [if_neg c.1, if_neg c.2]⟩
