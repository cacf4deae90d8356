def wp_X3_has (ke : Int → Int) (co : Int → Int) (ne : Int → Int) (to : Int) (row : Int) (P : Int → Prop) : Prop :=
  ((row < 0) → (P 0)) ∧ ((¬ (row < 0)) → (((row < to) → (P 1)) ∧ ((¬ (row < to)) → (P 0))))
set_option maxHeartbeats 1000000 in
theorem sp_X3_has (ke : Int → Int) (co : Int → Int) (ne : Int → Int) (to : Int) (row : Int) (r_ke : rgA ke) (r_co : rgA co) (r_ne : rgA ne) (r_to : rg to) (r_row : rg row)  : wp_X3_has ke co ne to row (fun z => z = (pz (0 ≤ row ∧ row < to))) := by
  unfold wp_X3_has
  (repeat' first | (refine And.intro ?_ ?_) | intro _)
  all_goals first | rfl | assumption | omega | (unfold rg at *; omega) | (exact (pz_t (by omega)).symm) | (exact (pz_f (by omega)).symm)
def wp_X3_hasRoom (ke : Int → Int) (co : Int → Int) (ne : Int → Int) (to : Int)  (P : Int → Prop) : Prop :=
  ((to < 0) → (P 0)) ∧ ((¬ (to < 0)) → (((to < 120) → (P 1)) ∧ ((¬ (to < 120)) → (P 0))))
set_option maxHeartbeats 1000000 in
theorem sp_X3_hasRoom (ke : Int → Int) (co : Int → Int) (ne : Int → Int) (to : Int)  (r_ke : rgA ke) (r_co : rgA co) (r_ne : rgA ne) (r_to : rg to)   : wp_X3_hasRoom ke co ne to (fun z => z = (pz (0 ≤ to ∧ to < 120))) := by
  unfold wp_X3_hasRoom
  (repeat' first | (refine And.intro ?_ ?_) | intro _)
  all_goals first | rfl | assumption | omega | (unfold rg at *; omega) | (exact (pz_t (by omega)).symm) | (exact (pz_f (by omega)).symm)
def wp_X3_put (ke : Int → Int) (co : Int → Int) (ne : Int → Int) (to : Int) (key : Int) (P : Int → (Int → Int) → (Int → Int) → (Int → Int) → Int → Prop) : Prop :=
  ((0 ≤ to ∧ to < 120) → ((0 ≤ to ∧ to < 120) ∧ (rg (to + 1) ∧ (P to (uZ ke to key) (uZ co to 1) (uZ ne to (-1)) (to + 1))))) ∧ ((¬ (0 ≤ to ∧ to < 120)) → (P (-1) ke co ne to))
set_option maxHeartbeats 1000000 in
theorem sp_X3_put (ke : Int → Int) (co : Int → Int) (ne : Int → Int) (to : Int) (key : Int) (r_ke : rgA ke) (r_co : rgA co) (r_ne : rgA ne) (r_to : rg to) (r_key : rg key) (p0 : 0 ≤ to ∧ to < 120) : wp_X3_put ke co ne to key (fun z o0 o1 o2 o3 => z = to ∧ o0 = (uZ ke to key) ∧ o1 = (uZ co to 1) ∧ o2 = (uZ ne to (-1)) ∧ o3 = (to + 1)) := by
  unfold wp_X3_put
  (repeat' first | (refine And.intro ?_ ?_) | intro _)
  all_goals first | rfl | assumption | omega | (unfold rg at *; omega) | (exact (pz_t (by omega)).symm) | (exact (pz_f (by omega)).symm)
def wp_X3_keyOf (ke : Int → Int) (co : Int → Int) (ne : Int → Int) (to : Int) (row : Int) (P : Int → Prop) : Prop :=
  ((row < 0) → (P (-1))) ∧ ((¬ (row < 0)) → (((row < 120) → ((0 ≤ row ∧ row < 120) ∧ (P (ke row)))) ∧ ((¬ (row < 120)) → (P (-1)))))
set_option maxHeartbeats 1000000 in
theorem sp_X3_keyOf (ke : Int → Int) (co : Int → Int) (ne : Int → Int) (to : Int) (row : Int) (r_ke : rgA ke) (r_co : rgA co) (r_ne : rgA ne) (r_to : rg to) (r_row : rg row) (p0 : 0 ≤ row ∧ row < 120) : wp_X3_keyOf ke co ne to row (fun z => z = (ke row)) := by
  unfold wp_X3_keyOf
  (repeat' first | (refine And.intro ?_ ?_) | intro _)
  all_goals first | rfl | assumption | omega | (unfold rg at *; omega) | (exact (pz_t (by omega)).symm) | (exact (pz_f (by omega)).symm)
def wp_X3_countOf (ke : Int → Int) (co : Int → Int) (ne : Int → Int) (to : Int) (row : Int) (P : Int → Prop) : Prop :=
  ((row < 0) → (P 0)) ∧ ((¬ (row < 0)) → (((row < 120) → ((0 ≤ row ∧ row < 120) ∧ (P (co row)))) ∧ ((¬ (row < 120)) → (P 0))))
set_option maxHeartbeats 1000000 in
theorem sp_X3_countOf (ke : Int → Int) (co : Int → Int) (ne : Int → Int) (to : Int) (row : Int) (r_ke : rgA ke) (r_co : rgA co) (r_ne : rgA ne) (r_to : rg to) (r_row : rg row) (p0 : 0 ≤ row ∧ row < 120) : wp_X3_countOf ke co ne to row (fun z => z = (co row)) := by
  unfold wp_X3_countOf
  (repeat' first | (refine And.intro ?_ ?_) | intro _)
  all_goals first | rfl | assumption | omega | (unfold rg at *; omega) | (exact (pz_t (by omega)).symm) | (exact (pz_f (by omega)).symm)
def wp_X3_nextOf (ke : Int → Int) (co : Int → Int) (ne : Int → Int) (to : Int) (row : Int) (P : Int → Prop) : Prop :=
  ((row < 0) → (P (-1))) ∧ ((¬ (row < 0)) → (((row < 120) → ((0 ≤ row ∧ row < 120) ∧ (P (ne row)))) ∧ ((¬ (row < 120)) → (P (-1)))))
set_option maxHeartbeats 1000000 in
theorem sp_X3_nextOf (ke : Int → Int) (co : Int → Int) (ne : Int → Int) (to : Int) (row : Int) (r_ke : rgA ke) (r_co : rgA co) (r_ne : rgA ne) (r_to : rg to) (r_row : rg row) (p0 : 0 ≤ row ∧ row < 120) : wp_X3_nextOf ke co ne to row (fun z => z = (ne row)) := by
  unfold wp_X3_nextOf
  (repeat' first | (refine And.intro ?_ ?_) | intro _)
  all_goals first | rfl | assumption | omega | (unfold rg at *; omega) | (exact (pz_t (by omega)).symm) | (exact (pz_f (by omega)).symm)
def wp_X3_link (ke : Int → Int) (co : Int → Int) (ne : Int → Int) (to : Int) (row : Int) (next : Int) (P : (Int → Int) → Prop) : Prop :=
  ((row < 0) → (P ne)) ∧ ((¬ (row < 0)) → (((row < 120) → ((0 ≤ row ∧ row < 120) ∧ (P (uZ ne row next)))) ∧ ((¬ (row < 120)) → (P ne))))
set_option maxHeartbeats 1000000 in
theorem sp_X3_link (ke : Int → Int) (co : Int → Int) (ne : Int → Int) (to : Int) (row : Int) (next : Int) (r_ke : rgA ke) (r_co : rgA co) (r_ne : rgA ne) (r_to : rg to) (r_row : rg row) (r_next : rg next) (p0 : 0 ≤ row ∧ row < 120) : wp_X3_link ke co ne to row next (fun o0 => o0 = (uZ ne row next)) := by
  unfold wp_X3_link
  (repeat' first | (refine And.intro ?_ ?_) | intro _)
  all_goals first | rfl | assumption | omega | (unfold rg at *; omega) | (exact (pz_t (by omega)).symm) | (exact (pz_f (by omega)).symm)
def wp_X3_rowBehind (ke : Int → Int) (co : Int → Int) (ne : Int → Int) (to : Int) (first : Int) (dist : Int) (P : Int → Prop) : Prop :=
  ∃ (I2 : Int → Int → Prop) (μ3 : Int → Int → Nat), I2 first 0 ∧ ∀ (x3_1 : Int) (x4_1 : Int), rg x3_1 → rg x4_1 → I2 x3_1 x4_1 → (((x4_1 < dist) → ((0 ≤ x3_1 ∧ x3_1 < 120) ∧ (rg (x4_1 + 1) ∧ (I2 (ne x3_1) (x4_1 + 1) ∧ μ3 (ne x3_1) (x4_1 + 1) < μ3 x3_1 x4_1)))) ∧ ((¬ (x4_1 < dist)) → (P x3_1)))
set_option maxHeartbeats 1000000 in
theorem sp_X3_rowBehind (ke : Int → Int) (co : Int → Int) (ne : Int → Int) (to : Int) (first : Int) (dist : Int) (r_ke : rgA ke) (r_co : rgA co) (r_ne : rgA ne) (r_to : rg to) (r_first : rg first) (r_dist : rg dist) (p0 : ∀ j : Nat, (j : Int) < dist → 0 ≤ chn ne first j ∧ chn ne first j < 120) : wp_X3_rowBehind ke co ne to first dist (fun z => z = (chn ne first dist.toNat)) := by
  unfold wp_X3_rowBehind
  refine ⟨fun row i => 0 ≤ i ∧ (i ≤ dist ∨ i = 0) ∧ row = chn ne first i.toNat, fun row i => (dist - i).toNat, ⟨by omega, by omega, rfl⟩, ?_⟩
  intro row i rr ri ⟨h0, h1, h2⟩
  dsimp only
  refine ⟨fun c => ?_, fun c => ?_⟩
  · have h3 := p0 i.toNat (by omega)
    rw [← h2] at h3
    refine ⟨h3, ?_, ⟨by omega, by omega, ?_⟩, by omega⟩
    · unfold rg at *; omega
    · rw [show (i + 1).toNat = i.toNat + 1 by omega, chn, ← h2]
  · rw [h2, show i.toNat = dist.toNat by omega]
def wp_X3_comesBefore (ke : Int → Int) (co : Int → Int) (ne : Int → Int) (to : Int) (row : Int) (other : Int) (P : Int → Prop) : Prop :=
  ((row < 0) → (P 0)) ∧ ((¬ (row < 0)) → (((row < 120) → (((other < 0) → (P 0)) ∧ ((¬ (other < 0)) → (((other < 120) → ((0 ≤ row ∧ row < 120) ∧ ((0 ≤ other ∧ other < 120) ∧ ((((ke row) < (ke other)) → (P 1)) ∧ ((¬ ((ke row) < (ke other))) → ((((ke row) = (ke other)) → (((row < other) → (P 1)) ∧ ((¬ (row < other)) → (P 0)))) ∧ ((¬ ((ke row) = (ke other))) → (P 0)))))))) ∧ ((¬ (other < 120)) → (P 0)))))) ∧ ((¬ (row < 120)) → (P 0))))
set_option maxHeartbeats 1000000 in
theorem sp_X3_comesBefore (ke : Int → Int) (co : Int → Int) (ne : Int → Int) (to : Int) (row : Int) (other : Int) (r_ke : rgA ke) (r_co : rgA co) (r_ne : rgA ne) (r_to : rg to) (r_row : rg row) (r_other : rg other) (p0 : 0 ≤ row ∧ row < 120) (p1 : 0 ≤ other ∧ other < 120) : wp_X3_comesBefore ke co ne to row other (fun z => z = (pz (ke row < ke other ∨ ke row = ke other ∧ row < other))) := by
  unfold wp_X3_comesBefore
  (repeat' first | (refine And.intro ?_ ?_) | intro _)
  all_goals first | rfl | assumption | omega | (unfold rg at *; omega) | (exact (pz_t (by omega)).symm) | (exact (pz_f (by omega)).symm)
def wp_X3_absorb (ke : Int → Int) (co : Int → Int) (ne : Int → Int) (to : Int) (keeper : Int) (row : Int) (P : (Int → Int) → Prop) : Prop :=
  ((keeper < 0) → (P co)) ∧ ((¬ (keeper < 0)) → (((keeper < 120) → (((row < 0) → (P co)) ∧ ((¬ (row < 0)) → (((row < 120) → ((0 ≤ keeper ∧ keeper < 120) ∧ ((0 ≤ row ∧ row < 120) ∧ (rg ((co keeper) + (co row)) ∧ (P (uZ (uZ co keeper ((co keeper) + (co row))) row 0)))))) ∧ ((¬ (row < 120)) → (P co)))))) ∧ ((¬ (keeper < 120)) → (P co))))
set_option maxHeartbeats 1000000 in
theorem sp_X3_absorb (ke : Int → Int) (co : Int → Int) (ne : Int → Int) (to : Int) (keeper : Int) (row : Int) (r_ke : rgA ke) (r_co : rgA co) (r_ne : rgA ne) (r_to : rg to) (r_keeper : rg keeper) (r_row : rg row) (p0 : 0 ≤ keeper ∧ keeper < 120) (p1 : 0 ≤ row ∧ row < 120) (p2 : rg (co keeper + co row)) : wp_X3_absorb ke co ne to keeper row (fun o0 => o0 = (uZ (uZ co keeper (co keeper + co row)) row 0)) := by
  unfold wp_X3_absorb
  (repeat' first | (refine And.intro ?_ ?_) | intro _)
  all_goals first | rfl | assumption | omega | (unfold rg at *; omega) | (exact (pz_t (by omega)).symm) | (exact (pz_f (by omega)).symm)
def wp_X3_rowsKept (ke : Int → Int) (co : Int → Int) (ne : Int → Int) (to : Int)  (P : Int → Prop) : Prop :=
  ∃ (I2 : Int → Int → Prop) (μ3 : Int → Int → Nat), I2 0 0 ∧ ∀ (x1_1 : Int) (x2_1 : Int), rg x1_1 → rg x2_1 → I2 x1_1 x2_1 → (((x2_1 < to) → ((0 ≤ x2_1 ∧ x2_1 < 120) ∧ (((0 < (co x2_1)) → (rg (x1_1 + 1) ∧ (rg (x2_1 + 1) ∧ (I2 (x1_1 + 1) (x2_1 + 1) ∧ μ3 (x1_1 + 1) (x2_1 + 1) < μ3 x1_1 x2_1)))) ∧ ((¬ (0 < (co x2_1))) → (rg (x2_1 + 1) ∧ (I2 x1_1 (x2_1 + 1) ∧ μ3 x1_1 (x2_1 + 1) < μ3 x1_1 x2_1)))))) ∧ ((¬ (x2_1 < to)) → (P x1_1)))
set_option maxHeartbeats 1000000 in
theorem sp_X3_rowsKept (ke : Int → Int) (co : Int → Int) (ne : Int → Int) (to : Int)  (r_ke : rgA ke) (r_co : rgA co) (r_ne : rgA ne) (r_to : rg to)  (p0 : 0 ≤ to ∧ to ≤ 120) : wp_X3_rowsKept ke co ne to (fun z => z = (sumI (fun r => pz (0 < co r)) to.toNat)) := by
  unfold wp_X3_rowsKept
  refine ⟨fun kept row => 0 ≤ row ∧ row ≤ to ∧ kept = sumI (fun r => pz (0 < co r)) row.toNat, fun kept row => (to - row).toNat, ⟨by omega, by omega, rfl⟩, ?_⟩
  intro kept row rk rr ⟨h0, h1, h2⟩
  dsimp only
  have hb := sumI_01 (f := fun r => pz (0 < co r)) (fun r => pz_01 _) row.toNat
  have e : sumI (fun r => pz (0 < co r)) (row + 1).toNat = sumI (fun r => pz (0 < co r)) row.toNat + pz (0 < co row) := by
    rw [show (row + 1).toNat = row.toNat + 1 by omega, sumI, show ((row.toNat : Nat) : Int) = row by omega]
  refine ⟨fun c => ?_, fun c => ?_⟩
  · refine ⟨by omega, fun c2 => ?_, fun c2 => ?_⟩
    · refine ⟨by unfold rg at *; omega, by unfold rg at *; omega, ⟨by omega, by omega, ?_⟩, by omega⟩
      rw [e, pz_t c2, h2]
    · refine ⟨by unfold rg at *; omega, ⟨by omega, by omega, ?_⟩, by omega⟩
      rw [e, pz_f c2, h2]; omega
  · rw [h2, show row = to by omega]
def wp_X3_countsBelow (ke : Int → Int) (co : Int → Int) (ne : Int → Int) (to : Int) (key : Int) (P : Int → Prop) : Prop :=
  ∃ (I2 : Int → Int → Prop) (μ3 : Int → Int → Nat), I2 0 0 ∧ ∀ (x2_1 : Int) (x3_1 : Int), rg x2_1 → rg x3_1 → I2 x2_1 x3_1 → (((x3_1 < to) → ((0 ≤ x3_1 ∧ x3_1 < 120) ∧ ((((ke x3_1) < key) → (rg (x2_1 + (co x3_1)) ∧ (rg (x3_1 + 1) ∧ (I2 (x2_1 + (co x3_1)) (x3_1 + 1) ∧ μ3 (x2_1 + (co x3_1)) (x3_1 + 1) < μ3 x2_1 x3_1)))) ∧ ((¬ ((ke x3_1) < key)) → (rg (x3_1 + 1) ∧ (I2 x2_1 (x3_1 + 1) ∧ μ3 x2_1 (x3_1 + 1) < μ3 x2_1 x3_1)))))) ∧ ((¬ (x3_1 < to)) → (P x2_1)))
set_option maxHeartbeats 1000000 in
theorem sp_X3_countsBelow (ke : Int → Int) (co : Int → Int) (ne : Int → Int) (to : Int) (key : Int) (r_ke : rgA ke) (r_co : rgA co) (r_ne : rgA ne) (r_to : rg to) (r_key : rg key) (p0 : 0 ≤ to ∧ to ≤ 120) (p1 : ∀ r, 0 ≤ r → r < to → 0 ≤ co r ∧ co r ≤ 120) : wp_X3_countsBelow ke co ne to key (fun z => z = (sumI (fun r => if ke r < key then co r else 0) to.toNat)) := by
  unfold wp_X3_countsBelow
  refine ⟨fun sum row => 0 ≤ row ∧ row ≤ to ∧ sum = sumI (fun r => if ke r < key then co r else 0) row.toNat ∧ 0 ≤ sum ∧ sum ≤ 120 * row, fun sum row => (to - row).toNat, ⟨by omega, by omega, rfl, by omega, by omega⟩, ?_⟩
  intro sum row rk rr ⟨h0, h1, h2, h3, h4⟩
  dsimp only
  have e : sumI (fun r => if ke r < key then co r else 0) (row + 1).toNat = sumI (fun r => if ke r < key then co r else 0) row.toNat + (if ke row < key then co row else 0) := by
    rw [show (row + 1).toNat = row.toNat + 1 by omega, sumI, show ((row.toNat : Nat) : Int) = row by omega]
  refine ⟨fun c => ?_, fun c => ?_⟩
  · have hc := p1 row h0 c
    refine ⟨by omega, fun c2 => ?_, fun c2 => ?_⟩
    · refine ⟨by unfold rg at *; omega, by unfold rg at *; omega, ⟨by omega, by omega, ?_, by omega, by omega⟩, by omega⟩
      rw [e, if_pos c2, h2]
    · refine ⟨by unfold rg at *; omega, ⟨by omega, by omega, ?_, by omega, by omega⟩, by omega⟩
      rw [e, if_neg c2, h2]; omega
  · rw [h2, show row = to by omega]
def wp_X3_copyFrom (ke : Int → Int) (co : Int → Int) (ne : Int → Int) (to : Int) (o_ke : Int → Int) (o_co : Int → Int) (o_ne : Int → Int) (o_to : Int)  (P : (Int → Int) → (Int → Int) → (Int → Int) → Int → Prop) : Prop :=
  P o_ke o_co o_ne o_to
set_option maxHeartbeats 1000000 in
theorem sp_X3_copyFrom (ke : Int → Int) (co : Int → Int) (ne : Int → Int) (to : Int) (o_ke : Int → Int) (o_co : Int → Int) (o_ne : Int → Int) (o_to : Int)  (r_ke : rgA ke) (r_co : rgA co) (r_ne : rgA ne) (r_to : rg to) (r_o_ke : rgA o_ke) (r_o_co : rgA o_co) (r_o_ne : rgA o_ne) (r_o_to : rg o_to)   : wp_X3_copyFrom ke co ne to o_ke o_co o_ne o_to (fun o0 o1 o2 o3 => o0 = o_ke ∧ o1 = o_co ∧ o2 = o_ne ∧ o3 = o_to) := by
  unfold wp_X3_copyFrom
  (repeat' first | (refine And.intro ?_ ?_) | intro _)
  all_goals first | rfl | assumption | omega | (unfold rg at *; omega) | (exact (pz_t (by omega)).symm) | (exact (pz_f (by omega)).symm)
def wp_X4_has (nu : Int → Int) (fi : Int → Int) (le : Int → Int) (to : Int) (place : Int) (P : Int → Prop) : Prop :=
  ((place < 0) → (P 0)) ∧ ((¬ (place < 0)) → (((place < to) → (P 1)) ∧ ((¬ (place < to)) → (P 0))))
set_option maxHeartbeats 1000000 in
theorem sp_X4_has (nu : Int → Int) (fi : Int → Int) (le : Int → Int) (to : Int) (place : Int) (r_nu : rgA nu) (r_fi : rgA fi) (r_le : rgA le) (r_to : rg to) (r_place : rg place)  : wp_X4_has nu fi le to place (fun z => z = (pz (0 ≤ place ∧ place < to))) := by
  unfold wp_X4_has
  (repeat' first | (refine And.intro ?_ ?_) | intro _)
  all_goals first | rfl | assumption | omega | (unfold rg at *; omega) | (exact (pz_t (by omega)).symm) | (exact (pz_f (by omega)).symm)
def wp_X4_numberAt (nu : Int → Int) (fi : Int → Int) (le : Int → Int) (to : Int) (place : Int) (P : Int → Prop) : Prop :=
  ((place < 0) → (P (-1))) ∧ ((¬ (place < 0)) → (((place < 120) → ((0 ≤ place ∧ place < 120) ∧ (P (nu place)))) ∧ ((¬ (place < 120)) → (P (-1)))))
set_option maxHeartbeats 1000000 in
theorem sp_X4_numberAt (nu : Int → Int) (fi : Int → Int) (le : Int → Int) (to : Int) (place : Int) (r_nu : rgA nu) (r_fi : rgA fi) (r_le : rgA le) (r_to : rg to) (r_place : rg place) (p0 : 0 ≤ place ∧ place < 120) : wp_X4_numberAt nu fi le to place (fun z => z = (nu place)) := by
  unfold wp_X4_numberAt
  (repeat' first | (refine And.intro ?_ ?_) | intro _)
  all_goals first | rfl | assumption | omega | (unfold rg at *; omega) | (exact (pz_t (by omega)).symm) | (exact (pz_f (by omega)).symm)
def wp_X4_firstAt (nu : Int → Int) (fi : Int → Int) (le : Int → Int) (to : Int) (place : Int) (P : Int → Prop) : Prop :=
  ((place < 0) → (P (-1))) ∧ ((¬ (place < 0)) → (((place < 120) → ((0 ≤ place ∧ place < 120) ∧ (P (fi place)))) ∧ ((¬ (place < 120)) → (P (-1)))))
set_option maxHeartbeats 1000000 in
theorem sp_X4_firstAt (nu : Int → Int) (fi : Int → Int) (le : Int → Int) (to : Int) (place : Int) (r_nu : rgA nu) (r_fi : rgA fi) (r_le : rgA le) (r_to : rg to) (r_place : rg place) (p0 : 0 ≤ place ∧ place < 120) : wp_X4_firstAt nu fi le to place (fun z => z = (fi place)) := by
  unfold wp_X4_firstAt
  (repeat' first | (refine And.intro ?_ ?_) | intro _)
  all_goals first | rfl | assumption | omega | (unfold rg at *; omega) | (exact (pz_t (by omega)).symm) | (exact (pz_f (by omega)).symm)
def wp_X4_lengthAt (nu : Int → Int) (fi : Int → Int) (le : Int → Int) (to : Int) (place : Int) (P : Int → Prop) : Prop :=
  ((place < 0) → (P 0)) ∧ ((¬ (place < 0)) → (((place < 120) → ((0 ≤ place ∧ place < 120) ∧ (P (le place)))) ∧ ((¬ (place < 120)) → (P 0))))
set_option maxHeartbeats 1000000 in
theorem sp_X4_lengthAt (nu : Int → Int) (fi : Int → Int) (le : Int → Int) (to : Int) (place : Int) (r_nu : rgA nu) (r_fi : rgA fi) (r_le : rgA le) (r_to : rg to) (r_place : rg place)  : wp_X4_lengthAt nu fi le to place (fun z => z = (if 0 ≤ place ∧ place < 120 then le place else 0)) := by
  unfold wp_X4_lengthAt
  (repeat' first | (refine And.intro ?_ ?_) | intro _)
  all_goals first | rfl | assumption | omega | (unfold rg at *; omega) | (exact (pz_t (by omega)).symm) | (exact (pz_f (by omega)).symm)
def wp_X4_placeOf (nu : Int → Int) (fi : Int → Int) (le : Int → Int) (to : Int) (number : Int) (P : Int → Prop) : Prop :=
  ∃ (I2 : Int → Prop) (μ3 : Int → Nat), I2 0 ∧ ∀ (x2_1 : Int), rg x2_1 → I2 x2_1 → (((x2_1 < to) → ((0 ≤ x2_1 ∧ x2_1 < 120) ∧ ((((nu x2_1) = number) → (P x2_1)) ∧ ((¬ ((nu x2_1) = number)) → (rg (x2_1 + 1) ∧ (I2 (x2_1 + 1) ∧ μ3 (x2_1 + 1) < μ3 x2_1)))))) ∧ ((¬ (x2_1 < to)) → (P (-1))))
set_option maxHeartbeats 1000000 in
theorem sp_X4_placeOf (nu : Int → Int) (fi : Int → Int) (le : Int → Int) (to : Int) (number : Int)  (r_nu : rgA nu) (r_fi : rgA fi) (r_le : rgA le) (r_to : rg to) (r_number : rg number) (p0 : 0 ≤ to ∧ to ≤ 120) : wp_X4_placeOf nu fi le to number (fun r => (r = -1 ∧ ∀ j, 0 ≤ j → j < to → nu j ≠ number) ∨ (0 ≤ r ∧ r < to ∧ nu r = number ∧ ∀ j, 0 ≤ j → j < r → nu j ≠ number)) := by
  unfold wp_X4_placeOf
  refine ⟨fun i => 0 ≤ i ∧ i ≤ to ∧ ∀ j, 0 ≤ j → j < i → nu j ≠ number, fun i => (to - i).toNat, ⟨by omega, by omega, fun j h1 h2 => by omega⟩, ?_⟩
  intro i ri ⟨h0, h1, h2⟩
  dsimp only
  refine ⟨fun c => ⟨by omega, fun c2 => ?_, fun c2 => ?_⟩, fun c => ?_⟩
  · exact Or.inr ⟨h0, c, c2, h2⟩
  · refine ⟨by unfold rg at *; omega, ⟨by omega, by omega, fun j h3 h4 => ?_⟩, by omega⟩
    rcases Int.lt_or_eq_of_le (show j ≤ i by omega) with q | q
    · exact h2 j h3 q
    · rw [q]; exact c2
  · exact Or.inl ⟨rfl, fun j h3 h4 => h2 j h3 (by omega)⟩
def wp_X4_placeOfShortest (nu : Int → Int) (fi : Int → Int) (le : Int → Int) (to : Int)  (P : Int → Prop) : Prop :=
  ∃ (I2 : Int → Int → Prop) (μ3 : Int → Int → Nat), I2 0 1 ∧ ∀ (x1_1 : Int) (x2_1 : Int), rg x1_1 → rg x2_1 → I2 x1_1 x2_1 → (((x2_1 < to) → ((((if 0 ≤ x2_1 ∧ x2_1 < 120 then le x2_1 else 0) < (if 0 ≤ x1_1 ∧ x1_1 < 120 then le x1_1 else 0)) → (rg (x2_1 + 1) ∧ (I2 x2_1 (x2_1 + 1) ∧ μ3 x2_1 (x2_1 + 1) < μ3 x1_1 x2_1))) ∧ ((¬ ((if 0 ≤ x2_1 ∧ x2_1 < 120 then le x2_1 else 0) < (if 0 ≤ x1_1 ∧ x1_1 < 120 then le x1_1 else 0))) → (rg (x2_1 + 1) ∧ (I2 x1_1 (x2_1 + 1) ∧ μ3 x1_1 (x2_1 + 1) < μ3 x1_1 x2_1))))) ∧ ((¬ (x2_1 < to)) → (P x1_1)))
set_option maxHeartbeats 1000000 in
theorem sp_X4_placeOfShortest (nu : Int → Int) (fi : Int → Int) (le : Int → Int) (to : Int)   (r_nu : rgA nu) (r_fi : rgA fi) (r_le : rgA le) (r_to : rg to)  (p0 : 1 ≤ to ∧ to ≤ 120) : wp_X4_placeOfShortest nu fi le to (fun r => 0 ≤ r ∧ r < to ∧ (∀ j, 0 ≤ j → j < to → le r ≤ le j) ∧ ∀ j, 0 ≤ j → j < r → le r < le j) := by
  unfold wp_X4_placeOfShortest
  refine ⟨fun best i => 1 ≤ i ∧ i ≤ to ∧ 0 ≤ best ∧ best < i ∧ (∀ j, 0 ≤ j → j < i → le best ≤ le j) ∧ ∀ j, 0 ≤ j → j < best → le best < le j, fun best i => (to - i).toNat, ⟨by omega, by omega, by omega, by omega, fun j h1 h2 => ?_, fun j h1 h2 => by omega⟩, ?_⟩
  · rw [show j = 0 by omega]; omega
  intro best i rb ri ⟨h0, h1, h2, h3, h4, h5⟩
  dsimp only
  refine ⟨fun c => ?_, fun c => ⟨h2, by omega, fun j h6 h7 => h4 j h6 (by omega), h5⟩⟩
  rw [if_pos (show 0 ≤ i ∧ i < 120 by omega), if_pos (show 0 ≤ best ∧ best < 120 by omega)]
  refine ⟨fun c2 => ⟨by unfold rg at *; omega, ⟨by omega, by omega, by omega, by omega, fun j h6 h7 => ?_, fun j h6 h7 => ?_⟩, by omega⟩, fun c2 => ⟨by unfold rg at *; omega, ⟨by omega, by omega, by omega, by omega, fun j h6 h7 => ?_, h5⟩, by omega⟩⟩
  · rcases Int.lt_or_eq_of_le (show j ≤ i by omega) with q | q
    · have := h4 j h6 q; omega
    · rw [q]; omega
  · have := h4 j h6 h7; omega
  · rcases Int.lt_or_eq_of_le (show j ≤ i by omega) with q | q
    · exact h4 j h6 q
    · rw [q]; omega
def wp_X4_rowsInAll (nu : Int → Int) (fi : Int → Int) (le : Int → Int) (to : Int)  (P : Int → Prop) : Prop :=
  ∃ (I2 : Int → Int → Prop) (μ3 : Int → Int → Nat), I2 0 0 ∧ ∀ (x1_1 : Int) (x2_1 : Int), rg x1_1 → rg x2_1 → I2 x1_1 x2_1 → (((x2_1 < to) → (rg (x1_1 + (if 0 ≤ x2_1 ∧ x2_1 < 120 then le x2_1 else 0)) ∧ (rg (x2_1 + 1) ∧ (I2 (x1_1 + (if 0 ≤ x2_1 ∧ x2_1 < 120 then le x2_1 else 0)) (x2_1 + 1) ∧ μ3 (x1_1 + (if 0 ≤ x2_1 ∧ x2_1 < 120 then le x2_1 else 0)) (x2_1 + 1) < μ3 x1_1 x2_1)))) ∧ ((¬ (x2_1 < to)) → (P x1_1)))
set_option maxHeartbeats 1000000 in
theorem sp_X4_rowsInAll (nu : Int → Int) (fi : Int → Int) (le : Int → Int) (to : Int)  (r_nu : rgA nu) (r_fi : rgA fi) (r_le : rgA le) (r_to : rg to)  (p0 : 0 ≤ to ∧ to ≤ 120) (p1 : ∀ j, 0 ≤ j → j < to → 0 ≤ le j ∧ le j ≤ 120) : wp_X4_rowsInAll nu fi le to (fun z => z = (sumI le to.toNat)) := by
  unfold wp_X4_rowsInAll
  refine ⟨fun sum i => 0 ≤ i ∧ i ≤ to ∧ sum = sumI le i.toNat ∧ 0 ≤ sum ∧ sum ≤ 120 * i, fun sum i => (to - i).toNat, ⟨by omega, by omega, rfl, by omega, by omega⟩, ?_⟩
  intro sum i rs ri ⟨h0, h1, h2, h3, h4⟩
  dsimp only
  have e : sumI le (i + 1).toNat = sumI le i.toNat + le i := by
    rw [show (i + 1).toNat = i.toNat + 1 by omega, sumI, show ((i.toNat : Nat) : Int) = i by omega]
  refine ⟨fun c => ?_, fun c => ?_⟩
  · have hc := p1 i h0 c
    rw [if_pos (show 0 ≤ i ∧ i < 120 by omega)]
    refine ⟨by unfold rg at *; omega, by unfold rg at *; omega, ⟨by omega, by omega, ?_, by omega, by omega⟩, by omega⟩
    rw [e, h2]
  · rw [h2, show i = to by omega]
def wp_X4_insert (nu : Int → Int) (fi : Int → Int) (le : Int → Int) (to : Int) (number : Int) (first : Int) (length : Int) (P : (Int → Int) → (Int → Int) → (Int → Int) → Int → Prop) : Prop :=
  ((to < 0) → (P nu fi le to)) ∧ ((¬ (to < 0)) → (((to < 120) → (∃ (I11 : Int → (Int → Int) → (Int → Int) → (Int → Int) → Prop) (μ12 : Int → (Int → Int) → (Int → Int) → (Int → Int) → Nat), I11 to nu fi le ∧ ∀ (x4_10 : Int) (nu0_10 : Int → Int) (fi0_10 : Int → Int) (le0_10 : Int → Int), rg x4_10 → rgA nu0_10 → rgA fi0_10 → rgA le0_10 → I11 x4_10 nu0_10 fi0_10 le0_10 → (((0 < x4_10) → (rg (x4_10 - 1) ∧ ((0 ≤ (x4_10 - 1) ∧ (x4_10 - 1) < 120) ∧ (((number < (nu0_10 (x4_10 - 1))) → ((0 ≤ x4_10 ∧ x4_10 < 120) ∧ (rg (x4_10 + (-1)) ∧ (I11 (x4_10 + (-1)) (uZ nu0_10 x4_10 (nu0_10 (x4_10 - 1))) (uZ fi0_10 x4_10 (fi0_10 (x4_10 - 1))) (uZ le0_10 x4_10 (le0_10 (x4_10 - 1))) ∧ μ12 (x4_10 + (-1)) (uZ nu0_10 x4_10 (nu0_10 (x4_10 - 1))) (uZ fi0_10 x4_10 (fi0_10 (x4_10 - 1))) (uZ le0_10 x4_10 (le0_10 (x4_10 - 1))) < μ12 x4_10 nu0_10 fi0_10 le0_10)))) ∧ ((¬ (number < (nu0_10 (x4_10 - 1)))) → ((0 ≤ x4_10 ∧ x4_10 < 120) ∧ (rg (to + 1) ∧ (P (uZ nu0_10 x4_10 number) (uZ fi0_10 x4_10 first) (uZ le0_10 x4_10 length) (to + 1))))))))) ∧ ((¬ (0 < x4_10)) → ((0 ≤ x4_10 ∧ x4_10 < 120) ∧ (rg (to + 1) ∧ (P (uZ nu0_10 x4_10 number) (uZ fi0_10 x4_10 first) (uZ le0_10 x4_10 length) (to + 1)))))))) ∧ ((¬ (to < 120)) → (P nu fi le to))))
set_option maxHeartbeats 1000000 in
theorem sp_X4_insert (nu : Int → Int) (fi : Int → Int) (le : Int → Int) (to : Int) (number : Int) (first : Int) (length : Int)  (r_nu : rgA nu) (r_fi : rgA fi) (r_le : rgA le) (r_to : rg to) (r_number : rg number) (r_first : rg first) (r_length : rg length) (p0 : 0 ≤ to ∧ to < 120) : wp_X4_insert nu fi le to number first length (fun nu' fi' le' to' => (to' = to + 1 ∧ ∃ q, 0 ≤ q ∧ q ≤ to ∧ (∀ j, q ≤ j → j < to → number < nu j) ∧ (q = 0 ∨ nu (q - 1) ≤ number) ∧ ∀ j, 0 ≤ j → j ≤ to → nu' j = insI nu q number j ∧ fi' j = insI fi q first j ∧ le' j = insI le q length j)) := by
  unfold wp_X4_insert
  refine ⟨fun c => absurd c (by omega), fun _ => ⟨fun _ => ?_, fun c => absurd c (by omega)⟩⟩
  refine ⟨fun place nu1 fi1 le1 => 0 ≤ place ∧ place ≤ to ∧ (∀ j, place ≤ j → j < to → number < nu j) ∧ ∀ j, 0 ≤ j → j ≤ to → (j < place → nu1 j = nu j ∧ fi1 j = fi j ∧ le1 j = le j) ∧ (place < j → nu1 j = nu (j - 1) ∧ fi1 j = fi (j - 1) ∧ le1 j = le (j - 1)), fun place _ _ _ => place.toNat, ⟨by omega, by omega, fun j h1 h2 => by omega, fun j h1 h2 => ⟨fun _ => ⟨rfl, rfl, rfl⟩, fun h => by omega⟩⟩, ?_⟩
  intro place nu1 fi1 le1 rp rn rf rl ⟨h0, h1, h2, h3⟩
  dsimp only
  have fin : (place = 0 ∨ nu (place - 1) ≤ number) → (to + 1 = to + 1 ∧ ∃ q, 0 ≤ q ∧ q ≤ to ∧ (∀ j, q ≤ j → j < to → number < nu j) ∧ (q = 0 ∨ nu (q - 1) ≤ number) ∧ ∀ j, 0 ≤ j → j ≤ to → uZ nu1 place number j = insI nu q number j ∧ uZ fi1 place first j = insI fi q first j ∧ uZ le1 place length j = insI le q length j) := by
    intro hq
    refine ⟨rfl, place, h0, h1, h2, hq, fun j h4 h5 => ?_⟩
    obtain ⟨g1, g2⟩ := h3 j h4 h5
    exact ⟨ins_ok (fun q => (g1 q).1) (fun q => (g2 q).1), ins_ok (fun q => (g1 q).2.1) (fun q => (g2 q).2.1), ins_ok (fun q => (g1 q).2.2) (fun q => (g2 q).2.2)⟩
  refine ⟨fun c => ?_, fun c => ⟨by omega, by unfold rg at *; omega, fin (Or.inl (by omega))⟩⟩
  have k1 := (h3 (place - 1) (by omega) (by omega)).1 (by omega)
  refine ⟨by unfold rg at *; omega, by omega, fun c2 => ?_, fun c2 => ⟨by omega, by unfold rg at *; omega, fin (Or.inr (by rw [← k1.1]; omega))⟩⟩
  refine ⟨by omega, by unfold rg at *; omega, ⟨by omega, by omega, fun j h4 h5 => ?_, fun j h4 h5 => ?_⟩, by omega⟩
  · rcases Int.lt_or_eq_of_le (show place - 1 ≤ j by omega) with q | q
    · exact h2 j (by omega) h5
    · rw [← q, ← k1.1]; exact c2
  · obtain ⟨g1, g2⟩ := h3 j h4 h5
    have a1 := shf_ok k1.1 (fun q => (g1 q).1) (fun q => (g2 q).1)
    have a2 := shf_ok k1.2.1 (fun q => (g1 q).2.1) (fun q => (g2 q).2.1)
    have a3 := shf_ok k1.2.2 (fun q => (g1 q).2.2) (fun q => (g2 q).2.2)
    exact ⟨fun q => ⟨a1.1 q, a2.1 q, a3.1 q⟩, fun q => ⟨a1.2 q, a2.2 q, a3.2 q⟩⟩
def wp_X4_remove (nu : Int → Int) (fi : Int → Int) (le : Int → Int) (to : Int) (place : Int) (P : (Int → Int) → (Int → Int) → (Int → Int) → Int → Prop) : Prop :=
  ((place < 0) → (P nu fi le to)) ∧ ((¬ (place < 0)) → (((place < to) → (((120 < to) → (P nu fi le to)) ∧ ((¬ (120 < to)) → (rg (to - place) ∧ (rg ((to - place) - 1) ∧ (rg (place + 1) ∧ ((0 ≤ (place + 1) ∧ 0 ≤ place ∧ 0 ≤ ((to - place) - 1) ∧ (place + 1) + ((to - place) - 1) ≤ 120 ∧ place + ((to - place) - 1) ≤ 120) ∧ (rg (to - 1) ∧ (P (cI nu nu (place + 1) place ((to - place) - 1)) (cI fi fi (place + 1) place ((to - place) - 1)) (cI le le (place + 1) place ((to - place) - 1)) (to - 1)))))))))) ∧ ((¬ (place < to)) → (P nu fi le to))))
set_option maxHeartbeats 1000000 in
theorem sp_X4_remove (nu : Int → Int) (fi : Int → Int) (le : Int → Int) (to : Int) (place : Int) (r_nu : rgA nu) (r_fi : rgA fi) (r_le : rgA le) (r_to : rg to) (r_place : rg place) (p0 : 0 ≤ place ∧ place < to ∧ to ≤ 120) : wp_X4_remove nu fi le to place (fun o0 o1 o2 o3 => o0 = (cI nu nu (place + 1) place (to - place - 1)) ∧ o1 = (cI fi fi (place + 1) place (to - place - 1)) ∧ o2 = (cI le le (place + 1) place (to - place - 1)) ∧ o3 = (to - 1)) := by
  unfold wp_X4_remove
  (repeat' first | (refine And.intro ?_ ?_) | intro _)
  all_goals first | rfl | assumption | omega | (unfold rg at *; omega) | (exact (pz_t (by omega)).symm) | (exact (pz_f (by omega)).symm)
def wp_X4_removeAll (nu : Int → Int) (fi : Int → Int) (le : Int → Int) (to : Int)  (P : Int → Prop) : Prop :=
  P 0
set_option maxHeartbeats 1000000 in
theorem sp_X4_removeAll (nu : Int → Int) (fi : Int → Int) (le : Int → Int) (to : Int)  (r_nu : rgA nu) (r_fi : rgA fi) (r_le : rgA le) (r_to : rg to)   : wp_X4_removeAll nu fi le to (fun o0 => o0 = 0) := by
  unfold wp_X4_removeAll
  (repeat' first | (refine And.intro ?_ ?_) | intro _)
  all_goals first | rfl | assumption | omega | (unfold rg at *; omega) | (exact (pz_t (by omega)).symm) | (exact (pz_f (by omega)).symm)
def wp_X4_passFirst (nu : Int → Int) (fi : Int → Int) (le : Int → Int) (to : Int) (place : Int) (next : Int) (P : (Int → Int) → (Int → Int) → Prop) : Prop :=
  ((place < 0) → (P fi le)) ∧ ((¬ (place < 0)) → (((place < 120) → ((0 ≤ place ∧ place < 120) ∧ (rg ((le place) - 1) ∧ (P (uZ fi place next) (uZ le place ((le place) - 1)))))) ∧ ((¬ (place < 120)) → (P fi le))))
set_option maxHeartbeats 1000000 in
theorem sp_X4_passFirst (nu : Int → Int) (fi : Int → Int) (le : Int → Int) (to : Int) (place : Int) (next : Int) (r_nu : rgA nu) (r_fi : rgA fi) (r_le : rgA le) (r_to : rg to) (r_place : rg place) (r_next : rg next) (p0 : 0 ≤ place ∧ place < 120) (p1 : rg (le place - 1)) : wp_X4_passFirst nu fi le to place next (fun o0 o1 => o0 = (uZ fi place next) ∧ o1 = (uZ le place (le place - 1))) := by
  unfold wp_X4_passFirst
  (repeat' first | (refine And.intro ?_ ?_) | intro _)
  all_goals first | rfl | assumption | omega | (unfold rg at *; omega) | (exact (pz_t (by omega)).symm) | (exact (pz_f (by omega)).symm)
def wp_X4_copyFrom (nu : Int → Int) (fi : Int → Int) (le : Int → Int) (to : Int) (o_nu : Int → Int) (o_fi : Int → Int) (o_le : Int → Int) (o_to : Int)  (P : (Int → Int) → (Int → Int) → (Int → Int) → Int → Prop) : Prop :=
  P o_nu o_fi o_le o_to
set_option maxHeartbeats 1000000 in
theorem sp_X4_copyFrom (nu : Int → Int) (fi : Int → Int) (le : Int → Int) (to : Int) (o_nu : Int → Int) (o_fi : Int → Int) (o_le : Int → Int) (o_to : Int)  (r_nu : rgA nu) (r_fi : rgA fi) (r_le : rgA le) (r_to : rg to) (r_o_nu : rgA o_nu) (r_o_fi : rgA o_fi) (r_o_le : rgA o_le) (r_o_to : rg o_to)   : wp_X4_copyFrom nu fi le to o_nu o_fi o_le o_to (fun o0 o1 o2 o3 => o0 = o_nu ∧ o1 = o_fi ∧ o2 = o_le ∧ o3 = o_to) := by
  unfold wp_X4_copyFrom
  (repeat' first | (refine And.intro ?_ ?_) | intro _)
  all_goals first | rfl | assumption | omega | (unfold rg at *; omega) | (exact (pz_t (by omega)).symm) | (exact (pz_f (by omega)).symm)
