def pk2 (C : List (List Cond)) (p : Nat × Nat) : Option Cond := (C[p.1]?).bind (fun c => c[p.2]?)
theorem goodIn_2 {big ws : List Cond} (C : List (List Cond)) (ps : List (Nat × Nat)) (hC : ∀ c ∈ C, ∀ w ∈ c, w ∈ big) (hg : ∀ w ∈ big, goodWord w = true) (hp : ws = ps.filterMap (pk2 C)) : GoodIn big ws := by
  intro w hw
  rw [hp] at hw
  obtain ⟨p, -, hi⟩ := List.mem_filterMap.mp hw
  obtain ⟨c, hc, hi⟩ := Option.bind_eq_some_iff.mp hi
  have hm := hC c (List.mem_of_getElem? hc) w (List.mem_of_getElem? hi)
  exact ⟨hm, good_of_word (hg w hm)⟩
theorem goodIn_b {big b : List Cond} (hm : ∀ w ∈ b, w ∈ big) (hg : ∀ w ∈ big, goodWord w = true) : GoodIn big b := fun w h => ⟨hm w h, good_of_word (hg w (hm w h))⟩
theorem dX0_init_0 : decode cX0_init 0 = .ok (.aload_n 0, 1) := by decide +kernel
theorem dX0_init_1 : decode cX0_init 1 = .ok (.invokespecial 3, 3) := by decide +kernel
theorem dX0_init_4 : decode cX0_init 4 = .ok (.aload_n 0, 1) := by decide +kernel
theorem dX0_init_5 : decode cX0_init 5 = .ok (.bipush 80, 2) := by decide +kernel
theorem dX0_init_7 : decode cX0_init 7 = .ok (.newarray .int, 2) := by decide +kernel
theorem dX0_init_9 : decode cX0_init 9 = .ok (.putfield 9, 3) := by decide +kernel
theorem dX0_init_12 : decode cX0_init 12 = .ok (.return_, 1) := by decide +kernel
def ck_wsX1_init : List (List Cond) := [[.code yX1_init cX1_init 2 none], wsX1_init_r1, wsX1_init_r2]
theorem ck_wsX1_init_m : ∀ c ∈ ck_wsX1_init, ∀ w ∈ c, w ∈ wsX1_init := List.forall_mem_cons.mpr ⟨fun w h => List.mem_cons.mpr (Or.inl (List.mem_singleton.mp h)), List.forall_mem_cons.mpr ⟨fun _ h => (List.mem_cons_of_mem _ (List.mem_append_left _ (List.mem_append_left _ (List.mem_append_left _ (List.mem_append_left _ (List.mem_append_left _ h)))))), List.forall_mem_cons.mpr ⟨fun _ h => (List.mem_cons_of_mem _ (List.mem_append_left _ (List.mem_append_left _ (List.mem_append_left _ (List.mem_append_left _ (List.mem_append_right _ h)))))), fun _ h => absurd h List.not_mem_nil⟩⟩⟩
set_option maxRecDepth 100000 in
theorem ck_wsX1_init_g : ∀ w ∈ wsX1_init, goodWord w = true := List.all_eq_true.mp (by decide +kernel)
set_option maxRecDepth 100000 in
theorem ggX1_init_X5_init : GoodIn wsX1_init wsX5_init := goodIn_ca (goodIn_ca (goodIn_ca (goodIn_2 ck_wsX1_init [(1, 8), (1, 9), (1, 1), (1, 2), (1, 10), (1, 11), (1, 12), (1, 13), (1, 14), (1, 15), (1, 16), (1, 17), (1, 18), (1, 19), (1, 20), (1, 21), (1, 22), (1, 23), (2, 0), (2, 1), (2, 2), (2, 3), (2, 4), (2, 5), (2, 6), (2, 7), (2, 8), (2, 9), (2, 10)] ck_wsX1_init_m ck_wsX1_init_g rfl) (goodIn_b (fun _ h => (List.mem_cons_of_mem _ (List.mem_append_left _ (List.mem_append_right _ h)))) ck_wsX1_init_g)) (goodIn_b (fun _ h => (List.mem_cons_of_mem _ (List.mem_append_left _ (List.mem_append_left _ (List.mem_append_right _ h))))) ck_wsX1_init_g)) (goodIn_b (fun _ h => (List.mem_cons_of_mem _ (List.mem_append_right _ h))) ck_wsX1_init_g)
set_option maxRecDepth 20000 in
theorem gX1_init_X5_init_n17 : GoodIn wsX1_init (wsX5_init) := ggX1_init_X5_init
theorem dX1_init_0 : decode cX1_init 0 = .ok (.aload_n 0, 1) := by decide +kernel
theorem dX1_init_1 : decode cX1_init 1 = .ok (.invokespecial 3, 3) := by decide +kernel
theorem dX1_init_4 : decode cX1_init 4 = .ok (.aload_n 0, 1) := by decide +kernel
theorem dX1_init_5 : decode cX1_init 5 = .ok (.iconst 4, 1) := by decide +kernel
theorem dX1_init_6 : decode cX1_init 6 = .ok (.anewarray 9, 3) := by decide +kernel
theorem dX1_init_9 : decode cX1_init 9 = .ok (.putfield 11, 3) := by decide +kernel
theorem dX1_init_12 : decode cX1_init 12 = .ok (.iconst 0, 1) := by decide +kernel
theorem dX1_init_13 : decode cX1_init 13 = .ok (.istore_n 1, 1) := by decide +kernel
theorem dX1_init_14 : decode cX1_init 14 = .ok (.iload_n 1, 1) := by decide +kernel
theorem dX1_init_15 : decode cX1_init 15 = .ok (.iconst 4, 1) := by decide +kernel
theorem dX1_init_16 : decode cX1_init 16 = .ok (.if_icmp .ge 22, 3) := by decide +kernel
theorem dX1_init_19 : decode cX1_init 19 = .ok (.aload_n 0, 1) := by decide +kernel
theorem dX1_init_20 : decode cX1_init 20 = .ok (.getfield 11, 3) := by decide +kernel
theorem dX1_init_23 : decode cX1_init 23 = .ok (.iload_n 1, 1) := by decide +kernel
theorem dX1_init_24 : decode cX1_init 24 = .ok (.new 9, 3) := by decide +kernel
theorem dX1_init_27 : decode cX1_init 27 = .ok (.dup, 1) := by decide +kernel
theorem dX1_init_28 : decode cX1_init 28 = .ok (.invokespecial 17, 3) := by decide +kernel
theorem dX1_init_31 : decode cX1_init 31 = .ok (.aastore, 1) := by decide +kernel
theorem dX1_init_32 : decode cX1_init 32 = .ok (.iinc 1 1, 3) := by decide +kernel
theorem dX1_init_35 : decode cX1_init 35 = .ok (.goto (-21), 3) := by decide +kernel
theorem dX1_init_38 : decode cX1_init 38 = .ok (.return_, 1) := by decide +kernel
def ck_wsX1_remember : List (List Cond) := [[.code yX1_remember cX1_remember 3 none], wsX1_remember_r1, wsX1_remember_r2, wsX1_remember_r3]
theorem ck_wsX1_remember_m : ∀ c ∈ ck_wsX1_remember, ∀ w ∈ c, w ∈ wsX1_remember := List.forall_mem_cons.mpr ⟨fun w h => List.mem_cons.mpr (Or.inl (List.mem_singleton.mp h)), List.forall_mem_cons.mpr ⟨fun _ h => (List.mem_cons_of_mem _ (List.mem_append_left _ (List.mem_append_left _ (List.mem_append_left _ (List.mem_append_left _ (List.mem_append_left _ h)))))), List.forall_mem_cons.mpr ⟨fun _ h => (List.mem_cons_of_mem _ (List.mem_append_left _ (List.mem_append_left _ (List.mem_append_left _ (List.mem_append_left _ (List.mem_append_right _ (List.mem_append_left _ h))))))), List.forall_mem_cons.mpr ⟨fun _ h => (List.mem_cons_of_mem _ (List.mem_append_left _ (List.mem_append_left _ (List.mem_append_left _ (List.mem_append_left _ (List.mem_append_right _ (List.mem_append_right _ h))))))), fun _ h => absurd h List.not_mem_nil⟩⟩⟩⟩
set_option maxRecDepth 100000 in
theorem ck_wsX1_remember_g : ∀ w ∈ wsX1_remember, goodWord w = true := List.all_eq_true.mp (by decide +kernel)
set_option maxRecDepth 100000 in
theorem ggX1_remember_X1_stateAt : GoodIn wsX1_remember wsX1_stateAt := goodIn_ca (goodIn_2 ck_wsX1_remember [(1, 6), (1, 1), (1, 7), (1, 8), (1, 9), (1, 10), (1, 11)] ck_wsX1_remember_m ck_wsX1_remember_g rfl) (goodIn_b (fun _ h => (List.mem_cons_of_mem _ (List.mem_append_left _ (List.mem_append_left _ (List.mem_append_left _ (List.mem_append_right _ h)))))) ck_wsX1_remember_g)
set_option maxRecDepth 20000 in
theorem gX1_remember_X1_stateAt : GoodIn wsX1_remember (wsV RX1 25 RX1 yX1_stateAt wsX1_stateAt) := goodIn_app (goodIn_of _ (by decide +kernel)) ggX1_remember_X1_stateAt
set_option maxRecDepth 100000 in
theorem ggX1_remember_X5_copyFrom : GoodIn wsX1_remember wsX5_copyFrom := goodIn_ca (goodIn_ca (goodIn_ca (goodIn_2 ck_wsX1_remember [(1, 16), (1, 17), (1, 18), (1, 19), (1, 20), (1, 21), (1, 22), (1, 23), (2, 0), (2, 1), (2, 2), (2, 3), (2, 4), (2, 5), (2, 6), (2, 7), (2, 8), (2, 9), (2, 10), (2, 11), (2, 12), (2, 13), (2, 14), (2, 15), (2, 16), (2, 17), (2, 18), (2, 19), (2, 20), (2, 21), (2, 22), (2, 23), (3, 0), (3, 1), (3, 2), (3, 3), (3, 4), (3, 5), (3, 6), (3, 7), (3, 8)] ck_wsX1_remember_m ck_wsX1_remember_g rfl) (goodIn_b (fun _ h => (List.mem_cons_of_mem _ (List.mem_append_left _ (List.mem_append_left _ (List.mem_append_right _ h))))) ck_wsX1_remember_g)) (goodIn_b (fun _ h => (List.mem_cons_of_mem _ (List.mem_append_left _ (List.mem_append_right _ h)))) ck_wsX1_remember_g)) (goodIn_b (fun _ h => (List.mem_cons_of_mem _ (List.mem_append_right _ h))) ck_wsX1_remember_g)
set_option maxRecDepth 20000 in
theorem gX1_remember_X5_copyFrom : GoodIn wsX1_remember (wsV RX1 29 RX5 yX5_copyFrom wsX5_copyFrom) := goodIn_app (goodIn_of _ (by decide +kernel)) ggX1_remember_X5_copyFrom
theorem dX1_remember_0 : decode cX1_remember 0 = .ok (.aload_n 0, 1) := by decide +kernel
theorem dX1_remember_1 : decode cX1_remember 1 = .ok (.getfield 18, 3) := by decide +kernel
theorem dX1_remember_4 : decode cX1_remember 4 = .ok (.iconst 4, 1) := by decide +kernel
theorem dX1_remember_5 : decode cX1_remember 5 = .ok (.if_icmp .ne 25, 3) := by decide +kernel
theorem dX1_remember_8 : decode cX1_remember 8 = .ok (.aload_n 0, 1) := by decide +kernel
theorem dX1_remember_9 : decode cX1_remember 9 = .ok (.aload_n 0, 1) := by decide +kernel
theorem dX1_remember_10 : decode cX1_remember 10 = .ok (.getfield 22, 3) := by decide +kernel
theorem dX1_remember_13 : decode cX1_remember 13 = .ok (.iconst 1, 1) := by decide +kernel
theorem dX1_remember_14 : decode cX1_remember 14 = .ok (.iadd, 1) := by decide +kernel
theorem dX1_remember_15 : decode cX1_remember 15 = .ok (.iconst 4, 1) := by decide +kernel
theorem dX1_remember_16 : decode cX1_remember 16 = .ok (.irem, 1) := by decide +kernel
theorem dX1_remember_17 : decode cX1_remember 17 = .ok (.putfield 22, 3) := by decide +kernel
theorem dX1_remember_20 : decode cX1_remember 20 = .ok (.aload_n 0, 1) := by decide +kernel
theorem dX1_remember_21 : decode cX1_remember 21 = .ok (.dup, 1) := by decide +kernel
theorem dX1_remember_22 : decode cX1_remember 22 = .ok (.getfield 18, 3) := by decide +kernel
theorem dX1_remember_25 : decode cX1_remember 25 = .ok (.iconst 1, 1) := by decide +kernel
theorem dX1_remember_26 : decode cX1_remember 26 = .ok (.isub, 1) := by decide +kernel
theorem dX1_remember_27 : decode cX1_remember 27 = .ok (.putfield 18, 3) := by decide +kernel
theorem dX1_remember_30 : decode cX1_remember 30 = .ok (.aload_n 0, 1) := by decide +kernel
theorem dX1_remember_31 : decode cX1_remember 31 = .ok (.aload_n 0, 1) := by decide +kernel
theorem dX1_remember_32 : decode cX1_remember 32 = .ok (.getfield 18, 3) := by decide +kernel
theorem dX1_remember_35 : decode cX1_remember 35 = .ok (.invokevirtual 25, 3) := by decide +kernel
theorem dX1_remember_38 : decode cX1_remember 38 = .ok (.astore_n 2, 1) := by decide +kernel
theorem dX1_remember_39 : decode cX1_remember 39 = .ok (.aload_n 2, 1) := by decide +kernel
theorem dX1_remember_40 : decode cX1_remember 40 = .ok (.ifnull 18, 3) := by decide +kernel
theorem dX1_remember_43 : decode cX1_remember 43 = .ok (.aload_n 2, 1) := by decide +kernel
theorem dX1_remember_44 : decode cX1_remember 44 = .ok (.aload_n 1, 1) := by decide +kernel
theorem dX1_remember_45 : decode cX1_remember 45 = .ok (.invokevirtual 29, 3) := by decide +kernel
theorem dX1_remember_48 : decode cX1_remember 48 = .ok (.aload_n 0, 1) := by decide +kernel
theorem dX1_remember_49 : decode cX1_remember 49 = .ok (.dup, 1) := by decide +kernel
theorem dX1_remember_50 : decode cX1_remember 50 = .ok (.getfield 18, 3) := by decide +kernel
theorem dX1_remember_53 : decode cX1_remember 53 = .ok (.iconst 1, 1) := by decide +kernel
theorem dX1_remember_54 : decode cX1_remember 54 = .ok (.iadd, 1) := by decide +kernel
theorem dX1_remember_55 : decode cX1_remember 55 = .ok (.putfield 18, 3) := by decide +kernel
theorem dX1_remember_58 : decode cX1_remember 58 = .ok (.return_, 1) := by decide +kernel
set_option maxRecDepth 20000 in
theorem ggX1_stateAt_J9_floorMod_7cf53 : GoodIn wsX1_stateAt wsJ9_floorMod_7cf53 := goodIn_r _ [6] (by decide +kernel) (by decide +kernel)
set_option maxRecDepth 20000 in
theorem gX1_stateAt_J9_floorMod_7cf53 : GoodIn wsX1_stateAt (va_wsS RX1 33 yJ9_floorMod_7cf53 wsJ9_floorMod_7cf53) := goodIn_app (goodIn_of _ (by decide +kernel)) ggX1_stateAt_J9_floorMod_7cf53
theorem dX1_stateAt_0 : decode cX1_stateAt 0 = .ok (.aload_n 0, 1) := by decide +kernel
theorem dX1_stateAt_1 : decode cX1_stateAt 1 = .ok (.getfield 22, 3) := by decide +kernel
theorem dX1_stateAt_4 : decode cX1_stateAt 4 = .ok (.iload_n 1, 1) := by decide +kernel
theorem dX1_stateAt_5 : decode cX1_stateAt 5 = .ok (.iadd, 1) := by decide +kernel
theorem dX1_stateAt_6 : decode cX1_stateAt 6 = .ok (.iconst 4, 1) := by decide +kernel
theorem dX1_stateAt_7 : decode cX1_stateAt 7 = .ok (.invokestatic 33, 3) := by decide +kernel
theorem dX1_stateAt_10 : decode cX1_stateAt 10 = .ok (.istore_n 2, 1) := by decide +kernel
theorem dX1_stateAt_11 : decode cX1_stateAt 11 = .ok (.iload_n 2, 1) := by decide +kernel
theorem dX1_stateAt_12 : decode cX1_stateAt 12 = .ok (.ifCond .lt 17, 3) := by decide +kernel
theorem dX1_stateAt_15 : decode cX1_stateAt 15 = .ok (.iload_n 2, 1) := by decide +kernel
theorem dX1_stateAt_16 : decode cX1_stateAt 16 = .ok (.iconst 4, 1) := by decide +kernel
theorem dX1_stateAt_17 : decode cX1_stateAt 17 = .ok (.if_icmp .ge 12, 3) := by decide +kernel
theorem dX1_stateAt_20 : decode cX1_stateAt 20 = .ok (.aload_n 0, 1) := by decide +kernel
theorem dX1_stateAt_21 : decode cX1_stateAt 21 = .ok (.getfield 11, 3) := by decide +kernel
theorem dX1_stateAt_24 : decode cX1_stateAt 24 = .ok (.iload_n 2, 1) := by decide +kernel
theorem dX1_stateAt_25 : decode cX1_stateAt 25 = .ok (.aaload, 1) := by decide +kernel
theorem dX1_stateAt_26 : decode cX1_stateAt 26 = .ok (.goto 4, 3) := by decide +kernel
theorem dX1_stateAt_29 : decode cX1_stateAt 29 = .ok (.aconst_null, 1) := by decide +kernel
theorem dX1_stateAt_30 : decode cX1_stateAt 30 = .ok (.areturn, 1) := by decide +kernel
theorem dX2_init_0 : decode cX2_init 0 = .ok (.aload_n 0, 1) := by decide +kernel
theorem dX2_init_1 : decode cX2_init 1 = .ok (.invokespecial 3, 3) := by decide +kernel
theorem dX2_init_4 : decode cX2_init 4 = .ok (.return_, 1) := by decide +kernel
theorem dX3_init_0 : decode cX3_init 0 = .ok (.aload_n 0, 1) := by decide +kernel
theorem dX3_init_1 : decode cX3_init 1 = .ok (.invokespecial 3, 3) := by decide +kernel
theorem dX3_init_4 : decode cX3_init 4 = .ok (.aload_n 0, 1) := by decide +kernel
theorem dX3_init_5 : decode cX3_init 5 = .ok (.bipush 120, 2) := by decide +kernel
theorem dX3_init_7 : decode cX3_init 7 = .ok (.newarray .int, 2) := by decide +kernel
theorem dX3_init_9 : decode cX3_init 9 = .ok (.putfield 9, 3) := by decide +kernel
theorem dX3_init_12 : decode cX3_init 12 = .ok (.aload_n 0, 1) := by decide +kernel
theorem dX3_init_13 : decode cX3_init 13 = .ok (.bipush 120, 2) := by decide +kernel
theorem dX3_init_15 : decode cX3_init 15 = .ok (.newarray .int, 2) := by decide +kernel
theorem dX3_init_17 : decode cX3_init 17 = .ok (.putfield 15, 3) := by decide +kernel
theorem dX3_init_20 : decode cX3_init 20 = .ok (.aload_n 0, 1) := by decide +kernel
theorem dX3_init_21 : decode cX3_init 21 = .ok (.bipush 120, 2) := by decide +kernel
theorem dX3_init_23 : decode cX3_init 23 = .ok (.newarray .int, 2) := by decide +kernel
theorem dX3_init_25 : decode cX3_init 25 = .ok (.putfield 18, 3) := by decide +kernel
theorem dX3_init_28 : decode cX3_init 28 = .ok (.return_, 1) := by decide +kernel
theorem dX3_copyFrom_0 : decode cX3_copyFrom 0 = .ok (.aload_n 1, 1) := by decide +kernel
theorem dX3_copyFrom_1 : decode cX3_copyFrom 1 = .ok (.getfield 9, 3) := by decide +kernel
theorem dX3_copyFrom_4 : decode cX3_copyFrom 4 = .ok (.iconst 0, 1) := by decide +kernel
theorem dX3_copyFrom_5 : decode cX3_copyFrom 5 = .ok (.aload_n 0, 1) := by decide +kernel
theorem dX3_copyFrom_6 : decode cX3_copyFrom 6 = .ok (.getfield 9, 3) := by decide +kernel
theorem dX3_copyFrom_9 : decode cX3_copyFrom 9 = .ok (.iconst 0, 1) := by decide +kernel
theorem dX3_copyFrom_10 : decode cX3_copyFrom 10 = .ok (.bipush 120, 2) := by decide +kernel
theorem dX3_copyFrom_12 : decode cX3_copyFrom 12 = .ok (.invokestatic 21, 3) := by decide +kernel
theorem dX3_copyFrom_15 : decode cX3_copyFrom 15 = .ok (.aload_n 1, 1) := by decide +kernel
theorem dX3_copyFrom_16 : decode cX3_copyFrom 16 = .ok (.getfield 15, 3) := by decide +kernel
theorem dX3_copyFrom_19 : decode cX3_copyFrom 19 = .ok (.iconst 0, 1) := by decide +kernel
theorem dX3_copyFrom_20 : decode cX3_copyFrom 20 = .ok (.aload_n 0, 1) := by decide +kernel
theorem dX3_copyFrom_21 : decode cX3_copyFrom 21 = .ok (.getfield 15, 3) := by decide +kernel
theorem dX3_copyFrom_24 : decode cX3_copyFrom 24 = .ok (.iconst 0, 1) := by decide +kernel
theorem dX3_copyFrom_25 : decode cX3_copyFrom 25 = .ok (.bipush 120, 2) := by decide +kernel
theorem dX3_copyFrom_27 : decode cX3_copyFrom 27 = .ok (.invokestatic 21, 3) := by decide +kernel
theorem dX3_copyFrom_30 : decode cX3_copyFrom 30 = .ok (.aload_n 1, 1) := by decide +kernel
theorem dX3_copyFrom_31 : decode cX3_copyFrom 31 = .ok (.getfield 18, 3) := by decide +kernel
theorem dX3_copyFrom_34 : decode cX3_copyFrom 34 = .ok (.iconst 0, 1) := by decide +kernel
theorem dX3_copyFrom_35 : decode cX3_copyFrom 35 = .ok (.aload_n 0, 1) := by decide +kernel
theorem dX3_copyFrom_36 : decode cX3_copyFrom 36 = .ok (.getfield 18, 3) := by decide +kernel
theorem dX3_copyFrom_39 : decode cX3_copyFrom 39 = .ok (.iconst 0, 1) := by decide +kernel
theorem dX3_copyFrom_40 : decode cX3_copyFrom 40 = .ok (.bipush 120, 2) := by decide +kernel
theorem dX3_copyFrom_42 : decode cX3_copyFrom 42 = .ok (.invokestatic 21, 3) := by decide +kernel
theorem dX3_copyFrom_45 : decode cX3_copyFrom 45 = .ok (.aload_n 0, 1) := by decide +kernel
theorem dX3_copyFrom_46 : decode cX3_copyFrom 46 = .ok (.aload_n 1, 1) := by decide +kernel
theorem dX3_copyFrom_47 : decode cX3_copyFrom 47 = .ok (.getfield 27, 3) := by decide +kernel
theorem dX3_copyFrom_50 : decode cX3_copyFrom 50 = .ok (.putfield 27, 3) := by decide +kernel
theorem dX3_copyFrom_53 : decode cX3_copyFrom 53 = .ok (.return_, 1) := by decide +kernel
theorem dX3_has_0 : decode cX3_has 0 = .ok (.iload_n 1, 1) := by decide +kernel
theorem dX3_has_1 : decode cX3_has 1 = .ok (.ifCond .lt 15, 3) := by decide +kernel
theorem dX3_has_4 : decode cX3_has 4 = .ok (.iload_n 1, 1) := by decide +kernel
theorem dX3_has_5 : decode cX3_has 5 = .ok (.aload_n 0, 1) := by decide +kernel
theorem dX3_has_6 : decode cX3_has 6 = .ok (.getfield 27, 3) := by decide +kernel
theorem dX3_has_9 : decode cX3_has 9 = .ok (.if_icmp .ge 7, 3) := by decide +kernel
theorem dX3_has_12 : decode cX3_has 12 = .ok (.iconst 1, 1) := by decide +kernel
theorem dX3_has_13 : decode cX3_has 13 = .ok (.goto 4, 3) := by decide +kernel
theorem dX3_has_16 : decode cX3_has 16 = .ok (.iconst 0, 1) := by decide +kernel
theorem dX3_has_17 : decode cX3_has 17 = .ok (.ireturn, 1) := by decide +kernel
theorem dX3_hasRoom_0 : decode cX3_hasRoom 0 = .ok (.aload_n 0, 1) := by decide +kernel
theorem dX3_hasRoom_1 : decode cX3_hasRoom 1 = .ok (.getfield 27, 3) := by decide +kernel
theorem dX3_hasRoom_4 : decode cX3_hasRoom 4 = .ok (.ifCond .lt 16, 3) := by decide +kernel
theorem dX3_hasRoom_7 : decode cX3_hasRoom 7 = .ok (.aload_n 0, 1) := by decide +kernel
theorem dX3_hasRoom_8 : decode cX3_hasRoom 8 = .ok (.getfield 27, 3) := by decide +kernel
theorem dX3_hasRoom_11 : decode cX3_hasRoom 11 = .ok (.bipush 120, 2) := by decide +kernel
theorem dX3_hasRoom_13 : decode cX3_hasRoom 13 = .ok (.if_icmp .ge 7, 3) := by decide +kernel
theorem dX3_hasRoom_16 : decode cX3_hasRoom 16 = .ok (.iconst 1, 1) := by decide +kernel
theorem dX3_hasRoom_17 : decode cX3_hasRoom 17 = .ok (.goto 4, 3) := by decide +kernel
theorem dX3_hasRoom_20 : decode cX3_hasRoom 20 = .ok (.iconst 0, 1) := by decide +kernel
theorem dX3_hasRoom_21 : decode cX3_hasRoom 21 = .ok (.ireturn, 1) := by decide +kernel
set_option maxRecDepth 20000 in
theorem ggX3_put_X3_hasRoom : GoodIn wsX3_put wsX3_hasRoom := goodIn_r _ [9, 1, 10, 11, 12, 13] (by decide +kernel) (by decide +kernel)
set_option maxRecDepth 20000 in
theorem gX3_put_X3_hasRoom : GoodIn wsX3_put (wsV RX3 31 RX3 yX3_hasRoom wsX3_hasRoom) := goodIn_app (goodIn_of _ (by decide +kernel)) ggX3_put_X3_hasRoom
theorem dX3_put_0 : decode cX3_put 0 = .ok (.aload_n 0, 1) := by decide +kernel
theorem dX3_put_1 : decode cX3_put 1 = .ok (.invokevirtual 31, 3) := by decide +kernel
theorem dX3_put_4 : decode cX3_put 4 = .ok (.ifCond .ne 5, 3) := by decide +kernel
theorem dX3_put_7 : decode cX3_put 7 = .ok (.iconst (-1), 1) := by decide +kernel
theorem dX3_put_8 : decode cX3_put 8 = .ok (.ireturn, 1) := by decide +kernel
theorem dX3_put_9 : decode cX3_put 9 = .ok (.aload_n 0, 1) := by decide +kernel
theorem dX3_put_10 : decode cX3_put 10 = .ok (.getfield 27, 3) := by decide +kernel
theorem dX3_put_13 : decode cX3_put 13 = .ok (.istore_n 2, 1) := by decide +kernel
theorem dX3_put_14 : decode cX3_put 14 = .ok (.aload_n 0, 1) := by decide +kernel
theorem dX3_put_15 : decode cX3_put 15 = .ok (.getfield 9, 3) := by decide +kernel
theorem dX3_put_18 : decode cX3_put 18 = .ok (.iload_n 2, 1) := by decide +kernel
theorem dX3_put_19 : decode cX3_put 19 = .ok (.iload_n 1, 1) := by decide +kernel
theorem dX3_put_20 : decode cX3_put 20 = .ok (.iastore, 1) := by decide +kernel
theorem dX3_put_21 : decode cX3_put 21 = .ok (.aload_n 0, 1) := by decide +kernel
theorem dX3_put_22 : decode cX3_put 22 = .ok (.getfield 15, 3) := by decide +kernel
theorem dX3_put_25 : decode cX3_put 25 = .ok (.iload_n 2, 1) := by decide +kernel
theorem dX3_put_26 : decode cX3_put 26 = .ok (.iconst 1, 1) := by decide +kernel
theorem dX3_put_27 : decode cX3_put 27 = .ok (.iastore, 1) := by decide +kernel
theorem dX3_put_28 : decode cX3_put 28 = .ok (.aload_n 0, 1) := by decide +kernel
theorem dX3_put_29 : decode cX3_put 29 = .ok (.getfield 18, 3) := by decide +kernel
theorem dX3_put_32 : decode cX3_put 32 = .ok (.iload_n 2, 1) := by decide +kernel
theorem dX3_put_33 : decode cX3_put 33 = .ok (.iconst (-1), 1) := by decide +kernel
theorem dX3_put_34 : decode cX3_put 34 = .ok (.iastore, 1) := by decide +kernel
theorem dX3_put_35 : decode cX3_put 35 = .ok (.aload_n 0, 1) := by decide +kernel
theorem dX3_put_36 : decode cX3_put 36 = .ok (.dup, 1) := by decide +kernel
theorem dX3_put_37 : decode cX3_put 37 = .ok (.getfield 27, 3) := by decide +kernel
theorem dX3_put_40 : decode cX3_put 40 = .ok (.iconst 1, 1) := by decide +kernel
theorem dX3_put_41 : decode cX3_put 41 = .ok (.iadd, 1) := by decide +kernel
theorem dX3_put_42 : decode cX3_put 42 = .ok (.putfield 27, 3) := by decide +kernel
theorem dX3_put_45 : decode cX3_put 45 = .ok (.iload_n 2, 1) := by decide +kernel
theorem dX3_put_46 : decode cX3_put 46 = .ok (.ireturn, 1) := by decide +kernel
theorem dX3_keyOf_0 : decode cX3_keyOf 0 = .ok (.iload_n 1, 1) := by decide +kernel
theorem dX3_keyOf_1 : decode cX3_keyOf 1 = .ok (.ifCond .lt 18, 3) := by decide +kernel
theorem dX3_keyOf_4 : decode cX3_keyOf 4 = .ok (.iload_n 1, 1) := by decide +kernel
theorem dX3_keyOf_5 : decode cX3_keyOf 5 = .ok (.bipush 120, 2) := by decide +kernel
theorem dX3_keyOf_7 : decode cX3_keyOf 7 = .ok (.if_icmp .ge 12, 3) := by decide +kernel
theorem dX3_keyOf_10 : decode cX3_keyOf 10 = .ok (.aload_n 0, 1) := by decide +kernel
theorem dX3_keyOf_11 : decode cX3_keyOf 11 = .ok (.getfield 9, 3) := by decide +kernel
theorem dX3_keyOf_14 : decode cX3_keyOf 14 = .ok (.iload_n 1, 1) := by decide +kernel
theorem dX3_keyOf_15 : decode cX3_keyOf 15 = .ok (.iaload, 1) := by decide +kernel
theorem dX3_keyOf_16 : decode cX3_keyOf 16 = .ok (.goto 4, 3) := by decide +kernel
theorem dX3_keyOf_19 : decode cX3_keyOf 19 = .ok (.iconst (-1), 1) := by decide +kernel
theorem dX3_keyOf_20 : decode cX3_keyOf 20 = .ok (.ireturn, 1) := by decide +kernel
theorem dX3_countOf_0 : decode cX3_countOf 0 = .ok (.iload_n 1, 1) := by decide +kernel
theorem dX3_countOf_1 : decode cX3_countOf 1 = .ok (.ifCond .lt 18, 3) := by decide +kernel
theorem dX3_countOf_4 : decode cX3_countOf 4 = .ok (.iload_n 1, 1) := by decide +kernel
theorem dX3_countOf_5 : decode cX3_countOf 5 = .ok (.bipush 120, 2) := by decide +kernel
theorem dX3_countOf_7 : decode cX3_countOf 7 = .ok (.if_icmp .ge 12, 3) := by decide +kernel
theorem dX3_countOf_10 : decode cX3_countOf 10 = .ok (.aload_n 0, 1) := by decide +kernel
theorem dX3_countOf_11 : decode cX3_countOf 11 = .ok (.getfield 15, 3) := by decide +kernel
theorem dX3_countOf_14 : decode cX3_countOf 14 = .ok (.iload_n 1, 1) := by decide +kernel
theorem dX3_countOf_15 : decode cX3_countOf 15 = .ok (.iaload, 1) := by decide +kernel
theorem dX3_countOf_16 : decode cX3_countOf 16 = .ok (.goto 4, 3) := by decide +kernel
theorem dX3_countOf_19 : decode cX3_countOf 19 = .ok (.iconst 0, 1) := by decide +kernel
theorem dX3_countOf_20 : decode cX3_countOf 20 = .ok (.ireturn, 1) := by decide +kernel
theorem dX3_nextOf_0 : decode cX3_nextOf 0 = .ok (.iload_n 1, 1) := by decide +kernel
theorem dX3_nextOf_1 : decode cX3_nextOf 1 = .ok (.ifCond .lt 18, 3) := by decide +kernel
theorem dX3_nextOf_4 : decode cX3_nextOf 4 = .ok (.iload_n 1, 1) := by decide +kernel
theorem dX3_nextOf_5 : decode cX3_nextOf 5 = .ok (.bipush 120, 2) := by decide +kernel
theorem dX3_nextOf_7 : decode cX3_nextOf 7 = .ok (.if_icmp .ge 12, 3) := by decide +kernel
theorem dX3_nextOf_10 : decode cX3_nextOf 10 = .ok (.aload_n 0, 1) := by decide +kernel
theorem dX3_nextOf_11 : decode cX3_nextOf 11 = .ok (.getfield 18, 3) := by decide +kernel
theorem dX3_nextOf_14 : decode cX3_nextOf 14 = .ok (.iload_n 1, 1) := by decide +kernel
theorem dX3_nextOf_15 : decode cX3_nextOf 15 = .ok (.iaload, 1) := by decide +kernel
theorem dX3_nextOf_16 : decode cX3_nextOf 16 = .ok (.goto 4, 3) := by decide +kernel
theorem dX3_nextOf_19 : decode cX3_nextOf 19 = .ok (.iconst (-1), 1) := by decide +kernel
theorem dX3_nextOf_20 : decode cX3_nextOf 20 = .ok (.ireturn, 1) := by decide +kernel
theorem dX3_link_0 : decode cX3_link 0 = .ok (.iload_n 1, 1) := by decide +kernel
theorem dX3_link_1 : decode cX3_link 1 = .ok (.ifCond .lt 16, 3) := by decide +kernel
theorem dX3_link_4 : decode cX3_link 4 = .ok (.iload_n 1, 1) := by decide +kernel
theorem dX3_link_5 : decode cX3_link 5 = .ok (.bipush 120, 2) := by decide +kernel
theorem dX3_link_7 : decode cX3_link 7 = .ok (.if_icmp .ge 10, 3) := by decide +kernel
theorem dX3_link_10 : decode cX3_link 10 = .ok (.aload_n 0, 1) := by decide +kernel
theorem dX3_link_11 : decode cX3_link 11 = .ok (.getfield 18, 3) := by decide +kernel
theorem dX3_link_14 : decode cX3_link 14 = .ok (.iload_n 1, 1) := by decide +kernel
theorem dX3_link_15 : decode cX3_link 15 = .ok (.iload_n 2, 1) := by decide +kernel
theorem dX3_link_16 : decode cX3_link 16 = .ok (.iastore, 1) := by decide +kernel
theorem dX3_link_17 : decode cX3_link 17 = .ok (.return_, 1) := by decide +kernel
set_option maxRecDepth 20000 in
theorem ggX3_rowBehind_X3_nextOf : GoodIn wsX3_rowBehind wsX3_nextOf := goodIn_r _ [5, 6, 7, 8, 9, 10] (by decide +kernel) (by decide +kernel)
set_option maxRecDepth 20000 in
theorem gX3_rowBehind_X3_nextOf : GoodIn wsX3_rowBehind (wsV RX3 35 RX3 yX3_nextOf wsX3_nextOf) := goodIn_app (goodIn_of _ (by decide +kernel)) ggX3_rowBehind_X3_nextOf
theorem dX3_rowBehind_0 : decode cX3_rowBehind 0 = .ok (.iload_n 1, 1) := by decide +kernel
theorem dX3_rowBehind_1 : decode cX3_rowBehind 1 = .ok (.istore_n 3, 1) := by decide +kernel
theorem dX3_rowBehind_2 : decode cX3_rowBehind 2 = .ok (.iconst 0, 1) := by decide +kernel
theorem dX3_rowBehind_3 : decode cX3_rowBehind 3 = .ok (.istore 4, 2) := by decide +kernel
theorem dX3_rowBehind_5 : decode cX3_rowBehind 5 = .ok (.iload 4, 2) := by decide +kernel
theorem dX3_rowBehind_7 : decode cX3_rowBehind 7 = .ok (.iload_n 2, 1) := by decide +kernel
theorem dX3_rowBehind_8 : decode cX3_rowBehind 8 = .ok (.if_icmp .ge 15, 3) := by decide +kernel
theorem dX3_rowBehind_11 : decode cX3_rowBehind 11 = .ok (.aload_n 0, 1) := by decide +kernel
theorem dX3_rowBehind_12 : decode cX3_rowBehind 12 = .ok (.iload_n 3, 1) := by decide +kernel
theorem dX3_rowBehind_13 : decode cX3_rowBehind 13 = .ok (.invokevirtual 35, 3) := by decide +kernel
theorem dX3_rowBehind_16 : decode cX3_rowBehind 16 = .ok (.istore_n 3, 1) := by decide +kernel
theorem dX3_rowBehind_17 : decode cX3_rowBehind 17 = .ok (.iinc 4 1, 3) := by decide +kernel
theorem dX3_rowBehind_20 : decode cX3_rowBehind 20 = .ok (.goto (-15), 3) := by decide +kernel
theorem dX3_rowBehind_23 : decode cX3_rowBehind 23 = .ok (.iload_n 3, 1) := by decide +kernel
theorem dX3_rowBehind_24 : decode cX3_rowBehind 24 = .ok (.ireturn, 1) := by decide +kernel
theorem dX3_comesBefore_0 : decode cX3_comesBefore 0 = .ok (.iload_n 1, 1) := by decide +kernel
theorem dX3_comesBefore_1 : decode cX3_comesBefore 1 = .ok (.ifCond .lt 19, 3) := by decide +kernel
theorem dX3_comesBefore_4 : decode cX3_comesBefore 4 = .ok (.iload_n 1, 1) := by decide +kernel
theorem dX3_comesBefore_5 : decode cX3_comesBefore 5 = .ok (.bipush 120, 2) := by decide +kernel
theorem dX3_comesBefore_7 : decode cX3_comesBefore 7 = .ok (.if_icmp .ge 13, 3) := by decide +kernel
theorem dX3_comesBefore_10 : decode cX3_comesBefore 10 = .ok (.iload_n 2, 1) := by decide +kernel
theorem dX3_comesBefore_11 : decode cX3_comesBefore 11 = .ok (.ifCond .lt 9, 3) := by decide +kernel
theorem dX3_comesBefore_14 : decode cX3_comesBefore 14 = .ok (.iload_n 2, 1) := by decide +kernel
theorem dX3_comesBefore_15 : decode cX3_comesBefore 15 = .ok (.bipush 120, 2) := by decide +kernel
theorem dX3_comesBefore_17 : decode cX3_comesBefore 17 = .ok (.if_icmp .lt 5, 3) := by decide +kernel
theorem dX3_comesBefore_20 : decode cX3_comesBefore 20 = .ok (.iconst 0, 1) := by decide +kernel
theorem dX3_comesBefore_21 : decode cX3_comesBefore 21 = .ok (.ireturn, 1) := by decide +kernel
theorem dX3_comesBefore_22 : decode cX3_comesBefore 22 = .ok (.aload_n 0, 1) := by decide +kernel
theorem dX3_comesBefore_23 : decode cX3_comesBefore 23 = .ok (.getfield 9, 3) := by decide +kernel
theorem dX3_comesBefore_26 : decode cX3_comesBefore 26 = .ok (.iload_n 1, 1) := by decide +kernel
theorem dX3_comesBefore_27 : decode cX3_comesBefore 27 = .ok (.iaload, 1) := by decide +kernel
theorem dX3_comesBefore_28 : decode cX3_comesBefore 28 = .ok (.aload_n 0, 1) := by decide +kernel
theorem dX3_comesBefore_29 : decode cX3_comesBefore 29 = .ok (.getfield 9, 3) := by decide +kernel
theorem dX3_comesBefore_32 : decode cX3_comesBefore 32 = .ok (.iload_n 2, 1) := by decide +kernel
theorem dX3_comesBefore_33 : decode cX3_comesBefore 33 = .ok (.iaload, 1) := by decide +kernel
theorem dX3_comesBefore_34 : decode cX3_comesBefore 34 = .ok (.if_icmp .lt 23, 3) := by decide +kernel
theorem dX3_comesBefore_37 : decode cX3_comesBefore 37 = .ok (.aload_n 0, 1) := by decide +kernel
theorem dX3_comesBefore_38 : decode cX3_comesBefore 38 = .ok (.getfield 9, 3) := by decide +kernel
theorem dX3_comesBefore_41 : decode cX3_comesBefore 41 = .ok (.iload_n 1, 1) := by decide +kernel
theorem dX3_comesBefore_42 : decode cX3_comesBefore 42 = .ok (.iaload, 1) := by decide +kernel
theorem dX3_comesBefore_43 : decode cX3_comesBefore 43 = .ok (.aload_n 0, 1) := by decide +kernel
theorem dX3_comesBefore_44 : decode cX3_comesBefore 44 = .ok (.getfield 9, 3) := by decide +kernel
theorem dX3_comesBefore_47 : decode cX3_comesBefore 47 = .ok (.iload_n 2, 1) := by decide +kernel
theorem dX3_comesBefore_48 : decode cX3_comesBefore 48 = .ok (.iaload, 1) := by decide +kernel
theorem dX3_comesBefore_49 : decode cX3_comesBefore 49 = .ok (.if_icmp .ne 12, 3) := by decide +kernel
theorem dX3_comesBefore_52 : decode cX3_comesBefore 52 = .ok (.iload_n 1, 1) := by decide +kernel
theorem dX3_comesBefore_53 : decode cX3_comesBefore 53 = .ok (.iload_n 2, 1) := by decide +kernel
theorem dX3_comesBefore_54 : decode cX3_comesBefore 54 = .ok (.if_icmp .ge 7, 3) := by decide +kernel
theorem dX3_comesBefore_57 : decode cX3_comesBefore 57 = .ok (.iconst 1, 1) := by decide +kernel
theorem dX3_comesBefore_58 : decode cX3_comesBefore 58 = .ok (.goto 4, 3) := by decide +kernel
theorem dX3_comesBefore_61 : decode cX3_comesBefore 61 = .ok (.iconst 0, 1) := by decide +kernel
theorem dX3_comesBefore_62 : decode cX3_comesBefore 62 = .ok (.ireturn, 1) := by decide +kernel
theorem dX3_absorb_0 : decode cX3_absorb 0 = .ok (.iload_n 1, 1) := by decide +kernel
theorem dX3_absorb_1 : decode cX3_absorb 1 = .ok (.ifCond .lt 41, 3) := by decide +kernel
theorem dX3_absorb_4 : decode cX3_absorb 4 = .ok (.iload_n 1, 1) := by decide +kernel
theorem dX3_absorb_5 : decode cX3_absorb 5 = .ok (.bipush 120, 2) := by decide +kernel
theorem dX3_absorb_7 : decode cX3_absorb 7 = .ok (.if_icmp .ge 35, 3) := by decide +kernel
theorem dX3_absorb_10 : decode cX3_absorb 10 = .ok (.iload_n 2, 1) := by decide +kernel
theorem dX3_absorb_11 : decode cX3_absorb 11 = .ok (.ifCond .lt 31, 3) := by decide +kernel
theorem dX3_absorb_14 : decode cX3_absorb 14 = .ok (.iload_n 2, 1) := by decide +kernel
theorem dX3_absorb_15 : decode cX3_absorb 15 = .ok (.bipush 120, 2) := by decide +kernel
theorem dX3_absorb_17 : decode cX3_absorb 17 = .ok (.if_icmp .ge 25, 3) := by decide +kernel
theorem dX3_absorb_20 : decode cX3_absorb 20 = .ok (.aload_n 0, 1) := by decide +kernel
theorem dX3_absorb_21 : decode cX3_absorb 21 = .ok (.getfield 15, 3) := by decide +kernel
theorem dX3_absorb_24 : decode cX3_absorb 24 = .ok (.iload_n 1, 1) := by decide +kernel
theorem dX3_absorb_25 : decode cX3_absorb 25 = .ok (.dup2, 1) := by decide +kernel
theorem dX3_absorb_26 : decode cX3_absorb 26 = .ok (.iaload, 1) := by decide +kernel
theorem dX3_absorb_27 : decode cX3_absorb 27 = .ok (.aload_n 0, 1) := by decide +kernel
theorem dX3_absorb_28 : decode cX3_absorb 28 = .ok (.getfield 15, 3) := by decide +kernel
theorem dX3_absorb_31 : decode cX3_absorb 31 = .ok (.iload_n 2, 1) := by decide +kernel
theorem dX3_absorb_32 : decode cX3_absorb 32 = .ok (.iaload, 1) := by decide +kernel
theorem dX3_absorb_33 : decode cX3_absorb 33 = .ok (.iadd, 1) := by decide +kernel
theorem dX3_absorb_34 : decode cX3_absorb 34 = .ok (.iastore, 1) := by decide +kernel
theorem dX3_absorb_35 : decode cX3_absorb 35 = .ok (.aload_n 0, 1) := by decide +kernel
theorem dX3_absorb_36 : decode cX3_absorb 36 = .ok (.getfield 15, 3) := by decide +kernel
theorem dX3_absorb_39 : decode cX3_absorb 39 = .ok (.iload_n 2, 1) := by decide +kernel
theorem dX3_absorb_40 : decode cX3_absorb 40 = .ok (.iconst 0, 1) := by decide +kernel
theorem dX3_absorb_41 : decode cX3_absorb 41 = .ok (.iastore, 1) := by decide +kernel
theorem dX3_absorb_42 : decode cX3_absorb 42 = .ok (.return_, 1) := by decide +kernel
set_option maxRecDepth 20000 in
theorem ggX3_rowsKept_X3_countOf : GoodIn wsX3_rowsKept wsX3_countOf := goodIn_r _ [6, 7, 8, 9, 10, 11] (by decide +kernel) (by decide +kernel)
set_option maxRecDepth 20000 in
theorem gX3_rowsKept_X3_countOf : GoodIn wsX3_rowsKept (wsV RX3 39 RX3 yX3_countOf wsX3_countOf) := goodIn_app (goodIn_of _ (by decide +kernel)) ggX3_rowsKept_X3_countOf
theorem dX3_rowsKept_0 : decode cX3_rowsKept 0 = .ok (.iconst 0, 1) := by decide +kernel
theorem dX3_rowsKept_1 : decode cX3_rowsKept 1 = .ok (.istore_n 1, 1) := by decide +kernel
theorem dX3_rowsKept_2 : decode cX3_rowsKept 2 = .ok (.iconst 0, 1) := by decide +kernel
theorem dX3_rowsKept_3 : decode cX3_rowsKept 3 = .ok (.istore_n 2, 1) := by decide +kernel
theorem dX3_rowsKept_4 : decode cX3_rowsKept 4 = .ok (.iload_n 2, 1) := by decide +kernel
theorem dX3_rowsKept_5 : decode cX3_rowsKept 5 = .ok (.aload_n 0, 1) := by decide +kernel
theorem dX3_rowsKept_6 : decode cX3_rowsKept 6 = .ok (.getfield 27, 3) := by decide +kernel
theorem dX3_rowsKept_9 : decode cX3_rowsKept 9 = .ok (.if_icmp .ge 20, 3) := by decide +kernel
theorem dX3_rowsKept_12 : decode cX3_rowsKept 12 = .ok (.aload_n 0, 1) := by decide +kernel
theorem dX3_rowsKept_13 : decode cX3_rowsKept 13 = .ok (.iload_n 2, 1) := by decide +kernel
theorem dX3_rowsKept_14 : decode cX3_rowsKept 14 = .ok (.invokevirtual 39, 3) := by decide +kernel
theorem dX3_rowsKept_17 : decode cX3_rowsKept 17 = .ok (.ifCond .le 6, 3) := by decide +kernel
theorem dX3_rowsKept_20 : decode cX3_rowsKept 20 = .ok (.iinc 1 1, 3) := by decide +kernel
theorem dX3_rowsKept_23 : decode cX3_rowsKept 23 = .ok (.iinc 2 1, 3) := by decide +kernel
theorem dX3_rowsKept_26 : decode cX3_rowsKept 26 = .ok (.goto (-22), 3) := by decide +kernel
theorem dX3_rowsKept_29 : decode cX3_rowsKept 29 = .ok (.iload_n 1, 1) := by decide +kernel
theorem dX3_rowsKept_30 : decode cX3_rowsKept 30 = .ok (.ireturn, 1) := by decide +kernel
set_option maxRecDepth 20000 in
theorem ggX3_countsBelow_X3_keyOf : GoodIn wsX3_countsBelow wsX3_keyOf := goodIn_r _ [6, 7, 13, 14, 15, 16] (by decide +kernel) (by decide +kernel)
set_option maxRecDepth 20000 in
theorem gX3_countsBelow_X3_keyOf : GoodIn wsX3_countsBelow (wsV RX3 42 RX3 yX3_keyOf wsX3_keyOf) := goodIn_app (goodIn_of _ (by decide +kernel)) ggX3_countsBelow_X3_keyOf
set_option maxRecDepth 20000 in
theorem ggX3_countsBelow_X3_countOf : GoodIn wsX3_countsBelow wsX3_countOf := goodIn_r _ [11, 12, 13, 14, 15, 16] (by decide +kernel) (by decide +kernel)
set_option maxRecDepth 20000 in
theorem gX3_countsBelow_X3_countOf : GoodIn wsX3_countsBelow (wsV RX3 39 RX3 yX3_countOf wsX3_countOf) := goodIn_app (goodIn_of _ (by decide +kernel)) ggX3_countsBelow_X3_countOf
theorem dX3_countsBelow_0 : decode cX3_countsBelow 0 = .ok (.iconst 0, 1) := by decide +kernel
theorem dX3_countsBelow_1 : decode cX3_countsBelow 1 = .ok (.istore_n 2, 1) := by decide +kernel
theorem dX3_countsBelow_2 : decode cX3_countsBelow 2 = .ok (.iconst 0, 1) := by decide +kernel
theorem dX3_countsBelow_3 : decode cX3_countsBelow 3 = .ok (.istore_n 3, 1) := by decide +kernel
theorem dX3_countsBelow_4 : decode cX3_countsBelow 4 = .ok (.iload_n 3, 1) := by decide +kernel
theorem dX3_countsBelow_5 : decode cX3_countsBelow 5 = .ok (.aload_n 0, 1) := by decide +kernel
theorem dX3_countsBelow_6 : decode cX3_countsBelow 6 = .ok (.getfield 27, 3) := by decide +kernel
theorem dX3_countsBelow_9 : decode cX3_countsBelow 9 = .ok (.if_icmp .ge 26, 3) := by decide +kernel
theorem dX3_countsBelow_12 : decode cX3_countsBelow 12 = .ok (.aload_n 0, 1) := by decide +kernel
theorem dX3_countsBelow_13 : decode cX3_countsBelow 13 = .ok (.iload_n 3, 1) := by decide +kernel
theorem dX3_countsBelow_14 : decode cX3_countsBelow 14 = .ok (.invokevirtual 42, 3) := by decide +kernel
theorem dX3_countsBelow_17 : decode cX3_countsBelow 17 = .ok (.iload_n 1, 1) := by decide +kernel
theorem dX3_countsBelow_18 : decode cX3_countsBelow 18 = .ok (.if_icmp .ge 11, 3) := by decide +kernel
theorem dX3_countsBelow_21 : decode cX3_countsBelow 21 = .ok (.iload_n 2, 1) := by decide +kernel
theorem dX3_countsBelow_22 : decode cX3_countsBelow 22 = .ok (.aload_n 0, 1) := by decide +kernel
theorem dX3_countsBelow_23 : decode cX3_countsBelow 23 = .ok (.iload_n 3, 1) := by decide +kernel
theorem dX3_countsBelow_24 : decode cX3_countsBelow 24 = .ok (.invokevirtual 39, 3) := by decide +kernel
theorem dX3_countsBelow_27 : decode cX3_countsBelow 27 = .ok (.iadd, 1) := by decide +kernel
theorem dX3_countsBelow_28 : decode cX3_countsBelow 28 = .ok (.istore_n 2, 1) := by decide +kernel
theorem dX3_countsBelow_29 : decode cX3_countsBelow 29 = .ok (.iinc 3 1, 3) := by decide +kernel
theorem dX3_countsBelow_32 : decode cX3_countsBelow 32 = .ok (.goto (-28), 3) := by decide +kernel
theorem dX3_countsBelow_35 : decode cX3_countsBelow 35 = .ok (.iload_n 2, 1) := by decide +kernel
theorem dX3_countsBelow_36 : decode cX3_countsBelow 36 = .ok (.ireturn, 1) := by decide +kernel
theorem dX4_init_0 : decode cX4_init 0 = .ok (.aload_n 0, 1) := by decide +kernel
theorem dX4_init_1 : decode cX4_init 1 = .ok (.invokespecial 3, 3) := by decide +kernel
theorem dX4_init_4 : decode cX4_init 4 = .ok (.aload_n 0, 1) := by decide +kernel
theorem dX4_init_5 : decode cX4_init 5 = .ok (.bipush 120, 2) := by decide +kernel
theorem dX4_init_7 : decode cX4_init 7 = .ok (.newarray .int, 2) := by decide +kernel
theorem dX4_init_9 : decode cX4_init 9 = .ok (.putfield 9, 3) := by decide +kernel
theorem dX4_init_12 : decode cX4_init 12 = .ok (.aload_n 0, 1) := by decide +kernel
theorem dX4_init_13 : decode cX4_init 13 = .ok (.bipush 120, 2) := by decide +kernel
theorem dX4_init_15 : decode cX4_init 15 = .ok (.newarray .int, 2) := by decide +kernel
theorem dX4_init_17 : decode cX4_init 17 = .ok (.putfield 15, 3) := by decide +kernel
theorem dX4_init_20 : decode cX4_init 20 = .ok (.aload_n 0, 1) := by decide +kernel
theorem dX4_init_21 : decode cX4_init 21 = .ok (.bipush 120, 2) := by decide +kernel
theorem dX4_init_23 : decode cX4_init 23 = .ok (.newarray .int, 2) := by decide +kernel
theorem dX4_init_25 : decode cX4_init 25 = .ok (.putfield 18, 3) := by decide +kernel
theorem dX4_init_28 : decode cX4_init 28 = .ok (.return_, 1) := by decide +kernel
theorem dX4_copyFrom_0 : decode cX4_copyFrom 0 = .ok (.aload_n 1, 1) := by decide +kernel
theorem dX4_copyFrom_1 : decode cX4_copyFrom 1 = .ok (.getfield 9, 3) := by decide +kernel
theorem dX4_copyFrom_4 : decode cX4_copyFrom 4 = .ok (.iconst 0, 1) := by decide +kernel
theorem dX4_copyFrom_5 : decode cX4_copyFrom 5 = .ok (.aload_n 0, 1) := by decide +kernel
theorem dX4_copyFrom_6 : decode cX4_copyFrom 6 = .ok (.getfield 9, 3) := by decide +kernel
theorem dX4_copyFrom_9 : decode cX4_copyFrom 9 = .ok (.iconst 0, 1) := by decide +kernel
theorem dX4_copyFrom_10 : decode cX4_copyFrom 10 = .ok (.bipush 120, 2) := by decide +kernel
theorem dX4_copyFrom_12 : decode cX4_copyFrom 12 = .ok (.invokestatic 21, 3) := by decide +kernel
theorem dX4_copyFrom_15 : decode cX4_copyFrom 15 = .ok (.aload_n 1, 1) := by decide +kernel
theorem dX4_copyFrom_16 : decode cX4_copyFrom 16 = .ok (.getfield 15, 3) := by decide +kernel
theorem dX4_copyFrom_19 : decode cX4_copyFrom 19 = .ok (.iconst 0, 1) := by decide +kernel
theorem dX4_copyFrom_20 : decode cX4_copyFrom 20 = .ok (.aload_n 0, 1) := by decide +kernel
theorem dX4_copyFrom_21 : decode cX4_copyFrom 21 = .ok (.getfield 15, 3) := by decide +kernel
theorem dX4_copyFrom_24 : decode cX4_copyFrom 24 = .ok (.iconst 0, 1) := by decide +kernel
theorem dX4_copyFrom_25 : decode cX4_copyFrom 25 = .ok (.bipush 120, 2) := by decide +kernel
theorem dX4_copyFrom_27 : decode cX4_copyFrom 27 = .ok (.invokestatic 21, 3) := by decide +kernel
theorem dX4_copyFrom_30 : decode cX4_copyFrom 30 = .ok (.aload_n 1, 1) := by decide +kernel
theorem dX4_copyFrom_31 : decode cX4_copyFrom 31 = .ok (.getfield 18, 3) := by decide +kernel
theorem dX4_copyFrom_34 : decode cX4_copyFrom 34 = .ok (.iconst 0, 1) := by decide +kernel
theorem dX4_copyFrom_35 : decode cX4_copyFrom 35 = .ok (.aload_n 0, 1) := by decide +kernel
theorem dX4_copyFrom_36 : decode cX4_copyFrom 36 = .ok (.getfield 18, 3) := by decide +kernel
theorem dX4_copyFrom_39 : decode cX4_copyFrom 39 = .ok (.iconst 0, 1) := by decide +kernel
theorem dX4_copyFrom_40 : decode cX4_copyFrom 40 = .ok (.bipush 120, 2) := by decide +kernel
theorem dX4_copyFrom_42 : decode cX4_copyFrom 42 = .ok (.invokestatic 21, 3) := by decide +kernel
theorem dX4_copyFrom_45 : decode cX4_copyFrom 45 = .ok (.aload_n 0, 1) := by decide +kernel
theorem dX4_copyFrom_46 : decode cX4_copyFrom 46 = .ok (.aload_n 1, 1) := by decide +kernel
theorem dX4_copyFrom_47 : decode cX4_copyFrom 47 = .ok (.getfield 27, 3) := by decide +kernel
theorem dX4_copyFrom_50 : decode cX4_copyFrom 50 = .ok (.putfield 27, 3) := by decide +kernel
theorem dX4_copyFrom_53 : decode cX4_copyFrom 53 = .ok (.return_, 1) := by decide +kernel
theorem dX4_has_0 : decode cX4_has 0 = .ok (.iload_n 1, 1) := by decide +kernel
theorem dX4_has_1 : decode cX4_has 1 = .ok (.ifCond .lt 15, 3) := by decide +kernel
theorem dX4_has_4 : decode cX4_has 4 = .ok (.iload_n 1, 1) := by decide +kernel
theorem dX4_has_5 : decode cX4_has 5 = .ok (.aload_n 0, 1) := by decide +kernel
theorem dX4_has_6 : decode cX4_has 6 = .ok (.getfield 27, 3) := by decide +kernel
theorem dX4_has_9 : decode cX4_has 9 = .ok (.if_icmp .ge 7, 3) := by decide +kernel
theorem dX4_has_12 : decode cX4_has 12 = .ok (.iconst 1, 1) := by decide +kernel
theorem dX4_has_13 : decode cX4_has 13 = .ok (.goto 4, 3) := by decide +kernel
theorem dX4_has_16 : decode cX4_has 16 = .ok (.iconst 0, 1) := by decide +kernel
theorem dX4_has_17 : decode cX4_has 17 = .ok (.ireturn, 1) := by decide +kernel
theorem dX4_numberAt_0 : decode cX4_numberAt 0 = .ok (.iload_n 1, 1) := by decide +kernel
theorem dX4_numberAt_1 : decode cX4_numberAt 1 = .ok (.ifCond .lt 18, 3) := by decide +kernel
theorem dX4_numberAt_4 : decode cX4_numberAt 4 = .ok (.iload_n 1, 1) := by decide +kernel
theorem dX4_numberAt_5 : decode cX4_numberAt 5 = .ok (.bipush 120, 2) := by decide +kernel
theorem dX4_numberAt_7 : decode cX4_numberAt 7 = .ok (.if_icmp .ge 12, 3) := by decide +kernel
theorem dX4_numberAt_10 : decode cX4_numberAt 10 = .ok (.aload_n 0, 1) := by decide +kernel
theorem dX4_numberAt_11 : decode cX4_numberAt 11 = .ok (.getfield 9, 3) := by decide +kernel
theorem dX4_numberAt_14 : decode cX4_numberAt 14 = .ok (.iload_n 1, 1) := by decide +kernel
theorem dX4_numberAt_15 : decode cX4_numberAt 15 = .ok (.iaload, 1) := by decide +kernel
theorem dX4_numberAt_16 : decode cX4_numberAt 16 = .ok (.goto 4, 3) := by decide +kernel
theorem dX4_numberAt_19 : decode cX4_numberAt 19 = .ok (.iconst (-1), 1) := by decide +kernel
theorem dX4_numberAt_20 : decode cX4_numberAt 20 = .ok (.ireturn, 1) := by decide +kernel
theorem dX4_firstAt_0 : decode cX4_firstAt 0 = .ok (.iload_n 1, 1) := by decide +kernel
theorem dX4_firstAt_1 : decode cX4_firstAt 1 = .ok (.ifCond .lt 18, 3) := by decide +kernel
theorem dX4_firstAt_4 : decode cX4_firstAt 4 = .ok (.iload_n 1, 1) := by decide +kernel
theorem dX4_firstAt_5 : decode cX4_firstAt 5 = .ok (.bipush 120, 2) := by decide +kernel
theorem dX4_firstAt_7 : decode cX4_firstAt 7 = .ok (.if_icmp .ge 12, 3) := by decide +kernel
theorem dX4_firstAt_10 : decode cX4_firstAt 10 = .ok (.aload_n 0, 1) := by decide +kernel
theorem dX4_firstAt_11 : decode cX4_firstAt 11 = .ok (.getfield 15, 3) := by decide +kernel
theorem dX4_firstAt_14 : decode cX4_firstAt 14 = .ok (.iload_n 1, 1) := by decide +kernel
theorem dX4_firstAt_15 : decode cX4_firstAt 15 = .ok (.iaload, 1) := by decide +kernel
theorem dX4_firstAt_16 : decode cX4_firstAt 16 = .ok (.goto 4, 3) := by decide +kernel
theorem dX4_firstAt_19 : decode cX4_firstAt 19 = .ok (.iconst (-1), 1) := by decide +kernel
theorem dX4_firstAt_20 : decode cX4_firstAt 20 = .ok (.ireturn, 1) := by decide +kernel
theorem dX4_lengthAt_0 : decode cX4_lengthAt 0 = .ok (.iload_n 1, 1) := by decide +kernel
theorem dX4_lengthAt_1 : decode cX4_lengthAt 1 = .ok (.ifCond .lt 18, 3) := by decide +kernel
theorem dX4_lengthAt_4 : decode cX4_lengthAt 4 = .ok (.iload_n 1, 1) := by decide +kernel
theorem dX4_lengthAt_5 : decode cX4_lengthAt 5 = .ok (.bipush 120, 2) := by decide +kernel
theorem dX4_lengthAt_7 : decode cX4_lengthAt 7 = .ok (.if_icmp .ge 12, 3) := by decide +kernel
theorem dX4_lengthAt_10 : decode cX4_lengthAt 10 = .ok (.aload_n 0, 1) := by decide +kernel
theorem dX4_lengthAt_11 : decode cX4_lengthAt 11 = .ok (.getfield 18, 3) := by decide +kernel
theorem dX4_lengthAt_14 : decode cX4_lengthAt 14 = .ok (.iload_n 1, 1) := by decide +kernel
theorem dX4_lengthAt_15 : decode cX4_lengthAt 15 = .ok (.iaload, 1) := by decide +kernel
theorem dX4_lengthAt_16 : decode cX4_lengthAt 16 = .ok (.goto 4, 3) := by decide +kernel
theorem dX4_lengthAt_19 : decode cX4_lengthAt 19 = .ok (.iconst 0, 1) := by decide +kernel
theorem dX4_lengthAt_20 : decode cX4_lengthAt 20 = .ok (.ireturn, 1) := by decide +kernel
set_option maxRecDepth 20000 in
theorem ggX4_placeOf_X4_numberAt : GoodIn wsX4_placeOf wsX4_numberAt := goodIn_r _ [6, 7, 8, 9, 10, 11] (by decide +kernel) (by decide +kernel)
set_option maxRecDepth 20000 in
theorem gX4_placeOf_X4_numberAt : GoodIn wsX4_placeOf (wsV RX4 31 RX4 yX4_numberAt wsX4_numberAt) := goodIn_app (goodIn_of _ (by decide +kernel)) ggX4_placeOf_X4_numberAt
theorem dX4_placeOf_0 : decode cX4_placeOf 0 = .ok (.iconst 0, 1) := by decide +kernel
theorem dX4_placeOf_1 : decode cX4_placeOf 1 = .ok (.istore_n 2, 1) := by decide +kernel
theorem dX4_placeOf_2 : decode cX4_placeOf 2 = .ok (.iload_n 2, 1) := by decide +kernel
theorem dX4_placeOf_3 : decode cX4_placeOf 3 = .ok (.aload_n 0, 1) := by decide +kernel
theorem dX4_placeOf_4 : decode cX4_placeOf 4 = .ok (.getfield 27, 3) := by decide +kernel
theorem dX4_placeOf_7 : decode cX4_placeOf 7 = .ok (.if_icmp .ge 20, 3) := by decide +kernel
theorem dX4_placeOf_10 : decode cX4_placeOf 10 = .ok (.aload_n 0, 1) := by decide +kernel
theorem dX4_placeOf_11 : decode cX4_placeOf 11 = .ok (.iload_n 2, 1) := by decide +kernel
theorem dX4_placeOf_12 : decode cX4_placeOf 12 = .ok (.invokevirtual 31, 3) := by decide +kernel
theorem dX4_placeOf_15 : decode cX4_placeOf 15 = .ok (.iload_n 1, 1) := by decide +kernel
theorem dX4_placeOf_16 : decode cX4_placeOf 16 = .ok (.if_icmp .ne 5, 3) := by decide +kernel
theorem dX4_placeOf_19 : decode cX4_placeOf 19 = .ok (.iload_n 2, 1) := by decide +kernel
theorem dX4_placeOf_20 : decode cX4_placeOf 20 = .ok (.ireturn, 1) := by decide +kernel
theorem dX4_placeOf_21 : decode cX4_placeOf 21 = .ok (.iinc 2 1, 3) := by decide +kernel
theorem dX4_placeOf_24 : decode cX4_placeOf 24 = .ok (.goto (-22), 3) := by decide +kernel
theorem dX4_placeOf_27 : decode cX4_placeOf 27 = .ok (.iconst (-1), 1) := by decide +kernel
theorem dX4_placeOf_28 : decode cX4_placeOf 28 = .ok (.ireturn, 1) := by decide +kernel
set_option maxRecDepth 20000 in
theorem ggX4_placeOfShortest_X4_lengthAt : GoodIn wsX4_placeOfShortest wsX4_lengthAt := goodIn_r _ [6, 7, 8, 9, 10, 11] (by decide +kernel) (by decide +kernel)
set_option maxRecDepth 20000 in
theorem gX4_placeOfShortest_X4_lengthAt : GoodIn wsX4_placeOfShortest (wsV RX4 35 RX4 yX4_lengthAt wsX4_lengthAt) := goodIn_app (goodIn_of _ (by decide +kernel)) ggX4_placeOfShortest_X4_lengthAt
theorem dX4_placeOfShortest_0 : decode cX4_placeOfShortest 0 = .ok (.iconst 0, 1) := by decide +kernel
theorem dX4_placeOfShortest_1 : decode cX4_placeOfShortest 1 = .ok (.istore_n 1, 1) := by decide +kernel
theorem dX4_placeOfShortest_2 : decode cX4_placeOfShortest 2 = .ok (.iconst 1, 1) := by decide +kernel
theorem dX4_placeOfShortest_3 : decode cX4_placeOfShortest 3 = .ok (.istore_n 2, 1) := by decide +kernel
theorem dX4_placeOfShortest_4 : decode cX4_placeOfShortest 4 = .ok (.iload_n 2, 1) := by decide +kernel
theorem dX4_placeOfShortest_5 : decode cX4_placeOfShortest 5 = .ok (.aload_n 0, 1) := by decide +kernel
theorem dX4_placeOfShortest_6 : decode cX4_placeOfShortest 6 = .ok (.getfield 27, 3) := by decide +kernel
theorem dX4_placeOfShortest_9 : decode cX4_placeOfShortest 9 = .ok (.if_icmp .ge 24, 3) := by decide +kernel
theorem dX4_placeOfShortest_12 : decode cX4_placeOfShortest 12 = .ok (.aload_n 0, 1) := by decide +kernel
theorem dX4_placeOfShortest_13 : decode cX4_placeOfShortest 13 = .ok (.iload_n 2, 1) := by decide +kernel
theorem dX4_placeOfShortest_14 : decode cX4_placeOfShortest 14 = .ok (.invokevirtual 35, 3) := by decide +kernel
theorem dX4_placeOfShortest_17 : decode cX4_placeOfShortest 17 = .ok (.aload_n 0, 1) := by decide +kernel
theorem dX4_placeOfShortest_18 : decode cX4_placeOfShortest 18 = .ok (.iload_n 1, 1) := by decide +kernel
theorem dX4_placeOfShortest_19 : decode cX4_placeOfShortest 19 = .ok (.invokevirtual 35, 3) := by decide +kernel
theorem dX4_placeOfShortest_22 : decode cX4_placeOfShortest 22 = .ok (.if_icmp .ge 5, 3) := by decide +kernel
theorem dX4_placeOfShortest_25 : decode cX4_placeOfShortest 25 = .ok (.iload_n 2, 1) := by decide +kernel
theorem dX4_placeOfShortest_26 : decode cX4_placeOfShortest 26 = .ok (.istore_n 1, 1) := by decide +kernel
theorem dX4_placeOfShortest_27 : decode cX4_placeOfShortest 27 = .ok (.iinc 2 1, 3) := by decide +kernel
theorem dX4_placeOfShortest_30 : decode cX4_placeOfShortest 30 = .ok (.goto (-26), 3) := by decide +kernel
theorem dX4_placeOfShortest_33 : decode cX4_placeOfShortest 33 = .ok (.iload_n 1, 1) := by decide +kernel
theorem dX4_placeOfShortest_34 : decode cX4_placeOfShortest 34 = .ok (.ireturn, 1) := by decide +kernel
set_option maxRecDepth 20000 in
theorem ggX4_rowsInAll_X4_lengthAt : GoodIn wsX4_rowsInAll wsX4_lengthAt := goodIn_r _ [6, 7, 8, 9, 10, 11] (by decide +kernel) (by decide +kernel)
set_option maxRecDepth 20000 in
theorem gX4_rowsInAll_X4_lengthAt : GoodIn wsX4_rowsInAll (wsV RX4 35 RX4 yX4_lengthAt wsX4_lengthAt) := goodIn_app (goodIn_of _ (by decide +kernel)) ggX4_rowsInAll_X4_lengthAt
theorem dX4_rowsInAll_0 : decode cX4_rowsInAll 0 = .ok (.iconst 0, 1) := by decide +kernel
theorem dX4_rowsInAll_1 : decode cX4_rowsInAll 1 = .ok (.istore_n 1, 1) := by decide +kernel
theorem dX4_rowsInAll_2 : decode cX4_rowsInAll 2 = .ok (.iconst 0, 1) := by decide +kernel
theorem dX4_rowsInAll_3 : decode cX4_rowsInAll 3 = .ok (.istore_n 2, 1) := by decide +kernel
theorem dX4_rowsInAll_4 : decode cX4_rowsInAll 4 = .ok (.iload_n 2, 1) := by decide +kernel
theorem dX4_rowsInAll_5 : decode cX4_rowsInAll 5 = .ok (.aload_n 0, 1) := by decide +kernel
theorem dX4_rowsInAll_6 : decode cX4_rowsInAll 6 = .ok (.getfield 27, 3) := by decide +kernel
theorem dX4_rowsInAll_9 : decode cX4_rowsInAll 9 = .ok (.if_icmp .ge 17, 3) := by decide +kernel
theorem dX4_rowsInAll_12 : decode cX4_rowsInAll 12 = .ok (.iload_n 1, 1) := by decide +kernel
theorem dX4_rowsInAll_13 : decode cX4_rowsInAll 13 = .ok (.aload_n 0, 1) := by decide +kernel
theorem dX4_rowsInAll_14 : decode cX4_rowsInAll 14 = .ok (.iload_n 2, 1) := by decide +kernel
theorem dX4_rowsInAll_15 : decode cX4_rowsInAll 15 = .ok (.invokevirtual 35, 3) := by decide +kernel
theorem dX4_rowsInAll_18 : decode cX4_rowsInAll 18 = .ok (.iadd, 1) := by decide +kernel
theorem dX4_rowsInAll_19 : decode cX4_rowsInAll 19 = .ok (.istore_n 1, 1) := by decide +kernel
theorem dX4_rowsInAll_20 : decode cX4_rowsInAll 20 = .ok (.iinc 2 1, 3) := by decide +kernel
theorem dX4_rowsInAll_23 : decode cX4_rowsInAll 23 = .ok (.goto (-19), 3) := by decide +kernel
theorem dX4_rowsInAll_26 : decode cX4_rowsInAll 26 = .ok (.iload_n 1, 1) := by decide +kernel
theorem dX4_rowsInAll_27 : decode cX4_rowsInAll 27 = .ok (.ireturn, 1) := by decide +kernel
theorem dX4_insert_0 : decode cX4_insert 0 = .ok (.aload_n 0, 1) := by decide +kernel
theorem dX4_insert_1 : decode cX4_insert 1 = .ok (.getfield 27, 3) := by decide +kernel
theorem dX4_insert_4 : decode cX4_insert 4 = .ok (.ifCond .lt 12, 3) := by decide +kernel
theorem dX4_insert_7 : decode cX4_insert 7 = .ok (.aload_n 0, 1) := by decide +kernel
theorem dX4_insert_8 : decode cX4_insert 8 = .ok (.getfield 27, 3) := by decide +kernel
theorem dX4_insert_11 : decode cX4_insert 11 = .ok (.bipush 120, 2) := by decide +kernel
theorem dX4_insert_13 : decode cX4_insert 13 = .ok (.if_icmp .lt 4, 3) := by decide +kernel
theorem dX4_insert_16 : decode cX4_insert 16 = .ok (.return_, 1) := by decide +kernel
theorem dX4_insert_17 : decode cX4_insert 17 = .ok (.aload_n 0, 1) := by decide +kernel
theorem dX4_insert_18 : decode cX4_insert 18 = .ok (.getfield 27, 3) := by decide +kernel
theorem dX4_insert_21 : decode cX4_insert 21 = .ok (.istore 4, 2) := by decide +kernel
theorem dX4_insert_23 : decode cX4_insert 23 = .ok (.iload 4, 2) := by decide +kernel
theorem dX4_insert_25 : decode cX4_insert 25 = .ok (.ifCond .le 70, 3) := by decide +kernel
theorem dX4_insert_28 : decode cX4_insert 28 = .ok (.aload_n 0, 1) := by decide +kernel
theorem dX4_insert_29 : decode cX4_insert 29 = .ok (.getfield 9, 3) := by decide +kernel
theorem dX4_insert_32 : decode cX4_insert 32 = .ok (.iload 4, 2) := by decide +kernel
theorem dX4_insert_34 : decode cX4_insert 34 = .ok (.iconst 1, 1) := by decide +kernel
theorem dX4_insert_35 : decode cX4_insert 35 = .ok (.isub, 1) := by decide +kernel
theorem dX4_insert_36 : decode cX4_insert 36 = .ok (.iaload, 1) := by decide +kernel
theorem dX4_insert_37 : decode cX4_insert 37 = .ok (.iload_n 1, 1) := by decide +kernel
theorem dX4_insert_38 : decode cX4_insert 38 = .ok (.if_icmp .le 57, 3) := by decide +kernel
theorem dX4_insert_41 : decode cX4_insert 41 = .ok (.aload_n 0, 1) := by decide +kernel
theorem dX4_insert_42 : decode cX4_insert 42 = .ok (.getfield 9, 3) := by decide +kernel
theorem dX4_insert_45 : decode cX4_insert 45 = .ok (.iload 4, 2) := by decide +kernel
theorem dX4_insert_47 : decode cX4_insert 47 = .ok (.aload_n 0, 1) := by decide +kernel
theorem dX4_insert_48 : decode cX4_insert 48 = .ok (.getfield 9, 3) := by decide +kernel
theorem dX4_insert_51 : decode cX4_insert 51 = .ok (.iload 4, 2) := by decide +kernel
theorem dX4_insert_53 : decode cX4_insert 53 = .ok (.iconst 1, 1) := by decide +kernel
theorem dX4_insert_54 : decode cX4_insert 54 = .ok (.isub, 1) := by decide +kernel
theorem dX4_insert_55 : decode cX4_insert 55 = .ok (.iaload, 1) := by decide +kernel
theorem dX4_insert_56 : decode cX4_insert 56 = .ok (.iastore, 1) := by decide +kernel
theorem dX4_insert_57 : decode cX4_insert 57 = .ok (.aload_n 0, 1) := by decide +kernel
theorem dX4_insert_58 : decode cX4_insert 58 = .ok (.getfield 15, 3) := by decide +kernel
theorem dX4_insert_61 : decode cX4_insert 61 = .ok (.iload 4, 2) := by decide +kernel
theorem dX4_insert_63 : decode cX4_insert 63 = .ok (.aload_n 0, 1) := by decide +kernel
theorem dX4_insert_64 : decode cX4_insert 64 = .ok (.getfield 15, 3) := by decide +kernel
theorem dX4_insert_67 : decode cX4_insert 67 = .ok (.iload 4, 2) := by decide +kernel
theorem dX4_insert_69 : decode cX4_insert 69 = .ok (.iconst 1, 1) := by decide +kernel
theorem dX4_insert_70 : decode cX4_insert 70 = .ok (.isub, 1) := by decide +kernel
theorem dX4_insert_71 : decode cX4_insert 71 = .ok (.iaload, 1) := by decide +kernel
theorem dX4_insert_72 : decode cX4_insert 72 = .ok (.iastore, 1) := by decide +kernel
theorem dX4_insert_73 : decode cX4_insert 73 = .ok (.aload_n 0, 1) := by decide +kernel
theorem dX4_insert_74 : decode cX4_insert 74 = .ok (.getfield 18, 3) := by decide +kernel
theorem dX4_insert_77 : decode cX4_insert 77 = .ok (.iload 4, 2) := by decide +kernel
theorem dX4_insert_79 : decode cX4_insert 79 = .ok (.aload_n 0, 1) := by decide +kernel
theorem dX4_insert_80 : decode cX4_insert 80 = .ok (.getfield 18, 3) := by decide +kernel
theorem dX4_insert_83 : decode cX4_insert 83 = .ok (.iload 4, 2) := by decide +kernel
theorem dX4_insert_85 : decode cX4_insert 85 = .ok (.iconst 1, 1) := by decide +kernel
theorem dX4_insert_86 : decode cX4_insert 86 = .ok (.isub, 1) := by decide +kernel
theorem dX4_insert_87 : decode cX4_insert 87 = .ok (.iaload, 1) := by decide +kernel
theorem dX4_insert_88 : decode cX4_insert 88 = .ok (.iastore, 1) := by decide +kernel
theorem dX4_insert_89 : decode cX4_insert 89 = .ok (.iinc 4 (-1), 3) := by decide +kernel
theorem dX4_insert_92 : decode cX4_insert 92 = .ok (.goto (-69), 3) := by decide +kernel
theorem dX4_insert_95 : decode cX4_insert 95 = .ok (.aload_n 0, 1) := by decide +kernel
theorem dX4_insert_96 : decode cX4_insert 96 = .ok (.getfield 9, 3) := by decide +kernel
theorem dX4_insert_99 : decode cX4_insert 99 = .ok (.iload 4, 2) := by decide +kernel
theorem dX4_insert_101 : decode cX4_insert 101 = .ok (.iload_n 1, 1) := by decide +kernel
theorem dX4_insert_102 : decode cX4_insert 102 = .ok (.iastore, 1) := by decide +kernel
theorem dX4_insert_103 : decode cX4_insert 103 = .ok (.aload_n 0, 1) := by decide +kernel
theorem dX4_insert_104 : decode cX4_insert 104 = .ok (.getfield 15, 3) := by decide +kernel
theorem dX4_insert_107 : decode cX4_insert 107 = .ok (.iload 4, 2) := by decide +kernel
theorem dX4_insert_109 : decode cX4_insert 109 = .ok (.iload_n 2, 1) := by decide +kernel
theorem dX4_insert_110 : decode cX4_insert 110 = .ok (.iastore, 1) := by decide +kernel
theorem dX4_insert_111 : decode cX4_insert 111 = .ok (.aload_n 0, 1) := by decide +kernel
theorem dX4_insert_112 : decode cX4_insert 112 = .ok (.getfield 18, 3) := by decide +kernel
theorem dX4_insert_115 : decode cX4_insert 115 = .ok (.iload 4, 2) := by decide +kernel
theorem dX4_insert_117 : decode cX4_insert 117 = .ok (.iload_n 3, 1) := by decide +kernel
theorem dX4_insert_118 : decode cX4_insert 118 = .ok (.iastore, 1) := by decide +kernel
theorem dX4_insert_119 : decode cX4_insert 119 = .ok (.aload_n 0, 1) := by decide +kernel
theorem dX4_insert_120 : decode cX4_insert 120 = .ok (.dup, 1) := by decide +kernel
theorem dX4_insert_121 : decode cX4_insert 121 = .ok (.getfield 27, 3) := by decide +kernel
theorem dX4_insert_124 : decode cX4_insert 124 = .ok (.iconst 1, 1) := by decide +kernel
theorem dX4_insert_125 : decode cX4_insert 125 = .ok (.iadd, 1) := by decide +kernel
theorem dX4_insert_126 : decode cX4_insert 126 = .ok (.putfield 27, 3) := by decide +kernel
theorem dX4_insert_129 : decode cX4_insert 129 = .ok (.return_, 1) := by decide +kernel
theorem dX4_remove_0 : decode cX4_remove 0 = .ok (.iload_n 1, 1) := by decide +kernel
theorem dX4_remove_1 : decode cX4_remove 1 = .ok (.ifCond .lt 20, 3) := by decide +kernel
theorem dX4_remove_4 : decode cX4_remove 4 = .ok (.iload_n 1, 1) := by decide +kernel
theorem dX4_remove_5 : decode cX4_remove 5 = .ok (.aload_n 0, 1) := by decide +kernel
theorem dX4_remove_6 : decode cX4_remove 6 = .ok (.getfield 27, 3) := by decide +kernel
theorem dX4_remove_9 : decode cX4_remove 9 = .ok (.if_icmp .ge 12, 3) := by decide +kernel
theorem dX4_remove_12 : decode cX4_remove 12 = .ok (.aload_n 0, 1) := by decide +kernel
theorem dX4_remove_13 : decode cX4_remove 13 = .ok (.getfield 27, 3) := by decide +kernel
theorem dX4_remove_16 : decode cX4_remove 16 = .ok (.bipush 120, 2) := by decide +kernel
theorem dX4_remove_18 : decode cX4_remove 18 = .ok (.if_icmp .le 4, 3) := by decide +kernel
theorem dX4_remove_21 : decode cX4_remove 21 = .ok (.return_, 1) := by decide +kernel
theorem dX4_remove_22 : decode cX4_remove 22 = .ok (.aload_n 0, 1) := by decide +kernel
theorem dX4_remove_23 : decode cX4_remove 23 = .ok (.getfield 27, 3) := by decide +kernel
theorem dX4_remove_26 : decode cX4_remove 26 = .ok (.iload_n 1, 1) := by decide +kernel
theorem dX4_remove_27 : decode cX4_remove 27 = .ok (.isub, 1) := by decide +kernel
theorem dX4_remove_28 : decode cX4_remove 28 = .ok (.iconst 1, 1) := by decide +kernel
theorem dX4_remove_29 : decode cX4_remove 29 = .ok (.isub, 1) := by decide +kernel
theorem dX4_remove_30 : decode cX4_remove 30 = .ok (.istore_n 2, 1) := by decide +kernel
theorem dX4_remove_31 : decode cX4_remove 31 = .ok (.aload_n 0, 1) := by decide +kernel
theorem dX4_remove_32 : decode cX4_remove 32 = .ok (.getfield 9, 3) := by decide +kernel
theorem dX4_remove_35 : decode cX4_remove 35 = .ok (.iload_n 1, 1) := by decide +kernel
theorem dX4_remove_36 : decode cX4_remove 36 = .ok (.iconst 1, 1) := by decide +kernel
theorem dX4_remove_37 : decode cX4_remove 37 = .ok (.iadd, 1) := by decide +kernel
theorem dX4_remove_38 : decode cX4_remove 38 = .ok (.aload_n 0, 1) := by decide +kernel
theorem dX4_remove_39 : decode cX4_remove 39 = .ok (.getfield 9, 3) := by decide +kernel
theorem dX4_remove_42 : decode cX4_remove 42 = .ok (.iload_n 1, 1) := by decide +kernel
theorem dX4_remove_43 : decode cX4_remove 43 = .ok (.iload_n 2, 1) := by decide +kernel
theorem dX4_remove_44 : decode cX4_remove 44 = .ok (.invokestatic 21, 3) := by decide +kernel
theorem dX4_remove_47 : decode cX4_remove 47 = .ok (.aload_n 0, 1) := by decide +kernel
theorem dX4_remove_48 : decode cX4_remove 48 = .ok (.getfield 15, 3) := by decide +kernel
theorem dX4_remove_51 : decode cX4_remove 51 = .ok (.iload_n 1, 1) := by decide +kernel
theorem dX4_remove_52 : decode cX4_remove 52 = .ok (.iconst 1, 1) := by decide +kernel
theorem dX4_remove_53 : decode cX4_remove 53 = .ok (.iadd, 1) := by decide +kernel
theorem dX4_remove_54 : decode cX4_remove 54 = .ok (.aload_n 0, 1) := by decide +kernel
theorem dX4_remove_55 : decode cX4_remove 55 = .ok (.getfield 15, 3) := by decide +kernel
theorem dX4_remove_58 : decode cX4_remove 58 = .ok (.iload_n 1, 1) := by decide +kernel
theorem dX4_remove_59 : decode cX4_remove 59 = .ok (.iload_n 2, 1) := by decide +kernel
theorem dX4_remove_60 : decode cX4_remove 60 = .ok (.invokestatic 21, 3) := by decide +kernel
theorem dX4_remove_63 : decode cX4_remove 63 = .ok (.aload_n 0, 1) := by decide +kernel
theorem dX4_remove_64 : decode cX4_remove 64 = .ok (.getfield 18, 3) := by decide +kernel
theorem dX4_remove_67 : decode cX4_remove 67 = .ok (.iload_n 1, 1) := by decide +kernel
theorem dX4_remove_68 : decode cX4_remove 68 = .ok (.iconst 1, 1) := by decide +kernel
theorem dX4_remove_69 : decode cX4_remove 69 = .ok (.iadd, 1) := by decide +kernel
theorem dX4_remove_70 : decode cX4_remove 70 = .ok (.aload_n 0, 1) := by decide +kernel
theorem dX4_remove_71 : decode cX4_remove 71 = .ok (.getfield 18, 3) := by decide +kernel
theorem dX4_remove_74 : decode cX4_remove 74 = .ok (.iload_n 1, 1) := by decide +kernel
theorem dX4_remove_75 : decode cX4_remove 75 = .ok (.iload_n 2, 1) := by decide +kernel
theorem dX4_remove_76 : decode cX4_remove 76 = .ok (.invokestatic 21, 3) := by decide +kernel
theorem dX4_remove_79 : decode cX4_remove 79 = .ok (.aload_n 0, 1) := by decide +kernel
theorem dX4_remove_80 : decode cX4_remove 80 = .ok (.dup, 1) := by decide +kernel
theorem dX4_remove_81 : decode cX4_remove 81 = .ok (.getfield 27, 3) := by decide +kernel
theorem dX4_remove_84 : decode cX4_remove 84 = .ok (.iconst 1, 1) := by decide +kernel
theorem dX4_remove_85 : decode cX4_remove 85 = .ok (.isub, 1) := by decide +kernel
theorem dX4_remove_86 : decode cX4_remove 86 = .ok (.putfield 27, 3) := by decide +kernel
theorem dX4_remove_89 : decode cX4_remove 89 = .ok (.return_, 1) := by decide +kernel
theorem dX4_removeAll_0 : decode cX4_removeAll 0 = .ok (.aload_n 0, 1) := by decide +kernel
theorem dX4_removeAll_1 : decode cX4_removeAll 1 = .ok (.iconst 0, 1) := by decide +kernel
theorem dX4_removeAll_2 : decode cX4_removeAll 2 = .ok (.putfield 27, 3) := by decide +kernel
theorem dX4_removeAll_5 : decode cX4_removeAll 5 = .ok (.return_, 1) := by decide +kernel
theorem dX4_passFirst_0 : decode cX4_passFirst 0 = .ok (.iload_n 1, 1) := by decide +kernel
theorem dX4_passFirst_1 : decode cX4_passFirst 1 = .ok (.ifCond .lt 26, 3) := by decide +kernel
theorem dX4_passFirst_4 : decode cX4_passFirst 4 = .ok (.iload_n 1, 1) := by decide +kernel
theorem dX4_passFirst_5 : decode cX4_passFirst 5 = .ok (.bipush 120, 2) := by decide +kernel
theorem dX4_passFirst_7 : decode cX4_passFirst 7 = .ok (.if_icmp .ge 20, 3) := by decide +kernel
theorem dX4_passFirst_10 : decode cX4_passFirst 10 = .ok (.aload_n 0, 1) := by decide +kernel
theorem dX4_passFirst_11 : decode cX4_passFirst 11 = .ok (.getfield 15, 3) := by decide +kernel
theorem dX4_passFirst_14 : decode cX4_passFirst 14 = .ok (.iload_n 1, 1) := by decide +kernel
theorem dX4_passFirst_15 : decode cX4_passFirst 15 = .ok (.iload_n 2, 1) := by decide +kernel
theorem dX4_passFirst_16 : decode cX4_passFirst 16 = .ok (.iastore, 1) := by decide +kernel
theorem dX4_passFirst_17 : decode cX4_passFirst 17 = .ok (.aload_n 0, 1) := by decide +kernel
theorem dX4_passFirst_18 : decode cX4_passFirst 18 = .ok (.getfield 18, 3) := by decide +kernel
theorem dX4_passFirst_21 : decode cX4_passFirst 21 = .ok (.iload_n 1, 1) := by decide +kernel
theorem dX4_passFirst_22 : decode cX4_passFirst 22 = .ok (.dup2, 1) := by decide +kernel
theorem dX4_passFirst_23 : decode cX4_passFirst 23 = .ok (.iaload, 1) := by decide +kernel
theorem dX4_passFirst_24 : decode cX4_passFirst 24 = .ok (.iconst 1, 1) := by decide +kernel
theorem dX4_passFirst_25 : decode cX4_passFirst 25 = .ok (.isub, 1) := by decide +kernel
theorem dX4_passFirst_26 : decode cX4_passFirst 26 = .ok (.iastore, 1) := by decide +kernel
theorem dX4_passFirst_27 : decode cX4_passFirst 27 = .ok (.return_, 1) := by decide +kernel
def ck_wsX5_init : List (List Cond) := [[.code yX5_init cX5_init 1 none], wsX5_init_r1, wsX5_init_r2]
theorem ck_wsX5_init_m : ∀ c ∈ ck_wsX5_init, ∀ w ∈ c, w ∈ wsX5_init := List.forall_mem_cons.mpr ⟨fun w h => List.mem_cons.mpr (Or.inl (List.mem_singleton.mp h)), List.forall_mem_cons.mpr ⟨fun _ h => (List.mem_cons_of_mem _ (List.mem_append_left _ (List.mem_append_left _ (List.mem_append_left _ (List.mem_append_left _ h))))), List.forall_mem_cons.mpr ⟨fun _ h => (List.mem_cons_of_mem _ (List.mem_append_left _ (List.mem_append_left _ (List.mem_append_left _ (List.mem_append_right _ h))))), fun _ h => absurd h List.not_mem_nil⟩⟩⟩
set_option maxRecDepth 100000 in
theorem ck_wsX5_init_g : ∀ w ∈ wsX5_init, goodWord w = true := List.all_eq_true.mp (by decide +kernel)
set_option maxRecDepth 100000 in
theorem ggX5_init_X3_init : GoodIn wsX5_init wsX3_init := goodIn_ca (goodIn_2 ck_wsX5_init [(1, 17), (1, 18), (1, 1), (1, 2), (1, 13), (1, 19), (1, 20), (1, 21)] ck_wsX5_init_m ck_wsX5_init_g rfl) (goodIn_b (fun _ h => (List.mem_cons_of_mem _ (List.mem_append_left _ (List.mem_append_left _ (List.mem_append_right _ h))))) ck_wsX5_init_g)
set_option maxRecDepth 20000 in
theorem gX5_init_X3_init_n11 : GoodIn wsX5_init (wsX3_init) := ggX5_init_X3_init
set_option maxRecDepth 100000 in
theorem ggX5_init_X4_init : GoodIn wsX5_init wsX4_init := goodIn_ca (goodIn_2 ck_wsX5_init [(1, 23), (2, 0), (1, 1), (1, 2), (1, 13), (2, 1), (2, 2), (2, 3)] ck_wsX5_init_m ck_wsX5_init_g rfl) (goodIn_b (fun _ h => (List.mem_cons_of_mem _ (List.mem_append_right _ h))) ck_wsX5_init_g)
set_option maxRecDepth 20000 in
theorem gX5_init_X4_init_n20 : GoodIn wsX5_init (wsX4_init) := ggX5_init_X4_init
theorem dX5_init_0 : decode cX5_init 0 = .ok (.aload_n 0, 1) := by decide +kernel
theorem dX5_init_1 : decode cX5_init 1 = .ok (.invokespecial 3, 3) := by decide +kernel
theorem dX5_init_4 : decode cX5_init 4 = .ok (.aload_n 0, 1) := by decide +kernel
theorem dX5_init_5 : decode cX5_init 5 = .ok (.new 9, 3) := by decide +kernel
theorem dX5_init_8 : decode cX5_init 8 = .ok (.dup, 1) := by decide +kernel
theorem dX5_init_9 : decode cX5_init 9 = .ok (.invokespecial 11, 3) := by decide +kernel
theorem dX5_init_12 : decode cX5_init 12 = .ok (.putfield 12, 3) := by decide +kernel
theorem dX5_init_15 : decode cX5_init 15 = .ok (.aload_n 0, 1) := by decide +kernel
theorem dX5_init_16 : decode cX5_init 16 = .ok (.new 18, 3) := by decide +kernel
theorem dX5_init_19 : decode cX5_init 19 = .ok (.dup, 1) := by decide +kernel
theorem dX5_init_20 : decode cX5_init 20 = .ok (.invokespecial 20, 3) := by decide +kernel
theorem dX5_init_23 : decode cX5_init 23 = .ok (.putfield 21, 3) := by decide +kernel
theorem dX5_init_26 : decode cX5_init 26 = .ok (.aload_n 0, 1) := by decide +kernel
theorem dX5_init_27 : decode cX5_init 27 = .ok (.iconst 1, 1) := by decide +kernel
theorem dX5_init_28 : decode cX5_init 28 = .ok (.putfield 25, 3) := by decide +kernel
theorem dX5_init_31 : decode cX5_init 31 = .ok (.aload_n 0, 1) := by decide +kernel
theorem dX5_init_32 : decode cX5_init 32 = .ok (.bipush 6, 2) := by decide +kernel
theorem dX5_init_34 : decode cX5_init 34 = .ok (.putfield 29, 3) := by decide +kernel
theorem dX5_init_37 : decode cX5_init 37 = .ok (.aload_n 0, 1) := by decide +kernel
theorem dX5_init_38 : decode cX5_init 38 = .ok (.bipush 20, 2) := by decide +kernel
theorem dX5_init_40 : decode cX5_init 40 = .ok (.newarray .int, 2) := by decide +kernel
theorem dX5_init_42 : decode cX5_init 42 = .ok (.putfield 33, 3) := by decide +kernel
theorem dX5_init_45 : decode cX5_init 45 = .ok (.aload_n 0, 1) := by decide +kernel
theorem dX5_init_46 : decode cX5_init 46 = .ok (.new 18, 3) := by decide +kernel
theorem dX5_init_49 : decode cX5_init 49 = .ok (.dup, 1) := by decide +kernel
theorem dX5_init_50 : decode cX5_init 50 = .ok (.invokespecial 20, 3) := by decide +kernel
theorem dX5_init_53 : decode cX5_init 53 = .ok (.putfield 37, 3) := by decide +kernel
theorem dX5_init_56 : decode cX5_init 56 = .ok (.return_, 1) := by decide +kernel
def ck_wsX5_copyFrom : List (List Cond) := [[.code yX5_copyFrom cX5_copyFrom 2 none], wsX5_copyFrom_r1, wsX5_copyFrom_r2]
theorem ck_wsX5_copyFrom_m : ∀ c ∈ ck_wsX5_copyFrom, ∀ w ∈ c, w ∈ wsX5_copyFrom := List.forall_mem_cons.mpr ⟨fun w h => List.mem_cons.mpr (Or.inl (List.mem_singleton.mp h)), List.forall_mem_cons.mpr ⟨fun _ h => (List.mem_cons_of_mem _ (List.mem_append_left _ (List.mem_append_left _ (List.mem_append_left _ (List.mem_append_left _ h))))), List.forall_mem_cons.mpr ⟨fun _ h => (List.mem_cons_of_mem _ (List.mem_append_left _ (List.mem_append_left _ (List.mem_append_left _ (List.mem_append_right _ h))))), fun _ h => absurd h List.not_mem_nil⟩⟩⟩
set_option maxRecDepth 100000 in
theorem ck_wsX5_copyFrom_g : ∀ w ∈ wsX5_copyFrom, goodWord w = true := List.all_eq_true.mp (by decide +kernel)
set_option maxRecDepth 100000 in
theorem ggX5_copyFrom_X3_copyFrom : GoodIn wsX5_copyFrom wsX3_copyFrom := goodIn_ca (goodIn_2 ck_wsX5_copyFrom [(2, 0), (2, 1), (2, 2), (1, 7), (1, 8), (1, 9), (2, 3), (2, 4), (2, 5)] ck_wsX5_copyFrom_m ck_wsX5_copyFrom_g rfl) (goodIn_b (fun _ h => (List.mem_cons_of_mem _ (List.mem_append_left _ (List.mem_append_right _ h)))) ck_wsX5_copyFrom_g)
set_option maxRecDepth 20000 in
theorem gX5_copyFrom_X3_copyFrom : GoodIn wsX5_copyFrom (wsV RX5 40 RX3 yX3_copyFrom wsX3_copyFrom) := goodIn_app (goodIn_of _ (by decide +kernel)) ggX5_copyFrom_X3_copyFrom
set_option maxRecDepth 100000 in
theorem ggX5_copyFrom_X4_copyFrom : GoodIn wsX5_copyFrom wsX4_copyFrom := goodIn_ca (goodIn_2 ck_wsX5_copyFrom [(2, 10), (2, 11), (2, 12), (1, 7), (1, 8), (1, 9), (2, 13), (2, 14), (2, 15)] ck_wsX5_copyFrom_m ck_wsX5_copyFrom_g rfl) (goodIn_b (fun _ h => (List.mem_cons_of_mem _ (List.mem_append_right _ h))) ck_wsX5_copyFrom_g)
set_option maxRecDepth 20000 in
theorem gX5_copyFrom_X4_copyFrom : GoodIn wsX5_copyFrom (wsV RX5 44 RX4 yX4_copyFrom wsX4_copyFrom) := goodIn_app (goodIn_of _ (by decide +kernel)) ggX5_copyFrom_X4_copyFrom
theorem dX5_copyFrom_0 : decode cX5_copyFrom 0 = .ok (.aload_n 0, 1) := by decide +kernel
theorem dX5_copyFrom_1 : decode cX5_copyFrom 1 = .ok (.getfield 12, 3) := by decide +kernel
theorem dX5_copyFrom_4 : decode cX5_copyFrom 4 = .ok (.aload_n 1, 1) := by decide +kernel
theorem dX5_copyFrom_5 : decode cX5_copyFrom 5 = .ok (.getfield 12, 3) := by decide +kernel
theorem dX5_copyFrom_8 : decode cX5_copyFrom 8 = .ok (.invokevirtual 40, 3) := by decide +kernel
theorem dX5_copyFrom_11 : decode cX5_copyFrom 11 = .ok (.aload_n 0, 1) := by decide +kernel
theorem dX5_copyFrom_12 : decode cX5_copyFrom 12 = .ok (.getfield 21, 3) := by decide +kernel
theorem dX5_copyFrom_15 : decode cX5_copyFrom 15 = .ok (.aload_n 1, 1) := by decide +kernel
theorem dX5_copyFrom_16 : decode cX5_copyFrom 16 = .ok (.getfield 21, 3) := by decide +kernel
theorem dX5_copyFrom_19 : decode cX5_copyFrom 19 = .ok (.invokevirtual 44, 3) := by decide +kernel
theorem dX5_copyFrom_22 : decode cX5_copyFrom 22 = .ok (.aload_n 0, 1) := by decide +kernel
theorem dX5_copyFrom_23 : decode cX5_copyFrom 23 = .ok (.aload_n 1, 1) := by decide +kernel
theorem dX5_copyFrom_24 : decode cX5_copyFrom 24 = .ok (.getfield 47, 3) := by decide +kernel
theorem dX5_copyFrom_27 : decode cX5_copyFrom 27 = .ok (.putfield 47, 3) := by decide +kernel
theorem dX5_copyFrom_30 : decode cX5_copyFrom 30 = .ok (.aload_n 0, 1) := by decide +kernel
theorem dX5_copyFrom_31 : decode cX5_copyFrom 31 = .ok (.aload_n 1, 1) := by decide +kernel
theorem dX5_copyFrom_32 : decode cX5_copyFrom 32 = .ok (.getfield 25, 3) := by decide +kernel
theorem dX5_copyFrom_35 : decode cX5_copyFrom 35 = .ok (.putfield 25, 3) := by decide +kernel
theorem dX5_copyFrom_38 : decode cX5_copyFrom 38 = .ok (.aload_n 0, 1) := by decide +kernel
theorem dX5_copyFrom_39 : decode cX5_copyFrom 39 = .ok (.aload_n 1, 1) := by decide +kernel
theorem dX5_copyFrom_40 : decode cX5_copyFrom 40 = .ok (.getfield 29, 3) := by decide +kernel
theorem dX5_copyFrom_43 : decode cX5_copyFrom 43 = .ok (.putfield 29, 3) := by decide +kernel
theorem dX5_copyFrom_46 : decode cX5_copyFrom 46 = .ok (.aload_n 1, 1) := by decide +kernel
theorem dX5_copyFrom_47 : decode cX5_copyFrom 47 = .ok (.getfield 33, 3) := by decide +kernel
theorem dX5_copyFrom_50 : decode cX5_copyFrom 50 = .ok (.iconst 0, 1) := by decide +kernel
theorem dX5_copyFrom_51 : decode cX5_copyFrom 51 = .ok (.aload_n 0, 1) := by decide +kernel
theorem dX5_copyFrom_52 : decode cX5_copyFrom 52 = .ok (.getfield 33, 3) := by decide +kernel
theorem dX5_copyFrom_55 : decode cX5_copyFrom 55 = .ok (.iconst 0, 1) := by decide +kernel
theorem dX5_copyFrom_56 : decode cX5_copyFrom 56 = .ok (.bipush 20, 2) := by decide +kernel
theorem dX5_copyFrom_58 : decode cX5_copyFrom 58 = .ok (.invokestatic 50, 3) := by decide +kernel
theorem dX5_copyFrom_61 : decode cX5_copyFrom 61 = .ok (.aload_n 0, 1) := by decide +kernel
theorem dX5_copyFrom_62 : decode cX5_copyFrom 62 = .ok (.aload_n 1, 1) := by decide +kernel
theorem dX5_copyFrom_63 : decode cX5_copyFrom 63 = .ok (.getfield 56, 3) := by decide +kernel
theorem dX5_copyFrom_66 : decode cX5_copyFrom 66 = .ok (.putfield 56, 3) := by decide +kernel
theorem dX5_copyFrom_69 : decode cX5_copyFrom 69 = .ok (.aload_n 0, 1) := by decide +kernel
theorem dX5_copyFrom_70 : decode cX5_copyFrom 70 = .ok (.getfield 37, 3) := by decide +kernel
theorem dX5_copyFrom_73 : decode cX5_copyFrom 73 = .ok (.aload_n 1, 1) := by decide +kernel
theorem dX5_copyFrom_74 : decode cX5_copyFrom 74 = .ok (.getfield 37, 3) := by decide +kernel
theorem dX5_copyFrom_77 : decode cX5_copyFrom 77 = .ok (.invokevirtual 44, 3) := by decide +kernel
theorem dX5_copyFrom_80 : decode cX5_copyFrom 80 = .ok (.aload_n 0, 1) := by decide +kernel
theorem dX5_copyFrom_81 : decode cX5_copyFrom 81 = .ok (.aload_n 1, 1) := by decide +kernel
theorem dX5_copyFrom_82 : decode cX5_copyFrom 82 = .ok (.getfield 59, 3) := by decide +kernel
theorem dX5_copyFrom_85 : decode cX5_copyFrom 85 = .ok (.putfield 59, 3) := by decide +kernel
theorem dX5_copyFrom_88 : decode cX5_copyFrom 88 = .ok (.aload_n 0, 1) := by decide +kernel
theorem dX5_copyFrom_89 : decode cX5_copyFrom 89 = .ok (.aload_n 1, 1) := by decide +kernel
theorem dX5_copyFrom_90 : decode cX5_copyFrom 90 = .ok (.getfield 62, 3) := by decide +kernel
theorem dX5_copyFrom_93 : decode cX5_copyFrom 93 = .ok (.putfield 62, 3) := by decide +kernel
theorem dX5_copyFrom_96 : decode cX5_copyFrom 96 = .ok (.aload_n 0, 1) := by decide +kernel
theorem dX5_copyFrom_97 : decode cX5_copyFrom 97 = .ok (.aload_n 1, 1) := by decide +kernel
theorem dX5_copyFrom_98 : decode cX5_copyFrom 98 = .ok (.getfield 65, 3) := by decide +kernel
theorem dX5_copyFrom_101 : decode cX5_copyFrom 101 = .ok (.putfield 65, 3) := by decide +kernel
theorem dX5_copyFrom_104 : decode cX5_copyFrom 104 = .ok (.aload_n 0, 1) := by decide +kernel
theorem dX5_copyFrom_105 : decode cX5_copyFrom 105 = .ok (.aload_n 1, 1) := by decide +kernel
theorem dX5_copyFrom_106 : decode cX5_copyFrom 106 = .ok (.getfield 68, 3) := by decide +kernel
theorem dX5_copyFrom_109 : decode cX5_copyFrom 109 = .ok (.putfield 68, 3) := by decide +kernel
theorem dX5_copyFrom_112 : decode cX5_copyFrom 112 = .ok (.aload_n 0, 1) := by decide +kernel
theorem dX5_copyFrom_113 : decode cX5_copyFrom 113 = .ok (.aload_n 1, 1) := by decide +kernel
theorem dX5_copyFrom_114 : decode cX5_copyFrom 114 = .ok (.getfield 71, 3) := by decide +kernel
theorem dX5_copyFrom_117 : decode cX5_copyFrom 117 = .ok (.putfield 71, 3) := by decide +kernel
theorem dX5_copyFrom_120 : decode cX5_copyFrom 120 = .ok (.aload_n 0, 1) := by decide +kernel
theorem dX5_copyFrom_121 : decode cX5_copyFrom 121 = .ok (.aload_n 1, 1) := by decide +kernel
theorem dX5_copyFrom_122 : decode cX5_copyFrom 122 = .ok (.getfield 74, 3) := by decide +kernel
theorem dX5_copyFrom_125 : decode cX5_copyFrom 125 = .ok (.putfield 74, 3) := by decide +kernel
theorem dX5_copyFrom_128 : decode cX5_copyFrom 128 = .ok (.aload_n 0, 1) := by decide +kernel
theorem dX5_copyFrom_129 : decode cX5_copyFrom 129 = .ok (.aload_n 1, 1) := by decide +kernel
theorem dX5_copyFrom_130 : decode cX5_copyFrom 130 = .ok (.getfield 77, 3) := by decide +kernel
theorem dX5_copyFrom_133 : decode cX5_copyFrom 133 = .ok (.putfield 77, 3) := by decide +kernel
theorem dX5_copyFrom_136 : decode cX5_copyFrom 136 = .ok (.aload_n 0, 1) := by decide +kernel
theorem dX5_copyFrom_137 : decode cX5_copyFrom 137 = .ok (.aload_n 1, 1) := by decide +kernel
theorem dX5_copyFrom_138 : decode cX5_copyFrom 138 = .ok (.getfield 80, 3) := by decide +kernel
theorem dX5_copyFrom_141 : decode cX5_copyFrom 141 = .ok (.putfield 80, 3) := by decide +kernel
theorem dX5_copyFrom_144 : decode cX5_copyFrom 144 = .ok (.return_, 1) := by decide +kernel
theorem dX5_isInMemory_0 : decode cX5_isInMemory 0 = .ok (.iload_n 1, 1) := by decide +kernel
theorem dX5_isInMemory_1 : decode cX5_isInMemory 1 = .ok (.ifCond .lt 15, 3) := by decide +kernel
theorem dX5_isInMemory_4 : decode cX5_isInMemory 4 = .ok (.iload_n 1, 1) := by decide +kernel
theorem dX5_isInMemory_5 : decode cX5_isInMemory 5 = .ok (.aload_n 0, 1) := by decide +kernel
theorem dX5_isInMemory_6 : decode cX5_isInMemory 6 = .ok (.getfield 56, 3) := by decide +kernel
theorem dX5_isInMemory_9 : decode cX5_isInMemory 9 = .ok (.if_icmp .ge 7, 3) := by decide +kernel
theorem dX5_isInMemory_12 : decode cX5_isInMemory 12 = .ok (.iconst 1, 1) := by decide +kernel
theorem dX5_isInMemory_13 : decode cX5_isInMemory 13 = .ok (.goto 4, 3) := by decide +kernel
theorem dX5_isInMemory_16 : decode cX5_isInMemory 16 = .ok (.iconst 0, 1) := by decide +kernel
theorem dX5_isInMemory_17 : decode cX5_isInMemory 17 = .ok (.ireturn, 1) := by decide +kernel
theorem dX5_memoryRowAt_0 : decode cX5_memoryRowAt 0 = .ok (.iload_n 1, 1) := by decide +kernel
theorem dX5_memoryRowAt_1 : decode cX5_memoryRowAt 1 = .ok (.ifCond .lt 18, 3) := by decide +kernel
theorem dX5_memoryRowAt_4 : decode cX5_memoryRowAt 4 = .ok (.iload_n 1, 1) := by decide +kernel
theorem dX5_memoryRowAt_5 : decode cX5_memoryRowAt 5 = .ok (.bipush 20, 2) := by decide +kernel
theorem dX5_memoryRowAt_7 : decode cX5_memoryRowAt 7 = .ok (.if_icmp .ge 12, 3) := by decide +kernel
theorem dX5_memoryRowAt_10 : decode cX5_memoryRowAt 10 = .ok (.aload_n 0, 1) := by decide +kernel
theorem dX5_memoryRowAt_11 : decode cX5_memoryRowAt 11 = .ok (.getfield 33, 3) := by decide +kernel
theorem dX5_memoryRowAt_14 : decode cX5_memoryRowAt 14 = .ok (.iload_n 1, 1) := by decide +kernel
theorem dX5_memoryRowAt_15 : decode cX5_memoryRowAt 15 = .ok (.iaload, 1) := by decide +kernel
theorem dX5_memoryRowAt_16 : decode cX5_memoryRowAt 16 = .ok (.goto 4, 3) := by decide +kernel
theorem dX5_memoryRowAt_19 : decode cX5_memoryRowAt 19 = .ok (.iconst (-1), 1) := by decide +kernel
theorem dX5_memoryRowAt_20 : decode cX5_memoryRowAt 20 = .ok (.ireturn, 1) := by decide +kernel
theorem dX5_hasMerge_0 : decode cX5_hasMerge 0 = .ok (.aload_n 0, 1) := by decide +kernel
theorem dX5_hasMerge_1 : decode cX5_hasMerge 1 = .ok (.getfield 37, 3) := by decide +kernel
theorem dX5_hasMerge_4 : decode cX5_hasMerge 4 = .ok (.getfield 83, 3) := by decide +kernel
theorem dX5_hasMerge_7 : decode cX5_hasMerge 7 = .ok (.ifCond .le 7, 3) := by decide +kernel
theorem dX5_hasMerge_10 : decode cX5_hasMerge 10 = .ok (.iconst 1, 1) := by decide +kernel
theorem dX5_hasMerge_11 : decode cX5_hasMerge 11 = .ok (.goto 4, 3) := by decide +kernel
theorem dX5_hasMerge_14 : decode cX5_hasMerge 14 = .ok (.iconst 0, 1) := by decide +kernel
theorem dX5_hasMerge_15 : decode cX5_hasMerge 15 = .ok (.ireturn, 1) := by decide +kernel
set_option maxRecDepth 20000 in
theorem ggX5_isSorted_X5_hasMerge : GoodIn wsX5_isSorted wsX5_hasMerge := goodIn_r _ [8, 9, 3, 10, 11, 12, 13, 14, 15, 16, 17, 18, 19, 20, 21, 22, 23, 24, 25, 26, 27, 28, 29] (by decide +kernel) (by decide +kernel)
set_option maxRecDepth 20000 in
theorem gX5_isSorted_X5_hasMerge : GoodIn wsX5_isSorted (wsV RX5 86 RX5 yX5_hasMerge wsX5_hasMerge) := goodIn_app (goodIn_of _ (by decide +kernel)) ggX5_isSorted_X5_hasMerge
theorem dX5_isSorted_0 : decode cX5_isSorted 0 = .ok (.aload_n 0, 1) := by decide +kernel
theorem dX5_isSorted_1 : decode cX5_isSorted 1 = .ok (.getfield 25, 3) := by decide +kernel
theorem dX5_isSorted_4 : decode cX5_isSorted 4 = .ok (.ifCond .ne 25, 3) := by decide +kernel
theorem dX5_isSorted_7 : decode cX5_isSorted 7 = .ok (.aload_n 0, 1) := by decide +kernel
theorem dX5_isSorted_8 : decode cX5_isSorted 8 = .ok (.invokevirtual 86, 3) := by decide +kernel
theorem dX5_isSorted_11 : decode cX5_isSorted 11 = .ok (.ifCond .ne 18, 3) := by decide +kernel
theorem dX5_isSorted_14 : decode cX5_isSorted 14 = .ok (.aload_n 0, 1) := by decide +kernel
theorem dX5_isSorted_15 : decode cX5_isSorted 15 = .ok (.getfield 21, 3) := by decide +kernel
theorem dX5_isSorted_18 : decode cX5_isSorted 18 = .ok (.getfield 83, 3) := by decide +kernel
theorem dX5_isSorted_21 : decode cX5_isSorted 21 = .ok (.iconst 1, 1) := by decide +kernel
theorem dX5_isSorted_22 : decode cX5_isSorted 22 = .ok (.if_icmp .gt 7, 3) := by decide +kernel
theorem dX5_isSorted_25 : decode cX5_isSorted 25 = .ok (.iconst 1, 1) := by decide +kernel
theorem dX5_isSorted_26 : decode cX5_isSorted 26 = .ok (.goto 4, 3) := by decide +kernel
theorem dX5_isSorted_29 : decode cX5_isSorted 29 = .ok (.iconst 0, 1) := by decide +kernel
theorem dX5_isSorted_30 : decode cX5_isSorted 30 = .ok (.ireturn, 1) := by decide +kernel
theorem dX5_ways_0 : decode cX5_ways 0 = .ok (.aload_n 0, 1) := by decide +kernel
theorem dX5_ways_1 : decode cX5_ways 1 = .ok (.getfield 29, 3) := by decide +kernel
theorem dX5_ways_4 : decode cX5_ways 4 = .ok (.iconst 1, 1) := by decide +kernel
theorem dX5_ways_5 : decode cX5_ways 5 = .ok (.isub, 1) := by decide +kernel
theorem dX5_ways_6 : decode cX5_ways 6 = .ok (.bipush 8, 2) := by decide +kernel
theorem dX5_ways_8 : decode cX5_ways 8 = .ok (.invokestatic 90, 3) := by decide +kernel
theorem dX5_ways_11 : decode cX5_ways 11 = .ok (.ireturn, 1) := by decide +kernel
set_option maxRecDepth 20000 in
theorem ggX5_memoryInUse_X5_hasMerge : GoodIn wsX5_memoryInUse wsX5_hasMerge := goodIn_r _ [9, 3, 4, 10, 11, 12, 13, 14, 15, 16, 17, 18, 19, 20, 21, 22, 23, 24, 25, 26, 27, 28, 29] (by decide +kernel) (by decide +kernel)
set_option maxRecDepth 20000 in
theorem gX5_memoryInUse_X5_hasMerge : GoodIn wsX5_memoryInUse (wsV RX5 86 RX5 yX5_hasMerge wsX5_hasMerge) := goodIn_app (goodIn_of _ (by decide +kernel)) ggX5_memoryInUse_X5_hasMerge
theorem dX5_memoryInUse_0 : decode cX5_memoryInUse 0 = .ok (.aload_n 0, 1) := by decide +kernel
theorem dX5_memoryInUse_1 : decode cX5_memoryInUse 1 = .ok (.getfield 25, 3) := by decide +kernel
theorem dX5_memoryInUse_4 : decode cX5_memoryInUse 4 = .ok (.ifCond .eq 8, 3) := by decide +kernel
theorem dX5_memoryInUse_7 : decode cX5_memoryInUse 7 = .ok (.aload_n 0, 1) := by decide +kernel
theorem dX5_memoryInUse_8 : decode cX5_memoryInUse 8 = .ok (.getfield 56, 3) := by decide +kernel
theorem dX5_memoryInUse_11 : decode cX5_memoryInUse 11 = .ok (.ireturn, 1) := by decide +kernel
theorem dX5_memoryInUse_12 : decode cX5_memoryInUse 12 = .ok (.aload_n 0, 1) := by decide +kernel
theorem dX5_memoryInUse_13 : decode cX5_memoryInUse 13 = .ok (.invokevirtual 86, 3) := by decide +kernel
theorem dX5_memoryInUse_16 : decode cX5_memoryInUse 16 = .ok (.ifCond .eq 15, 3) := by decide +kernel
theorem dX5_memoryInUse_19 : decode cX5_memoryInUse 19 = .ok (.aload_n 0, 1) := by decide +kernel
theorem dX5_memoryInUse_20 : decode cX5_memoryInUse 20 = .ok (.getfield 37, 3) := by decide +kernel
theorem dX5_memoryInUse_23 : decode cX5_memoryInUse 23 = .ok (.getfield 83, 3) := by decide +kernel
theorem dX5_memoryInUse_26 : decode cX5_memoryInUse 26 = .ok (.iconst 1, 1) := by decide +kernel
theorem dX5_memoryInUse_27 : decode cX5_memoryInUse 27 = .ok (.iadd, 1) := by decide +kernel
theorem dX5_memoryInUse_28 : decode cX5_memoryInUse 28 = .ok (.goto 4, 3) := by decide +kernel
theorem dX5_memoryInUse_31 : decode cX5_memoryInUse 31 = .ok (.iconst 0, 1) := by decide +kernel
theorem dX5_memoryInUse_32 : decode cX5_memoryInUse 32 = .ok (.ireturn, 1) := by decide +kernel
def ck_wsX5_rowOfRun : List (List Cond) := [[.code yX5_rowOfRun cX5_rowOfRun 4 (some .int)], wsX5_rowOfRun_r1, wsX5_rowOfRun_r2]
theorem ck_wsX5_rowOfRun_m : ∀ c ∈ ck_wsX5_rowOfRun, ∀ w ∈ c, w ∈ wsX5_rowOfRun := List.forall_mem_cons.mpr ⟨fun w h => List.mem_cons.mpr (Or.inl (List.mem_singleton.mp h)), List.forall_mem_cons.mpr ⟨fun _ h => (List.mem_cons_of_mem _ (List.mem_append_left _ (List.mem_append_left _ (List.mem_append_left _ (List.mem_append_left _ h))))), List.forall_mem_cons.mpr ⟨fun _ h => (List.mem_cons_of_mem _ (List.mem_append_left _ (List.mem_append_left _ (List.mem_append_left _ (List.mem_append_right _ h))))), fun _ h => absurd h List.not_mem_nil⟩⟩⟩
set_option maxRecDepth 100000 in
theorem ck_wsX5_rowOfRun_g : ∀ w ∈ wsX5_rowOfRun, goodWord w = true := List.all_eq_true.mp (by decide +kernel)
set_option maxRecDepth 100000 in
theorem ggX5_rowOfRun_X4_placeOf : GoodIn wsX5_rowOfRun wsX4_placeOf := goodIn_ca (goodIn_2 ck_wsX5_rowOfRun [(1, 6), (1, 7), (1, 8), (1, 9), (1, 10), (1, 5), (1, 11), (1, 12)] ck_wsX5_rowOfRun_m ck_wsX5_rowOfRun_g rfl) (goodIn_b (fun _ h => (List.mem_cons_of_mem _ (List.mem_append_left _ (List.mem_append_right _ h)))) ck_wsX5_rowOfRun_g)
set_option maxRecDepth 20000 in
theorem gX5_rowOfRun_X4_placeOf : GoodIn wsX5_rowOfRun (wsV RX5 96 RX4 yX4_placeOf wsX4_placeOf) := goodIn_app (goodIn_of _ (by decide +kernel)) ggX5_rowOfRun_X4_placeOf
set_option maxRecDepth 100000 in
theorem ggX5_rowOfRun_X4_lengthAt : GoodIn wsX5_rowOfRun wsX4_lengthAt := goodIn_ca (goodIn_2 ck_wsX5_rowOfRun [(1, 16), (1, 17)] ck_wsX5_rowOfRun_m ck_wsX5_rowOfRun_g rfl) (goodIn_b (fun _ h => (List.mem_cons_of_mem _ (List.mem_append_left _ (List.mem_append_right _ h)))) ck_wsX5_rowOfRun_g)
set_option maxRecDepth 20000 in
theorem gX5_rowOfRun_X4_lengthAt : GoodIn wsX5_rowOfRun (wsV RX5 100 RX4 yX4_lengthAt wsX4_lengthAt) := goodIn_app (goodIn_of _ (by decide +kernel)) ggX5_rowOfRun_X4_lengthAt
set_option maxRecDepth 100000 in
theorem ggX5_rowOfRun_X4_firstAt : GoodIn wsX5_rowOfRun wsX4_firstAt := goodIn_ca (goodIn_2 ck_wsX5_rowOfRun [(1, 21), (1, 22)] ck_wsX5_rowOfRun_m ck_wsX5_rowOfRun_g rfl) (goodIn_b (fun _ h => (List.mem_cons_of_mem _ (List.mem_append_left _ (List.mem_append_right _ h)))) ck_wsX5_rowOfRun_g)
set_option maxRecDepth 20000 in
theorem gX5_rowOfRun_X4_firstAt : GoodIn wsX5_rowOfRun (wsV RX5 103 RX4 yX4_firstAt wsX4_firstAt) := goodIn_app (goodIn_of _ (by decide +kernel)) ggX5_rowOfRun_X4_firstAt
set_option maxRecDepth 100000 in
theorem ggX5_rowOfRun_X3_rowBehind : GoodIn wsX5_rowOfRun wsX3_rowBehind := goodIn_ca (goodIn_2 ck_wsX5_rowOfRun [(2, 3), (2, 4), (2, 5), (2, 6), (2, 2), (2, 7), (2, 8)] ck_wsX5_rowOfRun_m ck_wsX5_rowOfRun_g rfl) (goodIn_b (fun _ h => (List.mem_cons_of_mem _ (List.mem_append_right _ h))) ck_wsX5_rowOfRun_g)
set_option maxRecDepth 20000 in
theorem gX5_rowOfRun_X3_rowBehind : GoodIn wsX5_rowOfRun (wsV RX5 106 RX3 yX3_rowBehind wsX3_rowBehind) := goodIn_app (goodIn_of _ (by decide +kernel)) ggX5_rowOfRun_X3_rowBehind
theorem dX5_rowOfRun_0 : decode cX5_rowOfRun 0 = .ok (.aload_n 0, 1) := by decide +kernel
theorem dX5_rowOfRun_1 : decode cX5_rowOfRun 1 = .ok (.getfield 21, 3) := by decide +kernel
theorem dX5_rowOfRun_4 : decode cX5_rowOfRun 4 = .ok (.iload_n 1, 1) := by decide +kernel
theorem dX5_rowOfRun_5 : decode cX5_rowOfRun 5 = .ok (.invokevirtual 96, 3) := by decide +kernel
theorem dX5_rowOfRun_8 : decode cX5_rowOfRun 8 = .ok (.istore_n 3, 1) := by decide +kernel
theorem dX5_rowOfRun_9 : decode cX5_rowOfRun 9 = .ok (.iload_n 2, 1) := by decide +kernel
theorem dX5_rowOfRun_10 : decode cX5_rowOfRun 10 = .ok (.ifCond .lt 15, 3) := by decide +kernel
theorem dX5_rowOfRun_13 : decode cX5_rowOfRun 13 = .ok (.iload_n 2, 1) := by decide +kernel
theorem dX5_rowOfRun_14 : decode cX5_rowOfRun 14 = .ok (.aload_n 0, 1) := by decide +kernel
theorem dX5_rowOfRun_15 : decode cX5_rowOfRun 15 = .ok (.getfield 21, 3) := by decide +kernel
theorem dX5_rowOfRun_18 : decode cX5_rowOfRun 18 = .ok (.iload_n 3, 1) := by decide +kernel
theorem dX5_rowOfRun_19 : decode cX5_rowOfRun 19 = .ok (.invokevirtual 100, 3) := by decide +kernel
theorem dX5_rowOfRun_22 : decode cX5_rowOfRun 22 = .ok (.if_icmp .lt 5, 3) := by decide +kernel
theorem dX5_rowOfRun_25 : decode cX5_rowOfRun 25 = .ok (.iconst (-1), 1) := by decide +kernel
theorem dX5_rowOfRun_26 : decode cX5_rowOfRun 26 = .ok (.ireturn, 1) := by decide +kernel
theorem dX5_rowOfRun_27 : decode cX5_rowOfRun 27 = .ok (.aload_n 0, 1) := by decide +kernel
theorem dX5_rowOfRun_28 : decode cX5_rowOfRun 28 = .ok (.getfield 12, 3) := by decide +kernel
theorem dX5_rowOfRun_31 : decode cX5_rowOfRun 31 = .ok (.aload_n 0, 1) := by decide +kernel
theorem dX5_rowOfRun_32 : decode cX5_rowOfRun 32 = .ok (.getfield 21, 3) := by decide +kernel
theorem dX5_rowOfRun_35 : decode cX5_rowOfRun 35 = .ok (.iload_n 3, 1) := by decide +kernel
theorem dX5_rowOfRun_36 : decode cX5_rowOfRun 36 = .ok (.invokevirtual 103, 3) := by decide +kernel
theorem dX5_rowOfRun_39 : decode cX5_rowOfRun 39 = .ok (.iload_n 2, 1) := by decide +kernel
theorem dX5_rowOfRun_40 : decode cX5_rowOfRun 40 = .ok (.invokevirtual 106, 3) := by decide +kernel
theorem dX5_rowOfRun_43 : decode cX5_rowOfRun 43 = .ok (.ireturn, 1) := by decide +kernel
def ck_wsX5_collect : List (List Cond) := [[.code yX5_collect cX5_collect 4 (some .int)], wsX5_collect_r1, wsX5_collect_r2, wsX5_collect_r3, wsX5_collect_r4]
theorem ck_wsX5_collect_m : ∀ c ∈ ck_wsX5_collect, ∀ w ∈ c, w ∈ wsX5_collect := List.forall_mem_cons.mpr ⟨fun w h => List.mem_cons.mpr (Or.inl (List.mem_singleton.mp h)), List.forall_mem_cons.mpr ⟨fun _ h => (List.mem_cons_of_mem _ (List.mem_append_left _ (List.mem_append_left _ (List.mem_append_left _ (List.mem_append_left _ h))))), List.forall_mem_cons.mpr ⟨fun _ h => (List.mem_cons_of_mem _ (List.mem_append_left _ (List.mem_append_left _ (List.mem_append_left _ (List.mem_append_right _ (List.mem_append_left _ h)))))), List.forall_mem_cons.mpr ⟨fun _ h => (List.mem_cons_of_mem _ (List.mem_append_left _ (List.mem_append_left _ (List.mem_append_left _ (List.mem_append_right _ (List.mem_append_right _ (List.mem_append_left _ h))))))), List.forall_mem_cons.mpr ⟨fun _ h => (List.mem_cons_of_mem _ (List.mem_append_left _ (List.mem_append_left _ (List.mem_append_left _ (List.mem_append_right _ (List.mem_append_right _ (List.mem_append_right _ h))))))), fun _ h => absurd h List.not_mem_nil⟩⟩⟩⟩⟩
set_option maxRecDepth 100000 in
theorem ck_wsX5_collect_g : ∀ w ∈ wsX5_collect, goodWord w = true := List.all_eq_true.mp (by decide +kernel)
set_option maxRecDepth 100000 in
theorem ggX5_collect_X5_rowInMemoryWith : GoodIn wsX5_collect wsX5_rowInMemoryWith := goodIn_ca (goodIn_ca (goodIn_2 ck_wsX5_collect [(1, 8), (1, 2), (1, 1), (1, 9), (1, 10), (1, 11), (1, 7), (1, 12), (1, 13), (1, 14), (1, 15), (1, 16), (1, 17), (1, 18), (1, 19)] ck_wsX5_collect_m ck_wsX5_collect_g rfl) (goodIn_b (fun _ h => (List.mem_cons_of_mem _ (List.mem_append_left _ (List.mem_append_left _ (List.mem_append_right _ h))))) ck_wsX5_collect_g)) (goodIn_b (fun _ h => (List.mem_cons_of_mem _ (List.mem_append_left _ (List.mem_append_right _ h)))) ck_wsX5_collect_g)
set_option maxRecDepth 20000 in
theorem gX5_collect_X5_rowInMemoryWith : GoodIn wsX5_collect (wsV RX5 109 RX5 yX5_rowInMemoryWith wsX5_rowInMemoryWith) := goodIn_app (goodIn_of _ (by decide +kernel)) ggX5_collect_X5_rowInMemoryWith
set_option maxRecDepth 100000 in
theorem ggX5_collect_X3_put : GoodIn wsX5_collect wsX3_put := goodIn_ca (goodIn_2 ck_wsX5_collect [(1, 23), (2, 0), (1, 19), (2, 1), (2, 2), (2, 3), (2, 4), (2, 5), (1, 17), (2, 6)] ck_wsX5_collect_m ck_wsX5_collect_g rfl) (goodIn_b (fun _ h => (List.mem_cons_of_mem _ (List.mem_append_left _ (List.mem_append_right _ h)))) ck_wsX5_collect_g)
set_option maxRecDepth 20000 in
theorem gX5_collect_X3_put : GoodIn wsX5_collect (wsV RX5 112 RX3 yX3_put wsX3_put) := goodIn_app (goodIn_of _ (by decide +kernel)) ggX5_collect_X3_put
set_option maxRecDepth 100000 in
theorem ggX5_collect_X3_has : GoodIn wsX5_collect wsX3_has := goodIn_ca (goodIn_2 ck_wsX5_collect [(2, 10), (2, 0)] ck_wsX5_collect_m ck_wsX5_collect_g rfl) (goodIn_b (fun _ h => (List.mem_cons_of_mem _ (List.mem_append_left _ (List.mem_append_right _ h)))) ck_wsX5_collect_g)
set_option maxRecDepth 20000 in
theorem gX5_collect_X3_has : GoodIn wsX5_collect (wsV RX5 115 RX3 yX3_has wsX3_has) := goodIn_app (goodIn_of _ (by decide +kernel)) ggX5_collect_X3_has
set_option maxRecDepth 100000 in
theorem ggX5_collect_X3_absorb : GoodIn wsX5_collect wsX3_absorb := goodIn_ca (goodIn_2 ck_wsX5_collect [(2, 14), (2, 1)] ck_wsX5_collect_m ck_wsX5_collect_g rfl) (goodIn_b (fun _ h => (List.mem_cons_of_mem _ (List.mem_append_left _ (List.mem_append_right _ h)))) ck_wsX5_collect_g)
set_option maxRecDepth 20000 in
theorem gX5_collect_X3_absorb : GoodIn wsX5_collect (wsV RX5 119 RX3 yX3_absorb wsX3_absorb) := goodIn_app (goodIn_of _ (by decide +kernel)) ggX5_collect_X3_absorb
set_option maxRecDepth 100000 in
theorem ggX5_collect_X5_writeMemory : GoodIn wsX5_collect wsX5_writeMemory := goodIn_ca (goodIn_ca (goodIn_ca (goodIn_2 ck_wsX5_collect [(2, 18), (1, 2), (1, 1), (2, 19), (2, 20), (2, 21), (2, 22), (1, 7), (2, 23), (1, 9), (1, 10), (1, 11), (1, 12), (1, 13), (3, 0), (3, 1), (3, 2), (1, 17), (3, 3), (1, 19), (3, 4), (3, 5), (3, 6), (3, 7), (3, 8), (3, 9), (3, 10), (3, 11), (2, 2), (3, 12), (3, 13), (3, 14), (3, 15), (3, 16), (3, 17), (3, 18), (3, 19), (3, 20), (3, 21), (3, 22), (3, 23), (4, 0), (4, 1), (4, 2)] ck_wsX5_collect_m ck_wsX5_collect_g rfl) (goodIn_b (fun _ h => (List.mem_cons_of_mem _ (List.mem_append_left _ (List.mem_append_left _ (List.mem_append_right _ h))))) ck_wsX5_collect_g)) (goodIn_b (fun _ h => (List.mem_cons_of_mem _ (List.mem_append_left _ (List.mem_append_right _ h)))) ck_wsX5_collect_g)) (goodIn_b (fun _ h => (List.mem_cons_of_mem _ (List.mem_append_right _ h))) ck_wsX5_collect_g)
set_option maxRecDepth 20000 in
theorem gX5_collect_X5_writeMemory : GoodIn wsX5_collect (wsV RX5 123 RX5 yX5_writeMemory wsX5_writeMemory) := goodIn_app (goodIn_of _ (by decide +kernel)) ggX5_collect_X5_writeMemory
set_option maxRecDepth 100000 in
theorem ggX5_collect_X5_placeInMemory : GoodIn wsX5_collect wsX5_placeInMemory := goodIn_ca (goodIn_2 ck_wsX5_collect [(3, 7), (1, 13)] ck_wsX5_collect_m ck_wsX5_collect_g rfl) (goodIn_b (fun _ h => (List.mem_cons_of_mem _ (List.mem_append_left _ (List.mem_append_left _ (List.mem_append_right _ h))))) ck_wsX5_collect_g)
set_option maxRecDepth 20000 in
theorem gX5_collect_X5_placeInMemory : GoodIn wsX5_collect (wsV RX5 127 RX5 yX5_placeInMemory wsX5_placeInMemory) := goodIn_app (goodIn_of _ (by decide +kernel)) ggX5_collect_X5_placeInMemory
theorem dX5_collect_0 : decode cX5_collect 0 = .ok (.aload_n 0, 1) := by decide +kernel
theorem dX5_collect_1 : decode cX5_collect 1 = .ok (.getfield 47, 3) := by decide +kernel
theorem dX5_collect_4 : decode cX5_collect 4 = .ok (.ifCond .eq 11, 3) := by decide +kernel
theorem dX5_collect_7 : decode cX5_collect 7 = .ok (.aload_n 0, 1) := by decide +kernel
theorem dX5_collect_8 : decode cX5_collect 8 = .ok (.iload_n 1, 1) := by decide +kernel
theorem dX5_collect_9 : decode cX5_collect 9 = .ok (.invokevirtual 109, 3) := by decide +kernel
theorem dX5_collect_12 : decode cX5_collect 12 = .ok (.goto 4, 3) := by decide +kernel
theorem dX5_collect_15 : decode cX5_collect 15 = .ok (.iconst (-1), 1) := by decide +kernel
theorem dX5_collect_16 : decode cX5_collect 16 = .ok (.istore_n 2, 1) := by decide +kernel
theorem dX5_collect_17 : decode cX5_collect 17 = .ok (.aload_n 0, 1) := by decide +kernel
theorem dX5_collect_18 : decode cX5_collect 18 = .ok (.getfield 12, 3) := by decide +kernel
theorem dX5_collect_21 : decode cX5_collect 21 = .ok (.iload_n 1, 1) := by decide +kernel
theorem dX5_collect_22 : decode cX5_collect 22 = .ok (.invokevirtual 112, 3) := by decide +kernel
theorem dX5_collect_25 : decode cX5_collect 25 = .ok (.istore_n 3, 1) := by decide +kernel
theorem dX5_collect_26 : decode cX5_collect 26 = .ok (.aload_n 0, 1) := by decide +kernel
theorem dX5_collect_27 : decode cX5_collect 27 = .ok (.getfield 12, 3) := by decide +kernel
theorem dX5_collect_30 : decode cX5_collect 30 = .ok (.iload_n 2, 1) := by decide +kernel
theorem dX5_collect_31 : decode cX5_collect 31 = .ok (.invokevirtual 115, 3) := by decide +kernel
theorem dX5_collect_34 : decode cX5_collect 34 = .ok (.ifCond .eq 14, 3) := by decide +kernel
theorem dX5_collect_37 : decode cX5_collect 37 = .ok (.aload_n 0, 1) := by decide +kernel
theorem dX5_collect_38 : decode cX5_collect 38 = .ok (.getfield 12, 3) := by decide +kernel
theorem dX5_collect_41 : decode cX5_collect 41 = .ok (.iload_n 2, 1) := by decide +kernel
theorem dX5_collect_42 : decode cX5_collect 42 = .ok (.iload_n 3, 1) := by decide +kernel
theorem dX5_collect_43 : decode cX5_collect 43 = .ok (.invokevirtual 119, 3) := by decide +kernel
theorem dX5_collect_46 : decode cX5_collect 46 = .ok (.iload_n 3, 1) := by decide +kernel
theorem dX5_collect_47 : decode cX5_collect 47 = .ok (.ireturn, 1) := by decide +kernel
theorem dX5_collect_48 : decode cX5_collect 48 = .ok (.aload_n 0, 1) := by decide +kernel
theorem dX5_collect_49 : decode cX5_collect 49 = .ok (.getfield 56, 3) := by decide +kernel
theorem dX5_collect_52 : decode cX5_collect 52 = .ok (.aload_n 0, 1) := by decide +kernel
theorem dX5_collect_53 : decode cX5_collect 53 = .ok (.getfield 29, 3) := by decide +kernel
theorem dX5_collect_56 : decode cX5_collect 56 = .ok (.if_icmp .lt 8, 3) := by decide +kernel
theorem dX5_collect_59 : decode cX5_collect 59 = .ok (.aload_n 0, 1) := by decide +kernel
theorem dX5_collect_60 : decode cX5_collect 60 = .ok (.invokevirtual 123, 3) := by decide +kernel
theorem dX5_collect_63 : decode cX5_collect 63 = .ok (.pop, 1) := by decide +kernel
theorem dX5_collect_64 : decode cX5_collect 64 = .ok (.aload_n 0, 1) := by decide +kernel
theorem dX5_collect_65 : decode cX5_collect 65 = .ok (.aload_n 0, 1) := by decide +kernel
theorem dX5_collect_66 : decode cX5_collect 66 = .ok (.getfield 56, 3) := by decide +kernel
theorem dX5_collect_69 : decode cX5_collect 69 = .ok (.iload_n 3, 1) := by decide +kernel
theorem dX5_collect_70 : decode cX5_collect 70 = .ok (.invokevirtual 127, 3) := by decide +kernel
theorem dX5_collect_73 : decode cX5_collect 73 = .ok (.aload_n 0, 1) := by decide +kernel
theorem dX5_collect_74 : decode cX5_collect 74 = .ok (.dup, 1) := by decide +kernel
theorem dX5_collect_75 : decode cX5_collect 75 = .ok (.getfield 56, 3) := by decide +kernel
theorem dX5_collect_78 : decode cX5_collect 78 = .ok (.iconst 1, 1) := by decide +kernel
theorem dX5_collect_79 : decode cX5_collect 79 = .ok (.iadd, 1) := by decide +kernel
theorem dX5_collect_80 : decode cX5_collect 80 = .ok (.putfield 56, 3) := by decide +kernel
theorem dX5_collect_83 : decode cX5_collect 83 = .ok (.iload_n 3, 1) := by decide +kernel
theorem dX5_collect_84 : decode cX5_collect 84 = .ok (.ireturn, 1) := by decide +kernel
set_option maxRecDepth 20000 in
theorem ggX5_rowInMemoryWith_X5_memoryRowAt : GoodIn wsX5_rowInMemoryWith wsX5_memoryRowAt := goodIn_r _ [7, 8, 15, 16, 17, 18, 19, 20, 21, 22, 23, 24, 25, 26, 27, 28, 29, 30] (by decide +kernel) (by decide +kernel)
set_option maxRecDepth 20000 in
theorem gX5_rowInMemoryWith_X5_memoryRowAt : GoodIn wsX5_rowInMemoryWith (wsV RX5 130 RX5 yX5_memoryRowAt wsX5_memoryRowAt) := goodIn_app (goodIn_of _ (by decide +kernel)) ggX5_rowInMemoryWith_X5_memoryRowAt
set_option maxRecDepth 20000 in
theorem ggX5_rowInMemoryWith_X3_keyOf : GoodIn wsX5_rowInMemoryWith wsX3_keyOf := goodIn_r _ [13, 14, 31, 32, 33, 34] (by decide +kernel) (by decide +kernel)
set_option maxRecDepth 20000 in
theorem gX5_rowInMemoryWith_X3_keyOf : GoodIn wsX5_rowInMemoryWith (wsV RX5 133 RX3 yX3_keyOf wsX3_keyOf) := goodIn_app (goodIn_of _ (by decide +kernel)) ggX5_rowInMemoryWith_X3_keyOf
theorem dX5_rowInMemoryWith_0 : decode cX5_rowInMemoryWith 0 = .ok (.iconst 0, 1) := by decide +kernel
theorem dX5_rowInMemoryWith_1 : decode cX5_rowInMemoryWith 1 = .ok (.istore_n 2, 1) := by decide +kernel
theorem dX5_rowInMemoryWith_2 : decode cX5_rowInMemoryWith 2 = .ok (.iload_n 2, 1) := by decide +kernel
theorem dX5_rowInMemoryWith_3 : decode cX5_rowInMemoryWith 3 = .ok (.aload_n 0, 1) := by decide +kernel
theorem dX5_rowInMemoryWith_4 : decode cX5_rowInMemoryWith 4 = .ok (.getfield 56, 3) := by decide +kernel
theorem dX5_rowInMemoryWith_7 : decode cX5_rowInMemoryWith 7 = .ok (.if_icmp .ge 29, 3) := by decide +kernel
theorem dX5_rowInMemoryWith_10 : decode cX5_rowInMemoryWith 10 = .ok (.aload_n 0, 1) := by decide +kernel
theorem dX5_rowInMemoryWith_11 : decode cX5_rowInMemoryWith 11 = .ok (.iload_n 2, 1) := by decide +kernel
theorem dX5_rowInMemoryWith_12 : decode cX5_rowInMemoryWith 12 = .ok (.invokevirtual 130, 3) := by decide +kernel
theorem dX5_rowInMemoryWith_15 : decode cX5_rowInMemoryWith 15 = .ok (.istore_n 3, 1) := by decide +kernel
theorem dX5_rowInMemoryWith_16 : decode cX5_rowInMemoryWith 16 = .ok (.aload_n 0, 1) := by decide +kernel
theorem dX5_rowInMemoryWith_17 : decode cX5_rowInMemoryWith 17 = .ok (.getfield 12, 3) := by decide +kernel
theorem dX5_rowInMemoryWith_20 : decode cX5_rowInMemoryWith 20 = .ok (.iload_n 3, 1) := by decide +kernel
theorem dX5_rowInMemoryWith_21 : decode cX5_rowInMemoryWith 21 = .ok (.invokevirtual 133, 3) := by decide +kernel
theorem dX5_rowInMemoryWith_24 : decode cX5_rowInMemoryWith 24 = .ok (.iload_n 1, 1) := by decide +kernel
theorem dX5_rowInMemoryWith_25 : decode cX5_rowInMemoryWith 25 = .ok (.if_icmp .ne 5, 3) := by decide +kernel
theorem dX5_rowInMemoryWith_28 : decode cX5_rowInMemoryWith 28 = .ok (.iload_n 3, 1) := by decide +kernel
theorem dX5_rowInMemoryWith_29 : decode cX5_rowInMemoryWith 29 = .ok (.ireturn, 1) := by decide +kernel
theorem dX5_rowInMemoryWith_30 : decode cX5_rowInMemoryWith 30 = .ok (.iinc 2 1, 3) := by decide +kernel
theorem dX5_rowInMemoryWith_33 : decode cX5_rowInMemoryWith 33 = .ok (.goto (-31), 3) := by decide +kernel
theorem dX5_rowInMemoryWith_36 : decode cX5_rowInMemoryWith 36 = .ok (.iconst (-1), 1) := by decide +kernel
theorem dX5_rowInMemoryWith_37 : decode cX5_rowInMemoryWith 37 = .ok (.ireturn, 1) := by decide +kernel
def ck_wsX5_writeMemory : List (List Cond) := [[.code yX5_writeMemory cX5_writeMemory 2 (some .int)], wsX5_writeMemory_r1, wsX5_writeMemory_r2]
theorem ck_wsX5_writeMemory_m : ∀ c ∈ ck_wsX5_writeMemory, ∀ w ∈ c, w ∈ wsX5_writeMemory := List.forall_mem_cons.mpr ⟨fun w h => List.mem_cons.mpr (Or.inl (List.mem_singleton.mp h)), List.forall_mem_cons.mpr ⟨fun _ h => (List.mem_cons_of_mem _ (List.mem_append_left _ (List.mem_append_left _ (List.mem_append_left _ (List.mem_append_left _ h))))), List.forall_mem_cons.mpr ⟨fun _ h => (List.mem_cons_of_mem _ (List.mem_append_left _ (List.mem_append_left _ (List.mem_append_left _ (List.mem_append_right _ h))))), fun _ h => absurd h List.not_mem_nil⟩⟩⟩
set_option maxRecDepth 100000 in
theorem ck_wsX5_writeMemory_g : ∀ w ∈ wsX5_writeMemory, goodWord w = true := List.all_eq_true.mp (by decide +kernel)
set_option maxRecDepth 100000 in
theorem ggX5_writeMemory_X5_sortMemory : GoodIn wsX5_writeMemory wsX5_sortMemory := goodIn_ca (goodIn_ca (goodIn_2 ck_wsX5_writeMemory [(1, 7), (1, 0), (1, 1), (1, 8), (1, 9), (1, 10), (1, 6), (1, 11), (1, 12), (1, 13), (1, 14), (1, 15), (1, 16), (1, 17), (1, 18), (1, 19), (1, 20), (1, 21), (1, 22)] ck_wsX5_writeMemory_m ck_wsX5_writeMemory_g rfl) (goodIn_b (fun _ h => (List.mem_cons_of_mem _ (List.mem_append_left _ (List.mem_append_left _ (List.mem_append_right _ h))))) ck_wsX5_writeMemory_g)) (goodIn_b (fun _ h => (List.mem_cons_of_mem _ (List.mem_append_left _ (List.mem_append_right _ h)))) ck_wsX5_writeMemory_g)
set_option maxRecDepth 20000 in
theorem gX5_writeMemory_X5_sortMemory : GoodIn wsX5_writeMemory (wsV RX5 136 RX5 yX5_sortMemory wsX5_sortMemory) := goodIn_app (goodIn_of _ (by decide +kernel)) ggX5_writeMemory_X5_sortMemory
set_option maxRecDepth 100000 in
theorem ggX5_writeMemory_X5_memoryRowAt : GoodIn wsX5_writeMemory wsX5_memoryRowAt := goodIn_ca (goodIn_2 ck_wsX5_writeMemory [(1, 11), (1, 12)] ck_wsX5_writeMemory_m ck_wsX5_writeMemory_g rfl) (goodIn_b (fun _ h => (List.mem_cons_of_mem _ (List.mem_append_left _ (List.mem_append_left _ (List.mem_append_right _ h))))) ck_wsX5_writeMemory_g)
set_option maxRecDepth 20000 in
theorem gX5_writeMemory_X5_memoryRowAt : GoodIn wsX5_writeMemory (wsV RX5 130 RX5 yX5_memoryRowAt wsX5_memoryRowAt) := goodIn_app (goodIn_of _ (by decide +kernel)) ggX5_writeMemory_X5_memoryRowAt
set_option maxRecDepth 100000 in
theorem ggX5_writeMemory_X3_link : GoodIn wsX5_writeMemory wsX3_link := goodIn_ca (goodIn_2 ck_wsX5_writeMemory [(2, 2), (2, 3)] ck_wsX5_writeMemory_m ck_wsX5_writeMemory_g rfl) (goodIn_b (fun _ h => (List.mem_cons_of_mem _ (List.mem_append_left _ (List.mem_append_right _ h)))) ck_wsX5_writeMemory_g)
set_option maxRecDepth 20000 in
theorem gX5_writeMemory_X3_link : GoodIn wsX5_writeMemory (wsV RX5 139 RX3 yX3_link wsX3_link) := goodIn_app (goodIn_of _ (by decide +kernel)) ggX5_writeMemory_X3_link
set_option maxRecDepth 100000 in
theorem ggX5_writeMemory_X5_makeRun : GoodIn wsX5_writeMemory wsX5_makeRun := goodIn_ca (goodIn_ca (goodIn_2 ck_wsX5_writeMemory [(2, 7), (2, 8), (2, 9), (2, 10), (2, 11), (2, 12), (2, 13), (2, 14), (2, 15), (2, 16), (2, 17), (2, 18)] ck_wsX5_writeMemory_m ck_wsX5_writeMemory_g rfl) (goodIn_b (fun _ h => (List.mem_cons_of_mem _ (List.mem_append_left _ (List.mem_append_left _ (List.mem_append_right _ h))))) ck_wsX5_writeMemory_g)) (goodIn_b (fun _ h => (List.mem_cons_of_mem _ (List.mem_append_right _ h))) ck_wsX5_writeMemory_g)
set_option maxRecDepth 20000 in
theorem gX5_writeMemory_X5_makeRun : GoodIn wsX5_writeMemory (wsV RX5 142 RX5 yX5_makeRun wsX5_makeRun) := goodIn_app (goodIn_of _ (by decide +kernel)) ggX5_writeMemory_X5_makeRun
theorem dX5_writeMemory_0 : decode cX5_writeMemory 0 = .ok (.aload_n 0, 1) := by decide +kernel
theorem dX5_writeMemory_1 : decode cX5_writeMemory 1 = .ok (.getfield 56, 3) := by decide +kernel
theorem dX5_writeMemory_4 : decode cX5_writeMemory 4 = .ok (.ifCond .gt 6, 3) := by decide +kernel
theorem dX5_writeMemory_7 : decode cX5_writeMemory 7 = .ok (.bipush (-6), 2) := by decide +kernel
theorem dX5_writeMemory_9 : decode cX5_writeMemory 9 = .ok (.ireturn, 1) := by decide +kernel
theorem dX5_writeMemory_10 : decode cX5_writeMemory 10 = .ok (.aload_n 0, 1) := by decide +kernel
theorem dX5_writeMemory_11 : decode cX5_writeMemory 11 = .ok (.invokevirtual 136, 3) := by decide +kernel
theorem dX5_writeMemory_14 : decode cX5_writeMemory 14 = .ok (.iconst 1, 1) := by decide +kernel
theorem dX5_writeMemory_15 : decode cX5_writeMemory 15 = .ok (.istore_n 1, 1) := by decide +kernel
theorem dX5_writeMemory_16 : decode cX5_writeMemory 16 = .ok (.iload_n 1, 1) := by decide +kernel
theorem dX5_writeMemory_17 : decode cX5_writeMemory 17 = .ok (.aload_n 0, 1) := by decide +kernel
theorem dX5_writeMemory_18 : decode cX5_writeMemory 18 = .ok (.getfield 56, 3) := by decide +kernel
theorem dX5_writeMemory_21 : decode cX5_writeMemory 21 = .ok (.if_icmp .ge 28, 3) := by decide +kernel
theorem dX5_writeMemory_24 : decode cX5_writeMemory 24 = .ok (.aload_n 0, 1) := by decide +kernel
theorem dX5_writeMemory_25 : decode cX5_writeMemory 25 = .ok (.getfield 12, 3) := by decide +kernel
theorem dX5_writeMemory_28 : decode cX5_writeMemory 28 = .ok (.aload_n 0, 1) := by decide +kernel
theorem dX5_writeMemory_29 : decode cX5_writeMemory 29 = .ok (.iload_n 1, 1) := by decide +kernel
theorem dX5_writeMemory_30 : decode cX5_writeMemory 30 = .ok (.iconst 1, 1) := by decide +kernel
theorem dX5_writeMemory_31 : decode cX5_writeMemory 31 = .ok (.isub, 1) := by decide +kernel
theorem dX5_writeMemory_32 : decode cX5_writeMemory 32 = .ok (.invokevirtual 130, 3) := by decide +kernel
theorem dX5_writeMemory_35 : decode cX5_writeMemory 35 = .ok (.aload_n 0, 1) := by decide +kernel
theorem dX5_writeMemory_36 : decode cX5_writeMemory 36 = .ok (.iload_n 1, 1) := by decide +kernel
theorem dX5_writeMemory_37 : decode cX5_writeMemory 37 = .ok (.invokevirtual 130, 3) := by decide +kernel
theorem dX5_writeMemory_40 : decode cX5_writeMemory 40 = .ok (.invokevirtual 139, 3) := by decide +kernel
theorem dX5_writeMemory_43 : decode cX5_writeMemory 43 = .ok (.iinc 1 1, 3) := by decide +kernel
theorem dX5_writeMemory_46 : decode cX5_writeMemory 46 = .ok (.goto (-30), 3) := by decide +kernel
theorem dX5_writeMemory_49 : decode cX5_writeMemory 49 = .ok (.aload_n 0, 1) := by decide +kernel
theorem dX5_writeMemory_50 : decode cX5_writeMemory 50 = .ok (.dup, 1) := by decide +kernel
theorem dX5_writeMemory_51 : decode cX5_writeMemory 51 = .ok (.getfield 71, 3) := by decide +kernel
theorem dX5_writeMemory_54 : decode cX5_writeMemory 54 = .ok (.aload_n 0, 1) := by decide +kernel
theorem dX5_writeMemory_55 : decode cX5_writeMemory 55 = .ok (.getfield 56, 3) := by decide +kernel
theorem dX5_writeMemory_58 : decode cX5_writeMemory 58 = .ok (.iadd, 1) := by decide +kernel
theorem dX5_writeMemory_59 : decode cX5_writeMemory 59 = .ok (.putfield 71, 3) := by decide +kernel
theorem dX5_writeMemory_62 : decode cX5_writeMemory 62 = .ok (.aload_n 0, 1) := by decide +kernel
theorem dX5_writeMemory_63 : decode cX5_writeMemory 63 = .ok (.aload_n 0, 1) := by decide +kernel
theorem dX5_writeMemory_64 : decode cX5_writeMemory 64 = .ok (.iconst 0, 1) := by decide +kernel
theorem dX5_writeMemory_65 : decode cX5_writeMemory 65 = .ok (.invokevirtual 130, 3) := by decide +kernel
theorem dX5_writeMemory_68 : decode cX5_writeMemory 68 = .ok (.aload_n 0, 1) := by decide +kernel
theorem dX5_writeMemory_69 : decode cX5_writeMemory 69 = .ok (.getfield 56, 3) := by decide +kernel
theorem dX5_writeMemory_72 : decode cX5_writeMemory 72 = .ok (.invokevirtual 142, 3) := by decide +kernel
theorem dX5_writeMemory_75 : decode cX5_writeMemory 75 = .ok (.istore_n 1, 1) := by decide +kernel
theorem dX5_writeMemory_76 : decode cX5_writeMemory 76 = .ok (.aload_n 0, 1) := by decide +kernel
theorem dX5_writeMemory_77 : decode cX5_writeMemory 77 = .ok (.iconst 0, 1) := by decide +kernel
theorem dX5_writeMemory_78 : decode cX5_writeMemory 78 = .ok (.putfield 56, 3) := by decide +kernel
theorem dX5_writeMemory_81 : decode cX5_writeMemory 81 = .ok (.iload_n 1, 1) := by decide +kernel
theorem dX5_writeMemory_82 : decode cX5_writeMemory 82 = .ok (.ireturn, 1) := by decide +kernel
set_option maxRecDepth 20000 in
theorem ggX5_sortMemory_X5_memoryRowAt : GoodIn wsX5_sortMemory wsX5_memoryRowAt := goodIn_r _ [7, 8, 19, 20, 21, 22, 23, 24, 25, 26, 27, 28, 29, 30, 31, 32, 33, 34] (by decide +kernel) (by decide +kernel)
set_option maxRecDepth 20000 in
theorem gX5_sortMemory_X5_memoryRowAt : GoodIn wsX5_sortMemory (wsV RX5 130 RX5 yX5_memoryRowAt wsX5_memoryRowAt) := goodIn_app (goodIn_of _ (by decide +kernel)) ggX5_sortMemory_X5_memoryRowAt
set_option maxRecDepth 20000 in
theorem ggX5_sortMemory_X3_comesBefore : GoodIn wsX5_sortMemory wsX3_comesBefore := goodIn_r _ [13, 14, 35, 36, 37, 38] (by decide +kernel) (by decide +kernel)
set_option maxRecDepth 20000 in
theorem gX5_sortMemory_X3_comesBefore : GoodIn wsX5_sortMemory (wsV RX5 145 RX3 yX3_comesBefore wsX3_comesBefore) := goodIn_app (goodIn_of _ (by decide +kernel)) ggX5_sortMemory_X3_comesBefore
set_option maxRecDepth 20000 in
theorem ggX5_sortMemory_X5_placeInMemory : GoodIn wsX5_sortMemory wsX5_placeInMemory := goodIn_r _ [18, 8, 19, 20, 21, 22, 23, 24, 25, 26, 27, 28, 29, 30, 31, 32, 33, 34] (by decide +kernel) (by decide +kernel)
set_option maxRecDepth 20000 in
theorem gX5_sortMemory_X5_placeInMemory : GoodIn wsX5_sortMemory (wsV RX5 127 RX5 yX5_placeInMemory wsX5_placeInMemory) := goodIn_app (goodIn_of _ (by decide +kernel)) ggX5_sortMemory_X5_placeInMemory
theorem dX5_sortMemory_0 : decode cX5_sortMemory 0 = .ok (.iconst 1, 1) := by decide +kernel
theorem dX5_sortMemory_1 : decode cX5_sortMemory 1 = .ok (.istore_n 1, 1) := by decide +kernel
theorem dX5_sortMemory_2 : decode cX5_sortMemory 2 = .ok (.iload_n 1, 1) := by decide +kernel
theorem dX5_sortMemory_3 : decode cX5_sortMemory 3 = .ok (.aload_n 0, 1) := by decide +kernel
theorem dX5_sortMemory_4 : decode cX5_sortMemory 4 = .ok (.getfield 56, 3) := by decide +kernel
theorem dX5_sortMemory_7 : decode cX5_sortMemory 7 = .ok (.if_icmp .ge 63, 3) := by decide +kernel
theorem dX5_sortMemory_10 : decode cX5_sortMemory 10 = .ok (.aload_n 0, 1) := by decide +kernel
theorem dX5_sortMemory_11 : decode cX5_sortMemory 11 = .ok (.iload_n 1, 1) := by decide +kernel
theorem dX5_sortMemory_12 : decode cX5_sortMemory 12 = .ok (.invokevirtual 130, 3) := by decide +kernel
theorem dX5_sortMemory_15 : decode cX5_sortMemory 15 = .ok (.istore_n 2, 1) := by decide +kernel
theorem dX5_sortMemory_16 : decode cX5_sortMemory 16 = .ok (.iload_n 1, 1) := by decide +kernel
theorem dX5_sortMemory_17 : decode cX5_sortMemory 17 = .ok (.istore_n 3, 1) := by decide +kernel
theorem dX5_sortMemory_18 : decode cX5_sortMemory 18 = .ok (.iload_n 3, 1) := by decide +kernel
theorem dX5_sortMemory_19 : decode cX5_sortMemory 19 = .ok (.ifCond .le 39, 3) := by decide +kernel
theorem dX5_sortMemory_22 : decode cX5_sortMemory 22 = .ok (.aload_n 0, 1) := by decide +kernel
theorem dX5_sortMemory_23 : decode cX5_sortMemory 23 = .ok (.getfield 12, 3) := by decide +kernel
theorem dX5_sortMemory_26 : decode cX5_sortMemory 26 = .ok (.iload_n 2, 1) := by decide +kernel
theorem dX5_sortMemory_27 : decode cX5_sortMemory 27 = .ok (.aload_n 0, 1) := by decide +kernel
theorem dX5_sortMemory_28 : decode cX5_sortMemory 28 = .ok (.iload_n 3, 1) := by decide +kernel
theorem dX5_sortMemory_29 : decode cX5_sortMemory 29 = .ok (.iconst 1, 1) := by decide +kernel
theorem dX5_sortMemory_30 : decode cX5_sortMemory 30 = .ok (.isub, 1) := by decide +kernel
theorem dX5_sortMemory_31 : decode cX5_sortMemory 31 = .ok (.invokevirtual 130, 3) := by decide +kernel
theorem dX5_sortMemory_34 : decode cX5_sortMemory 34 = .ok (.invokevirtual 145, 3) := by decide +kernel
theorem dX5_sortMemory_37 : decode cX5_sortMemory 37 = .ok (.ifCond .eq 21, 3) := by decide +kernel
theorem dX5_sortMemory_40 : decode cX5_sortMemory 40 = .ok (.aload_n 0, 1) := by decide +kernel
theorem dX5_sortMemory_41 : decode cX5_sortMemory 41 = .ok (.iload_n 3, 1) := by decide +kernel
theorem dX5_sortMemory_42 : decode cX5_sortMemory 42 = .ok (.aload_n 0, 1) := by decide +kernel
theorem dX5_sortMemory_43 : decode cX5_sortMemory 43 = .ok (.iload_n 3, 1) := by decide +kernel
theorem dX5_sortMemory_44 : decode cX5_sortMemory 44 = .ok (.iconst 1, 1) := by decide +kernel
theorem dX5_sortMemory_45 : decode cX5_sortMemory 45 = .ok (.isub, 1) := by decide +kernel
theorem dX5_sortMemory_46 : decode cX5_sortMemory 46 = .ok (.invokevirtual 130, 3) := by decide +kernel
theorem dX5_sortMemory_49 : decode cX5_sortMemory 49 = .ok (.invokevirtual 127, 3) := by decide +kernel
theorem dX5_sortMemory_52 : decode cX5_sortMemory 52 = .ok (.iinc 3 (-1), 3) := by decide +kernel
theorem dX5_sortMemory_55 : decode cX5_sortMemory 55 = .ok (.goto (-37), 3) := by decide +kernel
theorem dX5_sortMemory_58 : decode cX5_sortMemory 58 = .ok (.aload_n 0, 1) := by decide +kernel
theorem dX5_sortMemory_59 : decode cX5_sortMemory 59 = .ok (.iload_n 3, 1) := by decide +kernel
theorem dX5_sortMemory_60 : decode cX5_sortMemory 60 = .ok (.iload_n 2, 1) := by decide +kernel
theorem dX5_sortMemory_61 : decode cX5_sortMemory 61 = .ok (.invokevirtual 127, 3) := by decide +kernel
theorem dX5_sortMemory_64 : decode cX5_sortMemory 64 = .ok (.iinc 1 1, 3) := by decide +kernel
theorem dX5_sortMemory_67 : decode cX5_sortMemory 67 = .ok (.goto (-65), 3) := by decide +kernel
theorem dX5_sortMemory_70 : decode cX5_sortMemory 70 = .ok (.return_, 1) := by decide +kernel
theorem dX5_placeInMemory_0 : decode cX5_placeInMemory 0 = .ok (.iload_n 1, 1) := by decide +kernel
theorem dX5_placeInMemory_1 : decode cX5_placeInMemory 1 = .ok (.ifCond .lt 16, 3) := by decide +kernel
theorem dX5_placeInMemory_4 : decode cX5_placeInMemory 4 = .ok (.iload_n 1, 1) := by decide +kernel
theorem dX5_placeInMemory_5 : decode cX5_placeInMemory 5 = .ok (.bipush 20, 2) := by decide +kernel
theorem dX5_placeInMemory_7 : decode cX5_placeInMemory 7 = .ok (.if_icmp .ge 10, 3) := by decide +kernel
theorem dX5_placeInMemory_10 : decode cX5_placeInMemory 10 = .ok (.aload_n 0, 1) := by decide +kernel
theorem dX5_placeInMemory_11 : decode cX5_placeInMemory 11 = .ok (.getfield 33, 3) := by decide +kernel
theorem dX5_placeInMemory_14 : decode cX5_placeInMemory 14 = .ok (.iload_n 1, 1) := by decide +kernel
theorem dX5_placeInMemory_15 : decode cX5_placeInMemory 15 = .ok (.iload_n 2, 1) := by decide +kernel
theorem dX5_placeInMemory_16 : decode cX5_placeInMemory 16 = .ok (.iastore, 1) := by decide +kernel
theorem dX5_placeInMemory_17 : decode cX5_placeInMemory 17 = .ok (.return_, 1) := by decide +kernel
set_option maxRecDepth 20000 in
theorem ggX5_makeRun_X4_insert : GoodIn wsX5_makeRun wsX4_insert := goodIn_r _ [7, 8, 9, 10, 11, 28, 29, 30, 31] (by decide +kernel) (by decide +kernel)
set_option maxRecDepth 20000 in
theorem gX5_makeRun_X4_insert : GoodIn wsX5_makeRun (wsV RX5 149 RX4 yX4_insert wsX4_insert) := goodIn_app (goodIn_of _ (by decide +kernel)) ggX5_makeRun_X4_insert
theorem dX5_makeRun_0 : decode cX5_makeRun 0 = .ok (.aload_n 0, 1) := by decide +kernel
theorem dX5_makeRun_1 : decode cX5_makeRun 1 = .ok (.getfield 80, 3) := by decide +kernel
theorem dX5_makeRun_4 : decode cX5_makeRun 4 = .ok (.istore_n 3, 1) := by decide +kernel
theorem dX5_makeRun_5 : decode cX5_makeRun 5 = .ok (.aload_n 0, 1) := by decide +kernel
theorem dX5_makeRun_6 : decode cX5_makeRun 6 = .ok (.dup, 1) := by decide +kernel
theorem dX5_makeRun_7 : decode cX5_makeRun 7 = .ok (.getfield 80, 3) := by decide +kernel
theorem dX5_makeRun_10 : decode cX5_makeRun 10 = .ok (.iconst 1, 1) := by decide +kernel
theorem dX5_makeRun_11 : decode cX5_makeRun 11 = .ok (.iadd, 1) := by decide +kernel
theorem dX5_makeRun_12 : decode cX5_makeRun 12 = .ok (.putfield 80, 3) := by decide +kernel
theorem dX5_makeRun_15 : decode cX5_makeRun 15 = .ok (.aload_n 0, 1) := by decide +kernel
theorem dX5_makeRun_16 : decode cX5_makeRun 16 = .ok (.getfield 21, 3) := by decide +kernel
theorem dX5_makeRun_19 : decode cX5_makeRun 19 = .ok (.iload_n 3, 1) := by decide +kernel
theorem dX5_makeRun_20 : decode cX5_makeRun 20 = .ok (.iload_n 1, 1) := by decide +kernel
theorem dX5_makeRun_21 : decode cX5_makeRun 21 = .ok (.iload_n 2, 1) := by decide +kernel
theorem dX5_makeRun_22 : decode cX5_makeRun 22 = .ok (.invokevirtual 149, 3) := by decide +kernel
theorem dX5_makeRun_25 : decode cX5_makeRun 25 = .ok (.iload_n 3, 1) := by decide +kernel
theorem dX5_makeRun_26 : decode cX5_makeRun 26 = .ok (.ireturn, 1) := by decide +kernel
def ck_wsX5_endCollecting : List (List Cond) := [[.code yX5_endCollecting cX5_endCollecting 1 none], wsX5_endCollecting_r1, wsX5_endCollecting_r2]
theorem ck_wsX5_endCollecting_m : ∀ c ∈ ck_wsX5_endCollecting, ∀ w ∈ c, w ∈ wsX5_endCollecting := List.forall_mem_cons.mpr ⟨fun w h => List.mem_cons.mpr (Or.inl (List.mem_singleton.mp h)), List.forall_mem_cons.mpr ⟨fun _ h => (List.mem_cons_of_mem _ (List.mem_append_left _ (List.mem_append_left _ (List.mem_append_left _ (List.mem_append_left _ h))))), List.forall_mem_cons.mpr ⟨fun _ h => (List.mem_cons_of_mem _ (List.mem_append_left _ (List.mem_append_left _ (List.mem_append_left _ (List.mem_append_right _ h))))), fun _ h => absurd h List.not_mem_nil⟩⟩⟩
set_option maxRecDepth 100000 in
theorem ck_wsX5_endCollecting_g : ∀ w ∈ wsX5_endCollecting, goodWord w = true := List.all_eq_true.mp (by decide +kernel)
set_option maxRecDepth 100000 in
theorem ggX5_endCollecting_X5_writeMemory : GoodIn wsX5_endCollecting wsX5_writeMemory := goodIn_ca (goodIn_ca (goodIn_ca (goodIn_2 ck_wsX5_endCollecting [(1, 5), (1, 6), (1, 7), (1, 8), (1, 9), (1, 10), (1, 11), (1, 4), (1, 12), (1, 13), (1, 14), (1, 15), (1, 16), (1, 17), (1, 18), (1, 19), (1, 20), (1, 21), (1, 22), (1, 23), (2, 0), (2, 1), (2, 2), (2, 3), (2, 4), (2, 5), (2, 6), (2, 7), (2, 8), (2, 9), (2, 10), (2, 11), (2, 12), (2, 13), (2, 14), (2, 15), (2, 16), (2, 17), (2, 18), (2, 19), (2, 20), (2, 21), (2, 22), (2, 23)] ck_wsX5_endCollecting_m ck_wsX5_endCollecting_g rfl) (goodIn_b (fun _ h => (List.mem_cons_of_mem _ (List.mem_append_left _ (List.mem_append_left _ (List.mem_append_right _ h))))) ck_wsX5_endCollecting_g)) (goodIn_b (fun _ h => (List.mem_cons_of_mem _ (List.mem_append_left _ (List.mem_append_right _ h)))) ck_wsX5_endCollecting_g)) (goodIn_b (fun _ h => (List.mem_cons_of_mem _ (List.mem_append_right _ h))) ck_wsX5_endCollecting_g)
set_option maxRecDepth 20000 in
theorem gX5_endCollecting_X5_writeMemory : GoodIn wsX5_endCollecting (wsV RX5 123 RX5 yX5_writeMemory wsX5_writeMemory) := goodIn_app (goodIn_of _ (by decide +kernel)) ggX5_endCollecting_X5_writeMemory
theorem dX5_endCollecting_0 : decode cX5_endCollecting 0 = .ok (.aload_n 0, 1) := by decide +kernel
theorem dX5_endCollecting_1 : decode cX5_endCollecting 1 = .ok (.invokevirtual 123, 3) := by decide +kernel
theorem dX5_endCollecting_4 : decode cX5_endCollecting 4 = .ok (.pop, 1) := by decide +kernel
theorem dX5_endCollecting_5 : decode cX5_endCollecting 5 = .ok (.aload_n 0, 1) := by decide +kernel
theorem dX5_endCollecting_6 : decode cX5_endCollecting 6 = .ok (.iconst 0, 1) := by decide +kernel
theorem dX5_endCollecting_7 : decode cX5_endCollecting 7 = .ok (.putfield 25, 3) := by decide +kernel
theorem dX5_endCollecting_10 : decode cX5_endCollecting 10 = .ok (.return_, 1) := by decide +kernel
def ck_wsX5_resize : List (List Cond) := [[.code yX5_resize cX5_resize 2 (some .int)], wsX5_resize_r1, wsX5_resize_r2, wsX5_resize_r3, wsX5_resize_r4]
theorem ck_wsX5_resize_m : ∀ c ∈ ck_wsX5_resize, ∀ w ∈ c, w ∈ wsX5_resize := List.forall_mem_cons.mpr ⟨fun w h => List.mem_cons.mpr (Or.inl (List.mem_singleton.mp h)), List.forall_mem_cons.mpr ⟨fun _ h => (List.mem_cons_of_mem _ (List.mem_append_left _ (List.mem_append_left _ (List.mem_append_left _ (List.mem_append_left _ h))))), List.forall_mem_cons.mpr ⟨fun _ h => (List.mem_cons_of_mem _ (List.mem_append_left _ (List.mem_append_left _ (List.mem_append_left _ (List.mem_append_right _ (List.mem_append_left _ h)))))), List.forall_mem_cons.mpr ⟨fun _ h => (List.mem_cons_of_mem _ (List.mem_append_left _ (List.mem_append_left _ (List.mem_append_left _ (List.mem_append_right _ (List.mem_append_right _ (List.mem_append_left _ h))))))), List.forall_mem_cons.mpr ⟨fun _ h => (List.mem_cons_of_mem _ (List.mem_append_left _ (List.mem_append_left _ (List.mem_append_left _ (List.mem_append_right _ (List.mem_append_right _ (List.mem_append_right _ h))))))), fun _ h => absurd h List.not_mem_nil⟩⟩⟩⟩⟩
set_option maxRecDepth 100000 in
theorem ck_wsX5_resize_g : ∀ w ∈ wsX5_resize, goodWord w = true := List.all_eq_true.mp (by decide +kernel)
set_option maxRecDepth 100000 in
theorem ggX5_resize_X5_writeMemory : GoodIn wsX5_resize wsX5_writeMemory := goodIn_ca (goodIn_ca (goodIn_ca (goodIn_2 ck_wsX5_resize [(1, 9), (1, 2), (1, 10), (1, 11), (1, 12), (1, 13), (1, 14), (1, 8), (1, 15), (1, 16), (1, 17), (1, 18), (1, 19), (1, 20), (1, 21), (1, 22), (1, 23), (2, 0), (2, 1), (2, 2), (2, 3), (2, 4), (2, 5), (2, 6), (2, 7), (2, 8), (2, 9), (2, 10), (2, 11), (2, 12), (2, 13), (2, 14), (2, 15), (2, 16), (2, 17), (2, 18), (2, 19), (2, 20), (2, 21), (2, 22), (2, 23), (3, 0), (3, 1), (3, 2)] ck_wsX5_resize_m ck_wsX5_resize_g rfl) (goodIn_b (fun _ h => (List.mem_cons_of_mem _ (List.mem_append_left _ (List.mem_append_left _ (List.mem_append_right _ h))))) ck_wsX5_resize_g)) (goodIn_b (fun _ h => (List.mem_cons_of_mem _ (List.mem_append_right _ h))) ck_wsX5_resize_g)) (goodIn_b (fun _ h => (List.mem_cons_of_mem _ (List.mem_append_left _ (List.mem_append_right _ h)))) ck_wsX5_resize_g)
set_option maxRecDepth 20000 in
theorem gX5_resize_X5_writeMemory : GoodIn wsX5_resize (wsV RX5 123 RX5 yX5_writeMemory wsX5_writeMemory) := goodIn_app (goodIn_of _ (by decide +kernel)) ggX5_resize_X5_writeMemory
set_option maxRecDepth 100000 in
theorem ggX5_resize_X5_ways : GoodIn wsX5_resize wsX5_ways := goodIn_ca (goodIn_2 ck_wsX5_resize [(3, 6), (1, 0), (3, 7), (3, 8), (3, 9), (3, 10)] ck_wsX5_resize_m ck_wsX5_resize_g rfl) (goodIn_b (fun _ h => (List.mem_cons_of_mem _ (List.mem_append_left _ (List.mem_append_left _ (List.mem_append_right _ h))))) ck_wsX5_resize_g)
set_option maxRecDepth 20000 in
theorem gX5_resize_X5_ways : GoodIn wsX5_resize (wsV RX5 153 RX5 yX5_ways wsX5_ways) := goodIn_app (goodIn_of _ (by decide +kernel)) ggX5_resize_X5_ways
set_option maxRecDepth 100000 in
theorem ggX5_resize_X5_cutShort : GoodIn wsX5_resize wsX5_cutShort := goodIn_ca (goodIn_ca (goodIn_2 ck_wsX5_resize [(3, 14), (2, 16), (1, 3), (1, 4), (3, 15), (3, 16), (3, 17), (3, 18), (1, 8), (3, 19), (3, 20), (3, 21), (2, 12), (2, 13), (2, 14), (2, 15), (2, 17), (2, 18), (2, 19), (2, 20), (2, 21), (2, 22), (2, 23), (3, 0), (3, 1), (3, 2), (3, 22), (3, 23), (4, 0), (4, 1), (4, 2), (4, 3), (4, 4), (4, 5), (4, 6), (4, 7), (4, 8), (4, 9)] ck_wsX5_resize_m ck_wsX5_resize_g rfl) (goodIn_b (fun _ h => (List.mem_cons_of_mem _ (List.mem_append_left _ (List.mem_append_left _ (List.mem_append_right _ h))))) ck_wsX5_resize_g)) (goodIn_b (fun _ h => (List.mem_cons_of_mem _ (List.mem_append_left _ (List.mem_append_right _ h)))) ck_wsX5_resize_g)
set_option maxRecDepth 20000 in
theorem gX5_resize_X5_cutShort : GoodIn wsX5_resize (wsV RX5 156 RX5 yX5_cutShort wsX5_cutShort) := goodIn_app (goodIn_of _ (by decide +kernel)) ggX5_resize_X5_cutShort
theorem dX5_resize_0 : decode cX5_resize 0 = .ok (.aload_n 0, 1) := by decide +kernel
theorem dX5_resize_1 : decode cX5_resize 1 = .ok (.iload_n 1, 1) := by decide +kernel
theorem dX5_resize_2 : decode cX5_resize 2 = .ok (.putfield 29, 3) := by decide +kernel
theorem dX5_resize_5 : decode cX5_resize 5 = .ok (.aload_n 0, 1) := by decide +kernel
theorem dX5_resize_6 : decode cX5_resize 6 = .ok (.getfield 25, 3) := by decide +kernel
theorem dX5_resize_9 : decode cX5_resize 9 = .ok (.ifCond .eq 18, 3) := by decide +kernel
theorem dX5_resize_12 : decode cX5_resize 12 = .ok (.aload_n 0, 1) := by decide +kernel
theorem dX5_resize_13 : decode cX5_resize 13 = .ok (.getfield 56, 3) := by decide +kernel
theorem dX5_resize_16 : decode cX5_resize 16 = .ok (.iload_n 1, 1) := by decide +kernel
theorem dX5_resize_17 : decode cX5_resize 17 = .ok (.if_icmp .le 10, 3) := by decide +kernel
theorem dX5_resize_20 : decode cX5_resize 20 = .ok (.aload_n 0, 1) := by decide +kernel
theorem dX5_resize_21 : decode cX5_resize 21 = .ok (.invokevirtual 123, 3) := by decide +kernel
theorem dX5_resize_24 : decode cX5_resize 24 = .ok (.pop, 1) := by decide +kernel
theorem dX5_resize_25 : decode cX5_resize 25 = .ok (.iconst 1, 1) := by decide +kernel
theorem dX5_resize_26 : decode cX5_resize 26 = .ok (.ireturn, 1) := by decide +kernel
theorem dX5_resize_27 : decode cX5_resize 27 = .ok (.aload_n 0, 1) := by decide +kernel
theorem dX5_resize_28 : decode cX5_resize 28 = .ok (.getfield 37, 3) := by decide +kernel
theorem dX5_resize_31 : decode cX5_resize 31 = .ok (.getfield 83, 3) := by decide +kernel
theorem dX5_resize_34 : decode cX5_resize 34 = .ok (.aload_n 0, 1) := by decide +kernel
theorem dX5_resize_35 : decode cX5_resize 35 = .ok (.invokevirtual 153, 3) := by decide +kernel
theorem dX5_resize_38 : decode cX5_resize 38 = .ok (.if_icmp .le 10, 3) := by decide +kernel
theorem dX5_resize_41 : decode cX5_resize 41 = .ok (.aload_n 0, 1) := by decide +kernel
theorem dX5_resize_42 : decode cX5_resize 42 = .ok (.invokevirtual 156, 3) := by decide +kernel
theorem dX5_resize_45 : decode cX5_resize 45 = .ok (.goto 4, 3) := by decide +kernel
theorem dX5_resize_48 : decode cX5_resize 48 = .ok (.iconst 0, 1) := by decide +kernel
theorem dX5_resize_49 : decode cX5_resize 49 = .ok (.ireturn, 1) := by decide +kernel
def ck_wsX5_cutShort : List (List Cond) := [[.code yX5_cutShort cX5_cutShort 3 (some .int)], wsX5_cutShort_r1, wsX5_cutShort_r2]
theorem ck_wsX5_cutShort_m : ∀ c ∈ ck_wsX5_cutShort, ∀ w ∈ c, w ∈ wsX5_cutShort := List.forall_mem_cons.mpr ⟨fun w h => List.mem_cons.mpr (Or.inl (List.mem_singleton.mp h)), List.forall_mem_cons.mpr ⟨fun _ h => (List.mem_cons_of_mem _ (List.mem_append_left _ (List.mem_append_left _ (List.mem_append_left _ h)))), List.forall_mem_cons.mpr ⟨fun _ h => (List.mem_cons_of_mem _ (List.mem_append_left _ (List.mem_append_left _ (List.mem_append_right _ h)))), fun _ h => absurd h List.not_mem_nil⟩⟩⟩
set_option maxRecDepth 100000 in
theorem ck_wsX5_cutShort_g : ∀ w ∈ wsX5_cutShort, goodWord w = true := List.all_eq_true.mp (by decide +kernel)
set_option maxRecDepth 100000 in
theorem ggX5_cutShort_X5_closeOutput : GoodIn wsX5_cutShort wsX5_closeOutput := goodIn_ca (goodIn_ca (goodIn_2 ck_wsX5_cutShort [(1, 8), (1, 9), (1, 10), (1, 11), (1, 12), (1, 13), (1, 7), (1, 14), (1, 0), (1, 15), (1, 16), (1, 17), (1, 18), (1, 19), (1, 20), (1, 21), (1, 22), (1, 23), (2, 0)] ck_wsX5_cutShort_m ck_wsX5_cutShort_g rfl) (goodIn_b (fun _ h => (List.mem_cons_of_mem _ (List.mem_append_left _ (List.mem_append_right _ h)))) ck_wsX5_cutShort_g)) (goodIn_b (fun _ h => (List.mem_cons_of_mem _ (List.mem_append_right _ h))) ck_wsX5_cutShort_g)
set_option maxRecDepth 20000 in
theorem gX5_cutShort_X5_closeOutput : GoodIn wsX5_cutShort (wsV RX5 159 RX5 yX5_closeOutput wsX5_closeOutput) := goodIn_app (goodIn_of _ (by decide +kernel)) ggX5_cutShort_X5_closeOutput
set_option maxRecDepth 100000 in
theorem ggX5_cutShort_X4_firstAt : GoodIn wsX5_cutShort wsX4_firstAt := goodIn_ca (goodIn_2 ck_wsX5_cutShort [(2, 4), (1, 23)] ck_wsX5_cutShort_m ck_wsX5_cutShort_g rfl) (goodIn_b (fun _ h => (List.mem_cons_of_mem _ (List.mem_append_right _ h))) ck_wsX5_cutShort_g)
set_option maxRecDepth 20000 in
theorem gX5_cutShort_X4_firstAt : GoodIn wsX5_cutShort (wsV RX5 103 RX4 yX4_firstAt wsX4_firstAt) := goodIn_app (goodIn_of _ (by decide +kernel)) ggX5_cutShort_X4_firstAt
set_option maxRecDepth 100000 in
theorem ggX5_cutShort_X4_lengthAt : GoodIn wsX5_cutShort wsX4_lengthAt := goodIn_ca (goodIn_2 ck_wsX5_cutShort [(2, 8), (2, 0)] ck_wsX5_cutShort_m ck_wsX5_cutShort_g rfl) (goodIn_b (fun _ h => (List.mem_cons_of_mem _ (List.mem_append_right _ h))) ck_wsX5_cutShort_g)
set_option maxRecDepth 20000 in
theorem gX5_cutShort_X4_lengthAt : GoodIn wsX5_cutShort (wsV RX5 100 RX4 yX4_lengthAt wsX4_lengthAt) := goodIn_app (goodIn_of _ (by decide +kernel)) ggX5_cutShort_X4_lengthAt
set_option maxRecDepth 100000 in
theorem ggX5_cutShort_X5_makeRun : GoodIn wsX5_cutShort wsX5_makeRun := goodIn_ca (goodIn_ca (goodIn_2 ck_wsX5_cutShort [(1, 14), (1, 0), (1, 15), (1, 16), (1, 17), (1, 18), (1, 19), (1, 20), (1, 21), (1, 22), (1, 23), (2, 0)] ck_wsX5_cutShort_m ck_wsX5_cutShort_g rfl) (goodIn_b (fun _ h => (List.mem_cons_of_mem _ (List.mem_append_left _ (List.mem_append_right _ h)))) ck_wsX5_cutShort_g)) (goodIn_b (fun _ h => (List.mem_cons_of_mem _ (List.mem_append_right _ h))) ck_wsX5_cutShort_g)
set_option maxRecDepth 20000 in
theorem gX5_cutShort_X5_makeRun : GoodIn wsX5_cutShort (wsV RX5 142 RX5 yX5_makeRun wsX5_makeRun) := goodIn_app (goodIn_of _ (by decide +kernel)) ggX5_cutShort_X5_makeRun
set_option maxRecDepth 100000 in
theorem ggX5_cutShort_X4_removeAll : GoodIn wsX5_cutShort wsX4_removeAll := goodIn_ca (goodIn_2 ck_wsX5_cutShort [(2, 12), (1, 21)] ck_wsX5_cutShort_m ck_wsX5_cutShort_g rfl) (goodIn_b (fun _ h => (List.mem_cons_of_mem _ (List.mem_append_right _ h))) ck_wsX5_cutShort_g)
set_option maxRecDepth 20000 in
theorem gX5_cutShort_X4_removeAll : GoodIn wsX5_cutShort (wsV RX5 162 RX4 yX4_removeAll wsX4_removeAll) := goodIn_app (goodIn_of _ (by decide +kernel)) ggX5_cutShort_X4_removeAll
theorem dX5_cutShort_0 : decode cX5_cutShort 0 = .ok (.aload_n 0, 1) := by decide +kernel
theorem dX5_cutShort_1 : decode cX5_cutShort 1 = .ok (.getfield 80, 3) := by decide +kernel
theorem dX5_cutShort_4 : decode cX5_cutShort 4 = .ok (.istore_n 1, 1) := by decide +kernel
theorem dX5_cutShort_5 : decode cX5_cutShort 5 = .ok (.aload_n 0, 1) := by decide +kernel
theorem dX5_cutShort_6 : decode cX5_cutShort 6 = .ok (.invokevirtual 159, 3) := by decide +kernel
theorem dX5_cutShort_9 : decode cX5_cutShort 9 = .ok (.iconst 0, 1) := by decide +kernel
theorem dX5_cutShort_10 : decode cX5_cutShort 10 = .ok (.istore_n 2, 1) := by decide +kernel
theorem dX5_cutShort_11 : decode cX5_cutShort 11 = .ok (.iload_n 2, 1) := by decide +kernel
theorem dX5_cutShort_12 : decode cX5_cutShort 12 = .ok (.aload_n 0, 1) := by decide +kernel
theorem dX5_cutShort_13 : decode cX5_cutShort 13 = .ok (.getfield 37, 3) := by decide +kernel
theorem dX5_cutShort_16 : decode cX5_cutShort 16 = .ok (.getfield 83, 3) := by decide +kernel
theorem dX5_cutShort_19 : decode cX5_cutShort 19 = .ok (.if_icmp .ge 30, 3) := by decide +kernel
theorem dX5_cutShort_22 : decode cX5_cutShort 22 = .ok (.aload_n 0, 1) := by decide +kernel
theorem dX5_cutShort_23 : decode cX5_cutShort 23 = .ok (.aload_n 0, 1) := by decide +kernel
theorem dX5_cutShort_24 : decode cX5_cutShort 24 = .ok (.getfield 37, 3) := by decide +kernel
theorem dX5_cutShort_27 : decode cX5_cutShort 27 = .ok (.iload_n 2, 1) := by decide +kernel
theorem dX5_cutShort_28 : decode cX5_cutShort 28 = .ok (.invokevirtual 103, 3) := by decide +kernel
theorem dX5_cutShort_31 : decode cX5_cutShort 31 = .ok (.aload_n 0, 1) := by decide +kernel
theorem dX5_cutShort_32 : decode cX5_cutShort 32 = .ok (.getfield 37, 3) := by decide +kernel
theorem dX5_cutShort_35 : decode cX5_cutShort 35 = .ok (.iload_n 2, 1) := by decide +kernel
theorem dX5_cutShort_36 : decode cX5_cutShort 36 = .ok (.invokevirtual 100, 3) := by decide +kernel
theorem dX5_cutShort_39 : decode cX5_cutShort 39 = .ok (.invokevirtual 142, 3) := by decide +kernel
theorem dX5_cutShort_42 : decode cX5_cutShort 42 = .ok (.pop, 1) := by decide +kernel
theorem dX5_cutShort_43 : decode cX5_cutShort 43 = .ok (.iinc 2 1, 3) := by decide +kernel
theorem dX5_cutShort_46 : decode cX5_cutShort 46 = .ok (.goto (-35), 3) := by decide +kernel
theorem dX5_cutShort_49 : decode cX5_cutShort 49 = .ok (.aload_n 0, 1) := by decide +kernel
theorem dX5_cutShort_50 : decode cX5_cutShort 50 = .ok (.getfield 37, 3) := by decide +kernel
theorem dX5_cutShort_53 : decode cX5_cutShort 53 = .ok (.invokevirtual 162, 3) := by decide +kernel
theorem dX5_cutShort_56 : decode cX5_cutShort 56 = .ok (.aload_n 0, 1) := by decide +kernel
theorem dX5_cutShort_57 : decode cX5_cutShort 57 = .ok (.dup, 1) := by decide +kernel
theorem dX5_cutShort_58 : decode cX5_cutShort 58 = .ok (.getfield 77, 3) := by decide +kernel
theorem dX5_cutShort_61 : decode cX5_cutShort 61 = .ok (.iconst 1, 1) := by decide +kernel
theorem dX5_cutShort_62 : decode cX5_cutShort 62 = .ok (.iadd, 1) := by decide +kernel
theorem dX5_cutShort_63 : decode cX5_cutShort 63 = .ok (.putfield 77, 3) := by decide +kernel
theorem dX5_cutShort_66 : decode cX5_cutShort 66 = .ok (.aload_n 0, 1) := by decide +kernel
theorem dX5_cutShort_67 : decode cX5_cutShort 67 = .ok (.getfield 80, 3) := by decide +kernel
theorem dX5_cutShort_70 : decode cX5_cutShort 70 = .ok (.iload_n 1, 1) := by decide +kernel
theorem dX5_cutShort_71 : decode cX5_cutShort 71 = .ok (.isub, 1) := by decide +kernel
theorem dX5_cutShort_72 : decode cX5_cutShort 72 = .ok (.ireturn, 1) := by decide +kernel
set_option maxRecDepth 20000 in
theorem ggX5_canBeginMerge_X5_hasMerge : GoodIn wsX5_canBeginMerge wsX5_hasMerge := goodIn_r _ [8, 9, 3, 19, 20, 21, 22, 23, 24, 25, 26, 27, 28, 29, 30, 31, 32, 33, 34, 35, 36, 37, 38] (by decide +kernel) (by decide +kernel)
set_option maxRecDepth 20000 in
theorem gX5_canBeginMerge_X5_hasMerge : GoodIn wsX5_canBeginMerge (wsV RX5 86 RX5 yX5_hasMerge wsX5_hasMerge) := goodIn_app (goodIn_of _ (by decide +kernel)) ggX5_canBeginMerge_X5_hasMerge
set_option maxRecDepth 20000 in
theorem ggX5_canBeginMerge_X5_ways : GoodIn wsX5_canBeginMerge wsX5_ways := goodIn_r _ [13, 14, 15, 16, 17, 18, 19, 20, 21, 22, 23, 24, 25, 26, 27, 28, 29, 30, 31, 32, 33, 34] (by decide +kernel) (by decide +kernel)
set_option maxRecDepth 20000 in
theorem gX5_canBeginMerge_X5_ways : GoodIn wsX5_canBeginMerge (wsV RX5 153 RX5 yX5_ways wsX5_ways) := goodIn_app (goodIn_of _ (by decide +kernel)) ggX5_canBeginMerge_X5_ways
theorem dX5_canBeginMerge_0 : decode cX5_canBeginMerge 0 = .ok (.aload_n 0, 1) := by decide +kernel
theorem dX5_canBeginMerge_1 : decode cX5_canBeginMerge 1 = .ok (.getfield 25, 3) := by decide +kernel
theorem dX5_canBeginMerge_4 : decode cX5_canBeginMerge 4 = .ok (.ifCond .ne 33, 3) := by decide +kernel
theorem dX5_canBeginMerge_7 : decode cX5_canBeginMerge 7 = .ok (.aload_n 0, 1) := by decide +kernel
theorem dX5_canBeginMerge_8 : decode cX5_canBeginMerge 8 = .ok (.invokevirtual 86, 3) := by decide +kernel
theorem dX5_canBeginMerge_11 : decode cX5_canBeginMerge 11 = .ok (.ifCond .ne 26, 3) := by decide +kernel
theorem dX5_canBeginMerge_14 : decode cX5_canBeginMerge 14 = .ok (.aload_n 0, 1) := by decide +kernel
theorem dX5_canBeginMerge_15 : decode cX5_canBeginMerge 15 = .ok (.getfield 21, 3) := by decide +kernel
theorem dX5_canBeginMerge_18 : decode cX5_canBeginMerge 18 = .ok (.getfield 83, 3) := by decide +kernel
theorem dX5_canBeginMerge_21 : decode cX5_canBeginMerge 21 = .ok (.iconst 2, 1) := by decide +kernel
theorem dX5_canBeginMerge_22 : decode cX5_canBeginMerge 22 = .ok (.if_icmp .lt 15, 3) := by decide +kernel
theorem dX5_canBeginMerge_25 : decode cX5_canBeginMerge 25 = .ok (.aload_n 0, 1) := by decide +kernel
theorem dX5_canBeginMerge_26 : decode cX5_canBeginMerge 26 = .ok (.invokevirtual 153, 3) := by decide +kernel
theorem dX5_canBeginMerge_29 : decode cX5_canBeginMerge 29 = .ok (.iconst 2, 1) := by decide +kernel
theorem dX5_canBeginMerge_30 : decode cX5_canBeginMerge 30 = .ok (.if_icmp .lt 7, 3) := by decide +kernel
theorem dX5_canBeginMerge_33 : decode cX5_canBeginMerge 33 = .ok (.iconst 1, 1) := by decide +kernel
theorem dX5_canBeginMerge_34 : decode cX5_canBeginMerge 34 = .ok (.goto 4, 3) := by decide +kernel
theorem dX5_canBeginMerge_37 : decode cX5_canBeginMerge 37 = .ok (.iconst 0, 1) := by decide +kernel
theorem dX5_canBeginMerge_38 : decode cX5_canBeginMerge 38 = .ok (.ireturn, 1) := by decide +kernel
def ck_wsX5_beginMerge : List (List Cond) := [[.code yX5_beginMerge cX5_beginMerge 4 (some .int)], wsX5_beginMerge_r1, wsX5_beginMerge_r2, wsX5_beginMerge_r3]
theorem ck_wsX5_beginMerge_m : ∀ c ∈ ck_wsX5_beginMerge, ∀ w ∈ c, w ∈ wsX5_beginMerge := List.forall_mem_cons.mpr ⟨fun w h => List.mem_cons.mpr (Or.inl (List.mem_singleton.mp h)), List.forall_mem_cons.mpr ⟨fun _ h => (List.mem_cons_of_mem _ (List.mem_append_left _ (List.mem_append_left _ (List.mem_append_left _ h)))), List.forall_mem_cons.mpr ⟨fun _ h => (List.mem_cons_of_mem _ (List.mem_append_left _ (List.mem_append_left _ (List.mem_append_right _ (List.mem_append_left _ h))))), List.forall_mem_cons.mpr ⟨fun _ h => (List.mem_cons_of_mem _ (List.mem_append_left _ (List.mem_append_left _ (List.mem_append_right _ (List.mem_append_right _ h))))), fun _ h => absurd h List.not_mem_nil⟩⟩⟩⟩
set_option maxRecDepth 100000 in
theorem ck_wsX5_beginMerge_g : ∀ w ∈ wsX5_beginMerge, goodWord w = true := List.all_eq_true.mp (by decide +kernel)
set_option maxRecDepth 100000 in
theorem ggX5_beginMerge_X5_ways : GoodIn wsX5_beginMerge wsX5_ways := goodIn_ca (goodIn_2 ck_wsX5_beginMerge [(1, 13), (1, 14), (1, 2), (1, 3), (1, 4), (1, 5)] ck_wsX5_beginMerge_m ck_wsX5_beginMerge_g rfl) (goodIn_b (fun _ h => (List.mem_cons_of_mem _ (List.mem_append_left _ (List.mem_append_right _ h)))) ck_wsX5_beginMerge_g)
set_option maxRecDepth 20000 in
theorem gX5_beginMerge_X5_ways : GoodIn wsX5_beginMerge (wsV RX5 153 RX5 yX5_ways wsX5_ways) := goodIn_app (goodIn_of _ (by decide +kernel)) ggX5_beginMerge_X5_ways
set_option maxRecDepth 100000 in
theorem ggX5_beginMerge_X4_placeOfShortest : GoodIn wsX5_beginMerge wsX4_placeOfShortest := goodIn_ca (goodIn_2 ck_wsX5_beginMerge [(1, 19), (1, 20), (1, 21), (1, 22), (1, 23), (1, 18), (2, 0), (2, 1)] ck_wsX5_beginMerge_m ck_wsX5_beginMerge_g rfl) (goodIn_b (fun _ h => (List.mem_cons_of_mem _ (List.mem_append_right _ h))) ck_wsX5_beginMerge_g)
set_option maxRecDepth 20000 in
theorem gX5_beginMerge_X4_placeOfShortest : GoodIn wsX5_beginMerge (wsV RX5 165 RX4 yX4_placeOfShortest wsX4_placeOfShortest) := goodIn_app (goodIn_of _ (by decide +kernel)) ggX5_beginMerge_X4_placeOfShortest
set_option maxRecDepth 100000 in
theorem ggX5_beginMerge_X4_numberAt : GoodIn wsX5_beginMerge wsX4_numberAt := goodIn_ca (goodIn_2 ck_wsX5_beginMerge [(2, 5), (2, 6)] ck_wsX5_beginMerge_m ck_wsX5_beginMerge_g rfl) (goodIn_b (fun _ h => (List.mem_cons_of_mem _ (List.mem_append_right _ h))) ck_wsX5_beginMerge_g)
set_option maxRecDepth 20000 in
theorem gX5_beginMerge_X4_numberAt : GoodIn wsX5_beginMerge (wsV RX5 168 RX4 yX4_numberAt wsX4_numberAt) := goodIn_app (goodIn_of _ (by decide +kernel)) ggX5_beginMerge_X4_numberAt
set_option maxRecDepth 100000 in
theorem ggX5_beginMerge_X4_firstAt : GoodIn wsX5_beginMerge wsX4_firstAt := goodIn_ca (goodIn_2 ck_wsX5_beginMerge [(2, 10), (2, 11)] ck_wsX5_beginMerge_m ck_wsX5_beginMerge_g rfl) (goodIn_b (fun _ h => (List.mem_cons_of_mem _ (List.mem_append_right _ h))) ck_wsX5_beginMerge_g)
set_option maxRecDepth 20000 in
theorem gX5_beginMerge_X4_firstAt : GoodIn wsX5_beginMerge (wsV RX5 103 RX4 yX4_firstAt wsX4_firstAt) := goodIn_app (goodIn_of _ (by decide +kernel)) ggX5_beginMerge_X4_firstAt
set_option maxRecDepth 100000 in
theorem ggX5_beginMerge_X4_lengthAt : GoodIn wsX5_beginMerge wsX4_lengthAt := goodIn_ca (goodIn_2 ck_wsX5_beginMerge [(2, 0), (2, 1)] ck_wsX5_beginMerge_m ck_wsX5_beginMerge_g rfl) (goodIn_b (fun _ h => (List.mem_cons_of_mem _ (List.mem_append_right _ h))) ck_wsX5_beginMerge_g)
set_option maxRecDepth 20000 in
theorem gX5_beginMerge_X4_lengthAt : GoodIn wsX5_beginMerge (wsV RX5 100 RX4 yX4_lengthAt wsX4_lengthAt) := goodIn_app (goodIn_of _ (by decide +kernel)) ggX5_beginMerge_X4_lengthAt
set_option maxRecDepth 100000 in
theorem ggX5_beginMerge_X4_insert : GoodIn wsX5_beginMerge wsX4_insert := goodIn_ca (goodIn_2 ck_wsX5_beginMerge [(2, 16), (1, 20), (2, 6), (2, 11), (2, 1)] ck_wsX5_beginMerge_m ck_wsX5_beginMerge_g rfl) (goodIn_b (fun _ h => (List.mem_cons_of_mem _ (List.mem_append_right _ h))) ck_wsX5_beginMerge_g)
set_option maxRecDepth 20000 in
theorem gX5_beginMerge_X4_insert : GoodIn wsX5_beginMerge (wsV RX5 149 RX4 yX4_insert wsX4_insert) := goodIn_app (goodIn_of _ (by decide +kernel)) ggX5_beginMerge_X4_insert
set_option maxRecDepth 100000 in
theorem ggX5_beginMerge_X4_remove : GoodIn wsX5_beginMerge wsX4_remove := goodIn_ca (goodIn_2 ck_wsX5_beginMerge [(2, 20), (1, 20), (2, 6), (2, 21), (2, 22), (2, 23), (3, 0), (2, 11), (2, 1)] ck_wsX5_beginMerge_m ck_wsX5_beginMerge_g rfl) (goodIn_b (fun _ h => (List.mem_cons_of_mem _ (List.mem_append_right _ h))) ck_wsX5_beginMerge_g)
set_option maxRecDepth 20000 in
theorem gX5_beginMerge_X4_remove : GoodIn wsX5_beginMerge (wsV RX5 171 RX4 yX4_remove wsX4_remove) := goodIn_app (goodIn_of _ (by decide +kernel)) ggX5_beginMerge_X4_remove
theorem dX5_beginMerge_0 : decode cX5_beginMerge 0 = .ok (.aload_n 0, 1) := by decide +kernel
theorem dX5_beginMerge_1 : decode cX5_beginMerge 1 = .ok (.invokevirtual 153, 3) := by decide +kernel
theorem dX5_beginMerge_4 : decode cX5_beginMerge 4 = .ok (.aload_n 0, 1) := by decide +kernel
theorem dX5_beginMerge_5 : decode cX5_beginMerge 5 = .ok (.getfield 21, 3) := by decide +kernel
theorem dX5_beginMerge_8 : decode cX5_beginMerge 8 = .ok (.getfield 83, 3) := by decide +kernel
theorem dX5_beginMerge_11 : decode cX5_beginMerge 11 = .ok (.invokestatic 90, 3) := by decide +kernel
theorem dX5_beginMerge_14 : decode cX5_beginMerge 14 = .ok (.istore_n 1, 1) := by decide +kernel
theorem dX5_beginMerge_15 : decode cX5_beginMerge 15 = .ok (.iconst 0, 1) := by decide +kernel
theorem dX5_beginMerge_16 : decode cX5_beginMerge 16 = .ok (.istore_n 2, 1) := by decide +kernel
theorem dX5_beginMerge_17 : decode cX5_beginMerge 17 = .ok (.iload_n 2, 1) := by decide +kernel
theorem dX5_beginMerge_18 : decode cX5_beginMerge 18 = .ok (.iload_n 1, 1) := by decide +kernel
theorem dX5_beginMerge_19 : decode cX5_beginMerge 19 = .ok (.if_icmp .ge 56, 3) := by decide +kernel
theorem dX5_beginMerge_22 : decode cX5_beginMerge 22 = .ok (.aload_n 0, 1) := by decide +kernel
theorem dX5_beginMerge_23 : decode cX5_beginMerge 23 = .ok (.getfield 21, 3) := by decide +kernel
theorem dX5_beginMerge_26 : decode cX5_beginMerge 26 = .ok (.invokevirtual 165, 3) := by decide +kernel
theorem dX5_beginMerge_29 : decode cX5_beginMerge 29 = .ok (.istore_n 3, 1) := by decide +kernel
theorem dX5_beginMerge_30 : decode cX5_beginMerge 30 = .ok (.aload_n 0, 1) := by decide +kernel
theorem dX5_beginMerge_31 : decode cX5_beginMerge 31 = .ok (.getfield 37, 3) := by decide +kernel
theorem dX5_beginMerge_34 : decode cX5_beginMerge 34 = .ok (.aload_n 0, 1) := by decide +kernel
theorem dX5_beginMerge_35 : decode cX5_beginMerge 35 = .ok (.getfield 21, 3) := by decide +kernel
theorem dX5_beginMerge_38 : decode cX5_beginMerge 38 = .ok (.iload_n 3, 1) := by decide +kernel
theorem dX5_beginMerge_39 : decode cX5_beginMerge 39 = .ok (.invokevirtual 168, 3) := by decide +kernel
theorem dX5_beginMerge_42 : decode cX5_beginMerge 42 = .ok (.aload_n 0, 1) := by decide +kernel
theorem dX5_beginMerge_43 : decode cX5_beginMerge 43 = .ok (.getfield 21, 3) := by decide +kernel
theorem dX5_beginMerge_46 : decode cX5_beginMerge 46 = .ok (.iload_n 3, 1) := by decide +kernel
theorem dX5_beginMerge_47 : decode cX5_beginMerge 47 = .ok (.invokevirtual 103, 3) := by decide +kernel
theorem dX5_beginMerge_50 : decode cX5_beginMerge 50 = .ok (.aload_n 0, 1) := by decide +kernel
theorem dX5_beginMerge_51 : decode cX5_beginMerge 51 = .ok (.getfield 21, 3) := by decide +kernel
theorem dX5_beginMerge_54 : decode cX5_beginMerge 54 = .ok (.iload_n 3, 1) := by decide +kernel
theorem dX5_beginMerge_55 : decode cX5_beginMerge 55 = .ok (.invokevirtual 100, 3) := by decide +kernel
theorem dX5_beginMerge_58 : decode cX5_beginMerge 58 = .ok (.invokevirtual 149, 3) := by decide +kernel
theorem dX5_beginMerge_61 : decode cX5_beginMerge 61 = .ok (.aload_n 0, 1) := by decide +kernel
theorem dX5_beginMerge_62 : decode cX5_beginMerge 62 = .ok (.getfield 21, 3) := by decide +kernel
theorem dX5_beginMerge_65 : decode cX5_beginMerge 65 = .ok (.iload_n 3, 1) := by decide +kernel
theorem dX5_beginMerge_66 : decode cX5_beginMerge 66 = .ok (.invokevirtual 171, 3) := by decide +kernel
theorem dX5_beginMerge_69 : decode cX5_beginMerge 69 = .ok (.iinc 2 1, 3) := by decide +kernel
theorem dX5_beginMerge_72 : decode cX5_beginMerge 72 = .ok (.goto (-55), 3) := by decide +kernel
theorem dX5_beginMerge_75 : decode cX5_beginMerge 75 = .ok (.aload_n 0, 1) := by decide +kernel
theorem dX5_beginMerge_76 : decode cX5_beginMerge 76 = .ok (.aload_n 0, 1) := by decide +kernel
theorem dX5_beginMerge_77 : decode cX5_beginMerge 77 = .ok (.getfield 37, 3) := by decide +kernel
theorem dX5_beginMerge_80 : decode cX5_beginMerge 80 = .ok (.getfield 83, 3) := by decide +kernel
theorem dX5_beginMerge_83 : decode cX5_beginMerge 83 = .ok (.putfield 59, 3) := by decide +kernel
theorem dX5_beginMerge_86 : decode cX5_beginMerge 86 = .ok (.aload_n 0, 1) := by decide +kernel
theorem dX5_beginMerge_87 : decode cX5_beginMerge 87 = .ok (.dup, 1) := by decide +kernel
theorem dX5_beginMerge_88 : decode cX5_beginMerge 88 = .ok (.getfield 74, 3) := by decide +kernel
theorem dX5_beginMerge_91 : decode cX5_beginMerge 91 = .ok (.iconst 1, 1) := by decide +kernel
theorem dX5_beginMerge_92 : decode cX5_beginMerge 92 = .ok (.iadd, 1) := by decide +kernel
theorem dX5_beginMerge_93 : decode cX5_beginMerge 93 = .ok (.putfield 74, 3) := by decide +kernel
theorem dX5_beginMerge_96 : decode cX5_beginMerge 96 = .ok (.aload_n 0, 1) := by decide +kernel
theorem dX5_beginMerge_97 : decode cX5_beginMerge 97 = .ok (.getfield 59, 3) := by decide +kernel
theorem dX5_beginMerge_100 : decode cX5_beginMerge 100 = .ok (.ireturn, 1) := by decide +kernel
def ck_wsX5_makeSteps : List (List Cond) := [[.code yX5_makeSteps cX5_makeSteps 3 (some .int)], wsX5_makeSteps_r1, wsX5_makeSteps_r2, wsX5_makeSteps_r3, wsX5_makeSteps_r4]
theorem ck_wsX5_makeSteps_m : ∀ c ∈ ck_wsX5_makeSteps, ∀ w ∈ c, w ∈ wsX5_makeSteps := List.forall_mem_cons.mpr ⟨fun w h => List.mem_cons.mpr (Or.inl (List.mem_singleton.mp h)), List.forall_mem_cons.mpr ⟨fun _ h => (List.mem_cons_of_mem _ (List.mem_append_left _ (List.mem_append_left _ (List.mem_append_left _ (List.mem_append_left _ h))))), List.forall_mem_cons.mpr ⟨fun _ h => (List.mem_cons_of_mem _ (List.mem_append_left _ (List.mem_append_left _ (List.mem_append_left _ (List.mem_append_right _ (List.mem_append_left _ h)))))), List.forall_mem_cons.mpr ⟨fun _ h => (List.mem_cons_of_mem _ (List.mem_append_left _ (List.mem_append_left _ (List.mem_append_left _ (List.mem_append_right _ (List.mem_append_right _ (List.mem_append_left _ h))))))), List.forall_mem_cons.mpr ⟨fun _ h => (List.mem_cons_of_mem _ (List.mem_append_left _ (List.mem_append_left _ (List.mem_append_left _ (List.mem_append_right _ (List.mem_append_right _ (List.mem_append_right _ h))))))), fun _ h => absurd h List.not_mem_nil⟩⟩⟩⟩⟩
set_option maxRecDepth 100000 in
theorem ck_wsX5_makeSteps_g : ∀ w ∈ wsX5_makeSteps, goodWord w = true := List.all_eq_true.mp (by decide +kernel)
set_option maxRecDepth 100000 in
theorem ggX5_makeSteps_X5_hasMerge : GoodIn wsX5_makeSteps wsX5_hasMerge := goodIn_ca (goodIn_ca (goodIn_2 ck_wsX5_makeSteps [(1, 4), (1, 5), (1, 6)] ck_wsX5_makeSteps_m ck_wsX5_makeSteps_g rfl) (goodIn_b (fun _ h => (List.mem_cons_of_mem _ (List.mem_append_left _ (List.mem_append_left _ (List.mem_append_right _ h))))) ck_wsX5_makeSteps_g)) (goodIn_b (fun _ h => (List.mem_cons_of_mem _ (List.mem_append_left _ (List.mem_append_right _ h)))) ck_wsX5_makeSteps_g)
set_option maxRecDepth 20000 in
theorem gX5_makeSteps_X5_hasMerge : GoodIn wsX5_makeSteps (wsV RX5 86 RX5 yX5_hasMerge wsX5_hasMerge) := goodIn_app (goodIn_of _ (by decide +kernel)) ggX5_makeSteps_X5_hasMerge
set_option maxRecDepth 100000 in
theorem ggX5_makeSteps_X5_moveFirstRow : GoodIn wsX5_makeSteps wsX5_moveFirstRow := goodIn_ca (goodIn_ca (goodIn_ca (goodIn_2 ck_wsX5_makeSteps [(1, 10), (1, 5), (1, 11), (1, 12), (1, 13), (1, 14), (1, 15), (1, 16), (1, 17), (1, 18), (1, 19), (1, 3), (1, 20), (1, 6), (1, 21), (1, 22), (1, 23), (2, 0), (2, 1), (2, 2), (2, 3), (2, 4), (2, 5), (2, 6), (2, 7), (2, 8), (2, 9), (2, 10), (2, 11), (2, 12), (2, 13), (2, 14), (2, 15), (2, 16), (2, 17), (2, 18), (2, 19), (2, 20), (2, 21), (2, 22), (2, 23), (3, 0), (3, 1), (3, 2), (3, 3), (3, 4), (3, 5), (3, 6), (3, 7), (3, 8), (3, 9), (3, 10), (3, 11), (3, 12), (3, 13), (3, 14), (3, 15), (3, 16), (3, 17), (3, 18), (3, 19), (3, 20), (3, 21)] ck_wsX5_makeSteps_m ck_wsX5_makeSteps_g rfl) (goodIn_b (fun _ h => (List.mem_cons_of_mem _ (List.mem_append_left _ (List.mem_append_left _ (List.mem_append_right _ h))))) ck_wsX5_makeSteps_g)) (goodIn_b (fun _ h => (List.mem_cons_of_mem _ (List.mem_append_left _ (List.mem_append_right _ h)))) ck_wsX5_makeSteps_g)) (goodIn_b (fun _ h => (List.mem_cons_of_mem _ (List.mem_append_right _ h))) ck_wsX5_makeSteps_g)
set_option maxRecDepth 20000 in
theorem gX5_makeSteps_X5_moveFirstRow : GoodIn wsX5_makeSteps (wsV RX5 175 RX5 yX5_moveFirstRow wsX5_moveFirstRow) := goodIn_app (goodIn_of _ (by decide +kernel)) ggX5_makeSteps_X5_moveFirstRow
set_option maxRecDepth 100000 in
theorem ggX5_makeSteps_X5_closeOutput : GoodIn wsX5_makeSteps wsX5_closeOutput := goodIn_ca (goodIn_ca (goodIn_2 ck_wsX5_makeSteps [(4, 1), (1, 14), (1, 16), (4, 2), (4, 3), (4, 4), (1, 3), (4, 5), (4, 6), (4, 7), (4, 8), (4, 9), (4, 10), (2, 0), (4, 11), (3, 3), (3, 4), (2, 2), (2, 13)] ck_wsX5_makeSteps_m ck_wsX5_makeSteps_g rfl) (goodIn_b (fun _ h => (List.mem_cons_of_mem _ (List.mem_append_left _ (List.mem_append_left _ (List.mem_append_right _ h))))) ck_wsX5_makeSteps_g)) (goodIn_b (fun _ h => (List.mem_cons_of_mem _ (List.mem_append_left _ (List.mem_append_right _ h)))) ck_wsX5_makeSteps_g)
set_option maxRecDepth 20000 in
theorem gX5_makeSteps_X5_closeOutput : GoodIn wsX5_makeSteps (wsV RX5 159 RX5 yX5_closeOutput wsX5_closeOutput) := goodIn_app (goodIn_of _ (by decide +kernel)) ggX5_makeSteps_X5_closeOutput
theorem dX5_makeSteps_0 : decode cX5_makeSteps 0 = .ok (.aload_n 0, 1) := by decide +kernel
theorem dX5_makeSteps_1 : decode cX5_makeSteps 1 = .ok (.invokevirtual 86, 3) := by decide +kernel
theorem dX5_makeSteps_4 : decode cX5_makeSteps 4 = .ok (.ifCond .ne 5, 3) := by decide +kernel
theorem dX5_makeSteps_7 : decode cX5_makeSteps 7 = .ok (.iconst 0, 1) := by decide +kernel
theorem dX5_makeSteps_8 : decode cX5_makeSteps 8 = .ok (.ireturn, 1) := by decide +kernel
theorem dX5_makeSteps_9 : decode cX5_makeSteps 9 = .ok (.iconst 0, 1) := by decide +kernel
theorem dX5_makeSteps_10 : decode cX5_makeSteps 10 = .ok (.istore_n 2, 1) := by decide +kernel
theorem dX5_makeSteps_11 : decode cX5_makeSteps 11 = .ok (.iload_n 2, 1) := by decide +kernel
theorem dX5_makeSteps_12 : decode cX5_makeSteps 12 = .ok (.iload_n 1, 1) := by decide +kernel
theorem dX5_makeSteps_13 : decode cX5_makeSteps 13 = .ok (.if_icmp .ge 20, 3) := by decide +kernel
theorem dX5_makeSteps_16 : decode cX5_makeSteps 16 = .ok (.aload_n 0, 1) := by decide +kernel
theorem dX5_makeSteps_17 : decode cX5_makeSteps 17 = .ok (.invokevirtual 86, 3) := by decide +kernel
theorem dX5_makeSteps_20 : decode cX5_makeSteps 20 = .ok (.ifCond .eq 13, 3) := by decide +kernel
theorem dX5_makeSteps_23 : decode cX5_makeSteps 23 = .ok (.aload_n 0, 1) := by decide +kernel
theorem dX5_makeSteps_24 : decode cX5_makeSteps 24 = .ok (.invokevirtual 175, 3) := by decide +kernel
theorem dX5_makeSteps_27 : decode cX5_makeSteps 27 = .ok (.iinc 2 1, 3) := by decide +kernel
theorem dX5_makeSteps_30 : decode cX5_makeSteps 30 = .ok (.goto (-19), 3) := by decide +kernel
theorem dX5_makeSteps_33 : decode cX5_makeSteps 33 = .ok (.aload_n 0, 1) := by decide +kernel
theorem dX5_makeSteps_34 : decode cX5_makeSteps 34 = .ok (.invokevirtual 86, 3) := by decide +kernel
theorem dX5_makeSteps_37 : decode cX5_makeSteps 37 = .ok (.ifCond .ne 7, 3) := by decide +kernel
theorem dX5_makeSteps_40 : decode cX5_makeSteps 40 = .ok (.aload_n 0, 1) := by decide +kernel
theorem dX5_makeSteps_41 : decode cX5_makeSteps 41 = .ok (.invokevirtual 159, 3) := by decide +kernel
theorem dX5_makeSteps_44 : decode cX5_makeSteps 44 = .ok (.iload_n 2, 1) := by decide +kernel
theorem dX5_makeSteps_45 : decode cX5_makeSteps 45 = .ok (.ireturn, 1) := by decide +kernel
def ck_wsX5_moveFirstRow : List (List Cond) := [[.code yX5_moveFirstRow cX5_moveFirstRow 3 none], wsX5_moveFirstRow_r1, wsX5_moveFirstRow_r2, wsX5_moveFirstRow_r3]
theorem ck_wsX5_moveFirstRow_m : ∀ c ∈ ck_wsX5_moveFirstRow, ∀ w ∈ c, w ∈ wsX5_moveFirstRow := List.forall_mem_cons.mpr ⟨fun w h => List.mem_cons.mpr (Or.inl (List.mem_singleton.mp h)), List.forall_mem_cons.mpr ⟨fun _ h => (List.mem_cons_of_mem _ (List.mem_append_left _ (List.mem_append_left _ (List.mem_append_left _ (List.mem_append_left _ h))))), List.forall_mem_cons.mpr ⟨fun _ h => (List.mem_cons_of_mem _ (List.mem_append_left _ (List.mem_append_left _ (List.mem_append_left _ (List.mem_append_right _ (List.mem_append_left _ h)))))), List.forall_mem_cons.mpr ⟨fun _ h => (List.mem_cons_of_mem _ (List.mem_append_left _ (List.mem_append_left _ (List.mem_append_left _ (List.mem_append_right _ (List.mem_append_right _ h)))))), fun _ h => absurd h List.not_mem_nil⟩⟩⟩⟩
set_option maxRecDepth 100000 in
theorem ck_wsX5_moveFirstRow_g : ∀ w ∈ wsX5_moveFirstRow, goodWord w = true := List.all_eq_true.mp (by decide +kernel)
set_option maxRecDepth 100000 in
theorem ggX5_moveFirstRow_X5_inputWithFirstRow : GoodIn wsX5_moveFirstRow wsX5_inputWithFirstRow := goodIn_ca (goodIn_ca (goodIn_ca (goodIn_2 ck_wsX5_moveFirstRow [(1, 11), (1, 0), (1, 12), (1, 1), (1, 13), (1, 14), (1, 15), (1, 16), (1, 17), (1, 18), (1, 19), (1, 20), (1, 21), (1, 22), (1, 23), (2, 0)] ck_wsX5_moveFirstRow_m ck_wsX5_moveFirstRow_g rfl) (goodIn_b (fun _ h => (List.mem_cons_of_mem _ (List.mem_append_left _ (List.mem_append_left _ (List.mem_append_right _ h))))) ck_wsX5_moveFirstRow_g)) (goodIn_b (fun _ h => (List.mem_cons_of_mem _ (List.mem_append_left _ (List.mem_append_right _ h)))) ck_wsX5_moveFirstRow_g)) (goodIn_b (fun _ h => (List.mem_cons_of_mem _ (List.mem_append_right _ h))) ck_wsX5_moveFirstRow_g)
set_option maxRecDepth 20000 in
theorem gX5_moveFirstRow_X5_inputWithFirstRow : GoodIn wsX5_moveFirstRow (wsV RX5 178 RX5 yX5_inputWithFirstRow wsX5_inputWithFirstRow) := goodIn_app (goodIn_of _ (by decide +kernel)) ggX5_moveFirstRow_X5_inputWithFirstRow
set_option maxRecDepth 100000 in
theorem ggX5_moveFirstRow_X4_firstAt : GoodIn wsX5_moveFirstRow wsX4_firstAt := goodIn_ca (goodIn_2 ck_wsX5_moveFirstRow [(1, 17), (1, 18)] ck_wsX5_moveFirstRow_m ck_wsX5_moveFirstRow_g rfl) (goodIn_b (fun _ h => (List.mem_cons_of_mem _ (List.mem_append_left _ (List.mem_append_right _ h)))) ck_wsX5_moveFirstRow_g)
set_option maxRecDepth 20000 in
theorem gX5_moveFirstRow_X4_firstAt : GoodIn wsX5_moveFirstRow (wsV RX5 103 RX4 yX4_firstAt wsX4_firstAt) := goodIn_app (goodIn_of _ (by decide +kernel)) ggX5_moveFirstRow_X4_firstAt
set_option maxRecDepth 100000 in
theorem ggX5_moveFirstRow_X4_lengthAt : GoodIn wsX5_moveFirstRow wsX4_lengthAt := goodIn_ca (goodIn_2 ck_wsX5_moveFirstRow [(2, 4), (2, 5)] ck_wsX5_moveFirstRow_m ck_wsX5_moveFirstRow_g rfl) (goodIn_b (fun _ h => (List.mem_cons_of_mem _ (List.mem_append_left _ (List.mem_append_right _ h)))) ck_wsX5_moveFirstRow_g)
set_option maxRecDepth 20000 in
theorem gX5_moveFirstRow_X4_lengthAt : GoodIn wsX5_moveFirstRow (wsV RX5 100 RX4 yX4_lengthAt wsX4_lengthAt) := goodIn_app (goodIn_of _ (by decide +kernel)) ggX5_moveFirstRow_X4_lengthAt
set_option maxRecDepth 100000 in
theorem ggX5_moveFirstRow_X3_nextOf : GoodIn wsX5_moveFirstRow wsX3_nextOf := goodIn_ca (goodIn_2 ck_wsX5_moveFirstRow [(2, 9), (2, 10)] ck_wsX5_moveFirstRow_m ck_wsX5_moveFirstRow_g rfl) (goodIn_b (fun _ h => (List.mem_cons_of_mem _ (List.mem_append_right _ h))) ck_wsX5_moveFirstRow_g)
set_option maxRecDepth 20000 in
theorem gX5_moveFirstRow_X3_nextOf : GoodIn wsX5_moveFirstRow (wsV RX5 181 RX3 yX3_nextOf wsX3_nextOf) := goodIn_app (goodIn_of _ (by decide +kernel)) ggX5_moveFirstRow_X3_nextOf
set_option maxRecDepth 100000 in
theorem ggX5_moveFirstRow_X4_passFirst : GoodIn wsX5_moveFirstRow wsX4_passFirst := goodIn_ca (goodIn_2 ck_wsX5_moveFirstRow [(2, 14), (1, 18), (2, 5)] ck_wsX5_moveFirstRow_m ck_wsX5_moveFirstRow_g rfl) (goodIn_b (fun _ h => (List.mem_cons_of_mem _ (List.mem_append_left _ (List.mem_append_right _ h)))) ck_wsX5_moveFirstRow_g)
set_option maxRecDepth 20000 in
theorem gX5_moveFirstRow_X4_passFirst : GoodIn wsX5_moveFirstRow (wsV RX5 184 RX4 yX4_passFirst wsX4_passFirst) := goodIn_app (goodIn_of _ (by decide +kernel)) ggX5_moveFirstRow_X4_passFirst
set_option maxRecDepth 100000 in
theorem ggX5_moveFirstRow_X4_remove : GoodIn wsX5_moveFirstRow wsX4_remove := goodIn_ca (goodIn_2 ck_wsX5_moveFirstRow [(2, 18), (2, 19), (2, 20), (2, 21), (2, 22), (2, 23), (3, 0), (1, 18), (2, 5)] ck_wsX5_moveFirstRow_m ck_wsX5_moveFirstRow_g rfl) (goodIn_b (fun _ h => (List.mem_cons_of_mem _ (List.mem_append_left _ (List.mem_append_right _ h)))) ck_wsX5_moveFirstRow_g)
set_option maxRecDepth 20000 in
theorem gX5_moveFirstRow_X4_remove : GoodIn wsX5_moveFirstRow (wsV RX5 171 RX4 yX4_remove wsX4_remove) := goodIn_app (goodIn_of _ (by decide +kernel)) ggX5_moveFirstRow_X4_remove
set_option maxRecDepth 100000 in
theorem ggX5_moveFirstRow_X3_keyOf : GoodIn wsX5_moveFirstRow wsX3_keyOf := goodIn_ca (goodIn_2 ck_wsX5_moveFirstRow [(3, 4), (2, 0)] ck_wsX5_moveFirstRow_m ck_wsX5_moveFirstRow_g rfl) (goodIn_b (fun _ h => (List.mem_cons_of_mem _ (List.mem_append_right _ h))) ck_wsX5_moveFirstRow_g)
set_option maxRecDepth 20000 in
theorem gX5_moveFirstRow_X3_keyOf : GoodIn wsX5_moveFirstRow (wsV RX5 133 RX3 yX3_keyOf wsX3_keyOf) := goodIn_app (goodIn_of _ (by decide +kernel)) ggX5_moveFirstRow_X3_keyOf
set_option maxRecDepth 100000 in
theorem ggX5_moveFirstRow_X3_absorb : GoodIn wsX5_moveFirstRow wsX3_absorb := goodIn_ca (goodIn_2 ck_wsX5_moveFirstRow [(3, 8), (3, 9)] ck_wsX5_moveFirstRow_m ck_wsX5_moveFirstRow_g rfl) (goodIn_b (fun _ h => (List.mem_cons_of_mem _ (List.mem_append_right _ h))) ck_wsX5_moveFirstRow_g)
set_option maxRecDepth 20000 in
theorem gX5_moveFirstRow_X3_absorb : GoodIn wsX5_moveFirstRow (wsV RX5 119 RX3 yX3_absorb wsX3_absorb) := goodIn_app (goodIn_of _ (by decide +kernel)) ggX5_moveFirstRow_X3_absorb
set_option maxRecDepth 100000 in
theorem ggX5_moveFirstRow_X3_link : GoodIn wsX5_moveFirstRow wsX3_link := goodIn_ca (goodIn_2 ck_wsX5_moveFirstRow [(3, 13), (2, 10)] ck_wsX5_moveFirstRow_m ck_wsX5_moveFirstRow_g rfl) (goodIn_b (fun _ h => (List.mem_cons_of_mem _ (List.mem_append_right _ h))) ck_wsX5_moveFirstRow_g)
set_option maxRecDepth 20000 in
theorem gX5_moveFirstRow_X3_link : GoodIn wsX5_moveFirstRow (wsV RX5 139 RX3 yX3_link wsX3_link) := goodIn_app (goodIn_of _ (by decide +kernel)) ggX5_moveFirstRow_X3_link
theorem dX5_moveFirstRow_0 : decode cX5_moveFirstRow 0 = .ok (.aload_n 0, 1) := by decide +kernel
theorem dX5_moveFirstRow_1 : decode cX5_moveFirstRow 1 = .ok (.invokevirtual 178, 3) := by decide +kernel
theorem dX5_moveFirstRow_4 : decode cX5_moveFirstRow 4 = .ok (.istore_n 1, 1) := by decide +kernel
theorem dX5_moveFirstRow_5 : decode cX5_moveFirstRow 5 = .ok (.aload_n 0, 1) := by decide +kernel
theorem dX5_moveFirstRow_6 : decode cX5_moveFirstRow 6 = .ok (.getfield 37, 3) := by decide +kernel
theorem dX5_moveFirstRow_9 : decode cX5_moveFirstRow 9 = .ok (.iload_n 1, 1) := by decide +kernel
theorem dX5_moveFirstRow_10 : decode cX5_moveFirstRow 10 = .ok (.invokevirtual 103, 3) := by decide +kernel
theorem dX5_moveFirstRow_13 : decode cX5_moveFirstRow 13 = .ok (.istore_n 2, 1) := by decide +kernel
theorem dX5_moveFirstRow_14 : decode cX5_moveFirstRow 14 = .ok (.aload_n 0, 1) := by decide +kernel
theorem dX5_moveFirstRow_15 : decode cX5_moveFirstRow 15 = .ok (.getfield 37, 3) := by decide +kernel
theorem dX5_moveFirstRow_18 : decode cX5_moveFirstRow 18 = .ok (.iload_n 1, 1) := by decide +kernel
theorem dX5_moveFirstRow_19 : decode cX5_moveFirstRow 19 = .ok (.invokevirtual 100, 3) := by decide +kernel
theorem dX5_moveFirstRow_22 : decode cX5_moveFirstRow 22 = .ok (.iconst 1, 1) := by decide +kernel
theorem dX5_moveFirstRow_23 : decode cX5_moveFirstRow 23 = .ok (.if_icmp .le 22, 3) := by decide +kernel
theorem dX5_moveFirstRow_26 : decode cX5_moveFirstRow 26 = .ok (.aload_n 0, 1) := by decide +kernel
theorem dX5_moveFirstRow_27 : decode cX5_moveFirstRow 27 = .ok (.getfield 37, 3) := by decide +kernel
theorem dX5_moveFirstRow_30 : decode cX5_moveFirstRow 30 = .ok (.iload_n 1, 1) := by decide +kernel
theorem dX5_moveFirstRow_31 : decode cX5_moveFirstRow 31 = .ok (.aload_n 0, 1) := by decide +kernel
theorem dX5_moveFirstRow_32 : decode cX5_moveFirstRow 32 = .ok (.getfield 12, 3) := by decide +kernel
theorem dX5_moveFirstRow_35 : decode cX5_moveFirstRow 35 = .ok (.iload_n 2, 1) := by decide +kernel
theorem dX5_moveFirstRow_36 : decode cX5_moveFirstRow 36 = .ok (.invokevirtual 181, 3) := by decide +kernel
theorem dX5_moveFirstRow_39 : decode cX5_moveFirstRow 39 = .ok (.invokevirtual 184, 3) := by decide +kernel
theorem dX5_moveFirstRow_42 : decode cX5_moveFirstRow 42 = .ok (.goto 11, 3) := by decide +kernel
theorem dX5_moveFirstRow_45 : decode cX5_moveFirstRow 45 = .ok (.aload_n 0, 1) := by decide +kernel
theorem dX5_moveFirstRow_46 : decode cX5_moveFirstRow 46 = .ok (.getfield 37, 3) := by decide +kernel
theorem dX5_moveFirstRow_49 : decode cX5_moveFirstRow 49 = .ok (.iload_n 1, 1) := by decide +kernel
theorem dX5_moveFirstRow_50 : decode cX5_moveFirstRow 50 = .ok (.invokevirtual 171, 3) := by decide +kernel
theorem dX5_moveFirstRow_53 : decode cX5_moveFirstRow 53 = .ok (.aload_n 0, 1) := by decide +kernel
theorem dX5_moveFirstRow_54 : decode cX5_moveFirstRow 54 = .ok (.dup, 1) := by decide +kernel
theorem dX5_moveFirstRow_55 : decode cX5_moveFirstRow 55 = .ok (.getfield 71, 3) := by decide +kernel
theorem dX5_moveFirstRow_58 : decode cX5_moveFirstRow 58 = .ok (.iconst 1, 1) := by decide +kernel
theorem dX5_moveFirstRow_59 : decode cX5_moveFirstRow 59 = .ok (.iadd, 1) := by decide +kernel
theorem dX5_moveFirstRow_60 : decode cX5_moveFirstRow 60 = .ok (.putfield 71, 3) := by decide +kernel
theorem dX5_moveFirstRow_63 : decode cX5_moveFirstRow 63 = .ok (.aload_n 0, 1) := by decide +kernel
theorem dX5_moveFirstRow_64 : decode cX5_moveFirstRow 64 = .ok (.getfield 47, 3) := by decide +kernel
theorem dX5_moveFirstRow_67 : decode cX5_moveFirstRow 67 = .ok (.ifCond .eq 45, 3) := by decide +kernel
theorem dX5_moveFirstRow_70 : decode cX5_moveFirstRow 70 = .ok (.aload_n 0, 1) := by decide +kernel
theorem dX5_moveFirstRow_71 : decode cX5_moveFirstRow 71 = .ok (.getfield 68, 3) := by decide +kernel
theorem dX5_moveFirstRow_74 : decode cX5_moveFirstRow 74 = .ok (.ifCond .le 38, 3) := by decide +kernel
theorem dX5_moveFirstRow_77 : decode cX5_moveFirstRow 77 = .ok (.aload_n 0, 1) := by decide +kernel
theorem dX5_moveFirstRow_78 : decode cX5_moveFirstRow 78 = .ok (.getfield 12, 3) := by decide +kernel
theorem dX5_moveFirstRow_81 : decode cX5_moveFirstRow 81 = .ok (.aload_n 0, 1) := by decide +kernel
theorem dX5_moveFirstRow_82 : decode cX5_moveFirstRow 82 = .ok (.getfield 65, 3) := by decide +kernel
theorem dX5_moveFirstRow_85 : decode cX5_moveFirstRow 85 = .ok (.invokevirtual 133, 3) := by decide +kernel
theorem dX5_moveFirstRow_88 : decode cX5_moveFirstRow 88 = .ok (.aload_n 0, 1) := by decide +kernel
theorem dX5_moveFirstRow_89 : decode cX5_moveFirstRow 89 = .ok (.getfield 12, 3) := by decide +kernel
theorem dX5_moveFirstRow_92 : decode cX5_moveFirstRow 92 = .ok (.iload_n 2, 1) := by decide +kernel
theorem dX5_moveFirstRow_93 : decode cX5_moveFirstRow 93 = .ok (.invokevirtual 133, 3) := by decide +kernel
theorem dX5_moveFirstRow_96 : decode cX5_moveFirstRow 96 = .ok (.if_icmp .ne 16, 3) := by decide +kernel
theorem dX5_moveFirstRow_99 : decode cX5_moveFirstRow 99 = .ok (.aload_n 0, 1) := by decide +kernel
theorem dX5_moveFirstRow_100 : decode cX5_moveFirstRow 100 = .ok (.getfield 12, 3) := by decide +kernel
theorem dX5_moveFirstRow_103 : decode cX5_moveFirstRow 103 = .ok (.aload_n 0, 1) := by decide +kernel
theorem dX5_moveFirstRow_104 : decode cX5_moveFirstRow 104 = .ok (.getfield 65, 3) := by decide +kernel
theorem dX5_moveFirstRow_107 : decode cX5_moveFirstRow 107 = .ok (.iload_n 2, 1) := by decide +kernel
theorem dX5_moveFirstRow_108 : decode cX5_moveFirstRow 108 = .ok (.invokevirtual 119, 3) := by decide +kernel
theorem dX5_moveFirstRow_111 : decode cX5_moveFirstRow 111 = .ok (.return_, 1) := by decide +kernel
theorem dX5_moveFirstRow_112 : decode cX5_moveFirstRow 112 = .ok (.aload_n 0, 1) := by decide +kernel
theorem dX5_moveFirstRow_113 : decode cX5_moveFirstRow 113 = .ok (.getfield 68, 3) := by decide +kernel
theorem dX5_moveFirstRow_116 : decode cX5_moveFirstRow 116 = .ok (.ifCond .ne 11, 3) := by decide +kernel
theorem dX5_moveFirstRow_119 : decode cX5_moveFirstRow 119 = .ok (.aload_n 0, 1) := by decide +kernel
theorem dX5_moveFirstRow_120 : decode cX5_moveFirstRow 120 = .ok (.iload_n 2, 1) := by decide +kernel
theorem dX5_moveFirstRow_121 : decode cX5_moveFirstRow 121 = .ok (.putfield 62, 3) := by decide +kernel
theorem dX5_moveFirstRow_124 : decode cX5_moveFirstRow 124 = .ok (.goto 15, 3) := by decide +kernel
theorem dX5_moveFirstRow_127 : decode cX5_moveFirstRow 127 = .ok (.aload_n 0, 1) := by decide +kernel
theorem dX5_moveFirstRow_128 : decode cX5_moveFirstRow 128 = .ok (.getfield 12, 3) := by decide +kernel
theorem dX5_moveFirstRow_131 : decode cX5_moveFirstRow 131 = .ok (.aload_n 0, 1) := by decide +kernel
theorem dX5_moveFirstRow_132 : decode cX5_moveFirstRow 132 = .ok (.getfield 65, 3) := by decide +kernel
theorem dX5_moveFirstRow_135 : decode cX5_moveFirstRow 135 = .ok (.iload_n 2, 1) := by decide +kernel
theorem dX5_moveFirstRow_136 : decode cX5_moveFirstRow 136 = .ok (.invokevirtual 139, 3) := by decide +kernel
theorem dX5_moveFirstRow_139 : decode cX5_moveFirstRow 139 = .ok (.aload_n 0, 1) := by decide +kernel
theorem dX5_moveFirstRow_140 : decode cX5_moveFirstRow 140 = .ok (.iload_n 2, 1) := by decide +kernel
theorem dX5_moveFirstRow_141 : decode cX5_moveFirstRow 141 = .ok (.putfield 65, 3) := by decide +kernel
theorem dX5_moveFirstRow_144 : decode cX5_moveFirstRow 144 = .ok (.aload_n 0, 1) := by decide +kernel
theorem dX5_moveFirstRow_145 : decode cX5_moveFirstRow 145 = .ok (.dup, 1) := by decide +kernel
theorem dX5_moveFirstRow_146 : decode cX5_moveFirstRow 146 = .ok (.getfield 68, 3) := by decide +kernel
theorem dX5_moveFirstRow_149 : decode cX5_moveFirstRow 149 = .ok (.iconst 1, 1) := by decide +kernel
theorem dX5_moveFirstRow_150 : decode cX5_moveFirstRow 150 = .ok (.iadd, 1) := by decide +kernel
theorem dX5_moveFirstRow_151 : decode cX5_moveFirstRow 151 = .ok (.putfield 68, 3) := by decide +kernel
theorem dX5_moveFirstRow_154 : decode cX5_moveFirstRow 154 = .ok (.aload_n 0, 1) := by decide +kernel
theorem dX5_moveFirstRow_155 : decode cX5_moveFirstRow 155 = .ok (.dup, 1) := by decide +kernel
theorem dX5_moveFirstRow_156 : decode cX5_moveFirstRow 156 = .ok (.getfield 71, 3) := by decide +kernel
theorem dX5_moveFirstRow_159 : decode cX5_moveFirstRow 159 = .ok (.iconst 1, 1) := by decide +kernel
theorem dX5_moveFirstRow_160 : decode cX5_moveFirstRow 160 = .ok (.iadd, 1) := by decide +kernel
theorem dX5_moveFirstRow_161 : decode cX5_moveFirstRow 161 = .ok (.putfield 71, 3) := by decide +kernel
theorem dX5_moveFirstRow_164 : decode cX5_moveFirstRow 164 = .ok (.return_, 1) := by decide +kernel
set_option maxRecDepth 20000 in
theorem ggX5_inputWithFirstRow_X4_firstAt : GoodIn wsX5_inputWithFirstRow wsX4_firstAt := goodIn_r _ [8, 9, 32, 33, 34, 35] (by decide +kernel) (by decide +kernel)
set_option maxRecDepth 20000 in
theorem gX5_inputWithFirstRow_X4_firstAt : GoodIn wsX5_inputWithFirstRow (wsV RX5 103 RX4 yX4_firstAt wsX4_firstAt) := goodIn_app (goodIn_of _ (by decide +kernel)) ggX5_inputWithFirstRow_X4_firstAt
set_option maxRecDepth 20000 in
theorem ggX5_inputWithFirstRow_X3_comesBefore : GoodIn wsX5_inputWithFirstRow wsX3_comesBefore := goodIn_r _ [14, 15, 36, 37, 38, 39] (by decide +kernel) (by decide +kernel)
set_option maxRecDepth 20000 in
theorem gX5_inputWithFirstRow_X3_comesBefore : GoodIn wsX5_inputWithFirstRow (wsV RX5 145 RX3 yX3_comesBefore wsX3_comesBefore) := goodIn_app (goodIn_of _ (by decide +kernel)) ggX5_inputWithFirstRow_X3_comesBefore
