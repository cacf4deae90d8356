theorem dX5_inputWithFirstRow_0 : decode cX5_inputWithFirstRow 0 = .ok (.iconst 0, 1) := by decide +kernel
theorem dX5_inputWithFirstRow_1 : decode cX5_inputWithFirstRow 1 = .ok (.istore_n 1, 1) := by decide +kernel
theorem dX5_inputWithFirstRow_2 : decode cX5_inputWithFirstRow 2 = .ok (.iconst 1, 1) := by decide +kernel
theorem dX5_inputWithFirstRow_3 : decode cX5_inputWithFirstRow 3 = .ok (.istore_n 2, 1) := by decide +kernel
theorem dX5_inputWithFirstRow_4 : decode cX5_inputWithFirstRow 4 = .ok (.iload_n 2, 1) := by decide +kernel
theorem dX5_inputWithFirstRow_5 : decode cX5_inputWithFirstRow 5 = .ok (.aload_n 0, 1) := by decide +kernel
theorem dX5_inputWithFirstRow_6 : decode cX5_inputWithFirstRow 6 = .ok (.getfield 37, 3) := by decide +kernel
theorem dX5_inputWithFirstRow_9 : decode cX5_inputWithFirstRow 9 = .ok (.getfield 83, 3) := by decide +kernel
theorem dX5_inputWithFirstRow_12 : decode cX5_inputWithFirstRow 12 = .ok (.if_icmp .ge 37, 3) := by decide +kernel
theorem dX5_inputWithFirstRow_15 : decode cX5_inputWithFirstRow 15 = .ok (.aload_n 0, 1) := by decide +kernel
theorem dX5_inputWithFirstRow_16 : decode cX5_inputWithFirstRow 16 = .ok (.getfield 12, 3) := by decide +kernel
theorem dX5_inputWithFirstRow_19 : decode cX5_inputWithFirstRow 19 = .ok (.aload_n 0, 1) := by decide +kernel
theorem dX5_inputWithFirstRow_20 : decode cX5_inputWithFirstRow 20 = .ok (.getfield 37, 3) := by decide +kernel
theorem dX5_inputWithFirstRow_23 : decode cX5_inputWithFirstRow 23 = .ok (.iload_n 2, 1) := by decide +kernel
theorem dX5_inputWithFirstRow_24 : decode cX5_inputWithFirstRow 24 = .ok (.invokevirtual 103, 3) := by decide +kernel
theorem dX5_inputWithFirstRow_27 : decode cX5_inputWithFirstRow 27 = .ok (.aload_n 0, 1) := by decide +kernel
theorem dX5_inputWithFirstRow_28 : decode cX5_inputWithFirstRow 28 = .ok (.getfield 37, 3) := by decide +kernel
theorem dX5_inputWithFirstRow_31 : decode cX5_inputWithFirstRow 31 = .ok (.iload_n 1, 1) := by decide +kernel
theorem dX5_inputWithFirstRow_32 : decode cX5_inputWithFirstRow 32 = .ok (.invokevirtual 103, 3) := by decide +kernel
theorem dX5_inputWithFirstRow_35 : decode cX5_inputWithFirstRow 35 = .ok (.invokevirtual 145, 3) := by decide +kernel
theorem dX5_inputWithFirstRow_38 : decode cX5_inputWithFirstRow 38 = .ok (.ifCond .eq 5, 3) := by decide +kernel
theorem dX5_inputWithFirstRow_41 : decode cX5_inputWithFirstRow 41 = .ok (.iload_n 2, 1) := by decide +kernel
theorem dX5_inputWithFirstRow_42 : decode cX5_inputWithFirstRow 42 = .ok (.istore_n 1, 1) := by decide +kernel
theorem dX5_inputWithFirstRow_43 : decode cX5_inputWithFirstRow 43 = .ok (.iinc 2 1, 3) := by decide +kernel
theorem dX5_inputWithFirstRow_46 : decode cX5_inputWithFirstRow 46 = .ok (.goto (-42), 3) := by decide +kernel
theorem dX5_inputWithFirstRow_49 : decode cX5_inputWithFirstRow 49 = .ok (.iload_n 1, 1) := by decide +kernel
theorem dX5_inputWithFirstRow_50 : decode cX5_inputWithFirstRow 50 = .ok (.ireturn, 1) := by decide +kernel
set_option maxRecDepth 20000 in
theorem ggX5_closeOutput_X5_makeRun : GoodIn wsX5_closeOutput wsX5_makeRun := goodIn_r _ [7, 8, 9, 10, 11, 12, 13, 14, 15, 16, 17, 18, 19, 20, 21, 22, 23, 24, 25, 26, 27, 28, 29, 30, 31, 32, 33, 34, 35, 36, 37, 38] (by decide +kernel) (by decide +kernel)
set_option maxRecDepth 20000 in
theorem gX5_closeOutput_X5_makeRun : GoodIn wsX5_closeOutput (wsV RX5 142 RX5 yX5_makeRun wsX5_makeRun) := goodIn_app (goodIn_of _ (by decide +kernel)) ggX5_closeOutput_X5_makeRun
theorem dX5_closeOutput_0 : decode cX5_closeOutput 0 = .ok (.aload_n 0, 1) := by decide +kernel
theorem dX5_closeOutput_1 : decode cX5_closeOutput 1 = .ok (.getfield 68, 3) := by decide +kernel
theorem dX5_closeOutput_4 : decode cX5_closeOutput 4 = .ok (.ifCond .le 16, 3) := by decide +kernel
theorem dX5_closeOutput_7 : decode cX5_closeOutput 7 = .ok (.aload_n 0, 1) := by decide +kernel
theorem dX5_closeOutput_8 : decode cX5_closeOutput 8 = .ok (.aload_n 0, 1) := by decide +kernel
theorem dX5_closeOutput_9 : decode cX5_closeOutput 9 = .ok (.getfield 62, 3) := by decide +kernel
theorem dX5_closeOutput_12 : decode cX5_closeOutput 12 = .ok (.aload_n 0, 1) := by decide +kernel
theorem dX5_closeOutput_13 : decode cX5_closeOutput 13 = .ok (.getfield 68, 3) := by decide +kernel
theorem dX5_closeOutput_16 : decode cX5_closeOutput 16 = .ok (.invokevirtual 142, 3) := by decide +kernel
theorem dX5_closeOutput_19 : decode cX5_closeOutput 19 = .ok (.pop, 1) := by decide +kernel
theorem dX5_closeOutput_20 : decode cX5_closeOutput 20 = .ok (.aload_n 0, 1) := by decide +kernel
theorem dX5_closeOutput_21 : decode cX5_closeOutput 21 = .ok (.iconst 0, 1) := by decide +kernel
theorem dX5_closeOutput_22 : decode cX5_closeOutput 22 = .ok (.putfield 68, 3) := by decide +kernel
theorem dX5_closeOutput_25 : decode cX5_closeOutput 25 = .ok (.return_, 1) := by decide +kernel
set_option maxRecDepth 20000 in
theorem ggX5_canRunToEnd_X5_hasMerge : GoodIn wsX5_canRunToEnd wsX5_hasMerge := goodIn_r _ [8, 9, 2, 19, 20, 21, 22, 23, 24, 25, 26, 27, 28, 29, 30, 31, 32, 33, 34, 35, 36, 37, 38] (by decide +kernel) (by decide +kernel)
set_option maxRecDepth 20000 in
theorem gX5_canRunToEnd_X5_hasMerge : GoodIn wsX5_canRunToEnd (wsV RX5 86 RX5 yX5_hasMerge wsX5_hasMerge) := goodIn_app (goodIn_of _ (by decide +kernel)) ggX5_canRunToEnd_X5_hasMerge
set_option maxRecDepth 20000 in
theorem ggX5_canRunToEnd_X5_ways : GoodIn wsX5_canRunToEnd wsX5_ways := goodIn_r _ [13, 14, 15, 16, 17, 18, 19, 20, 21, 22, 23, 24, 25, 26, 27, 28, 29, 30, 31, 32, 33, 34] (by decide +kernel) (by decide +kernel)
set_option maxRecDepth 20000 in
theorem gX5_canRunToEnd_X5_ways : GoodIn wsX5_canRunToEnd (wsV RX5 153 RX5 yX5_ways wsX5_ways) := goodIn_app (goodIn_of _ (by decide +kernel)) ggX5_canRunToEnd_X5_ways
theorem dX5_canRunToEnd_0 : decode cX5_canRunToEnd 0 = .ok (.aload_n 0, 1) := by decide +kernel
theorem dX5_canRunToEnd_1 : decode cX5_canRunToEnd 1 = .ok (.getfield 21, 3) := by decide +kernel
theorem dX5_canRunToEnd_4 : decode cX5_canRunToEnd 4 = .ok (.getfield 83, 3) := by decide +kernel
theorem dX5_canRunToEnd_7 : decode cX5_canRunToEnd 7 = .ok (.istore_n 1, 1) := by decide +kernel
theorem dX5_canRunToEnd_8 : decode cX5_canRunToEnd 8 = .ok (.aload_n 0, 1) := by decide +kernel
theorem dX5_canRunToEnd_9 : decode cX5_canRunToEnd 9 = .ok (.getfield 56, 3) := by decide +kernel
theorem dX5_canRunToEnd_12 : decode cX5_canRunToEnd 12 = .ok (.ifCond .le 6, 3) := by decide +kernel
theorem dX5_canRunToEnd_15 : decode cX5_canRunToEnd 15 = .ok (.iinc 1 1, 3) := by decide +kernel
theorem dX5_canRunToEnd_18 : decode cX5_canRunToEnd 18 = .ok (.aload_n 0, 1) := by decide +kernel
theorem dX5_canRunToEnd_19 : decode cX5_canRunToEnd 19 = .ok (.invokevirtual 86, 3) := by decide +kernel
theorem dX5_canRunToEnd_22 : decode cX5_canRunToEnd 22 = .ok (.ifCond .eq 6, 3) := by decide +kernel
theorem dX5_canRunToEnd_25 : decode cX5_canRunToEnd 25 = .ok (.iinc 1 1, 3) := by decide +kernel
theorem dX5_canRunToEnd_28 : decode cX5_canRunToEnd 28 = .ok (.iload_n 1, 1) := by decide +kernel
theorem dX5_canRunToEnd_29 : decode cX5_canRunToEnd 29 = .ok (.iconst 1, 1) := by decide +kernel
theorem dX5_canRunToEnd_30 : decode cX5_canRunToEnd 30 = .ok (.if_icmp .le 11, 3) := by decide +kernel
theorem dX5_canRunToEnd_33 : decode cX5_canRunToEnd 33 = .ok (.aload_n 0, 1) := by decide +kernel
theorem dX5_canRunToEnd_34 : decode cX5_canRunToEnd 34 = .ok (.invokevirtual 153, 3) := by decide +kernel
theorem dX5_canRunToEnd_37 : decode cX5_canRunToEnd 37 = .ok (.iconst 2, 1) := by decide +kernel
theorem dX5_canRunToEnd_38 : decode cX5_canRunToEnd 38 = .ok (.if_icmp .lt 7, 3) := by decide +kernel
theorem dX5_canRunToEnd_41 : decode cX5_canRunToEnd 41 = .ok (.iconst 1, 1) := by decide +kernel
theorem dX5_canRunToEnd_42 : decode cX5_canRunToEnd 42 = .ok (.goto 4, 3) := by decide +kernel
theorem dX5_canRunToEnd_45 : decode cX5_canRunToEnd 45 = .ok (.iconst 0, 1) := by decide +kernel
theorem dX5_canRunToEnd_46 : decode cX5_canRunToEnd 46 = .ok (.ireturn, 1) := by decide +kernel
def ck_wsX5_runToEnd : List (List Cond) := [[.code yX5_runToEnd cX5_runToEnd 2 (some .int)], wsX5_runToEnd_r1, wsX5_runToEnd_r2, wsX5_runToEnd_r3, wsX5_runToEnd_r4, wsX5_runToEnd_r5, wsX5_runToEnd_r6]
theorem ck_wsX5_runToEnd_m : ∀ c ∈ ck_wsX5_runToEnd, ∀ w ∈ c, w ∈ wsX5_runToEnd := List.forall_mem_cons.mpr ⟨fun w h => List.mem_cons.mpr (Or.inl (List.mem_singleton.mp h)), List.forall_mem_cons.mpr ⟨fun _ h => (List.mem_cons_of_mem _ (List.mem_append_left _ (List.mem_append_left _ (List.mem_append_left _ (List.mem_append_left _ h))))), List.forall_mem_cons.mpr ⟨fun _ h => (List.mem_cons_of_mem _ (List.mem_append_left _ (List.mem_append_left _ (List.mem_append_left _ (List.mem_append_right _ (List.mem_append_left _ h)))))), List.forall_mem_cons.mpr ⟨fun _ h => (List.mem_cons_of_mem _ (List.mem_append_left _ (List.mem_append_left _ (List.mem_append_left _ (List.mem_append_right _ (List.mem_append_right _ (List.mem_append_left _ h))))))), List.forall_mem_cons.mpr ⟨fun _ h => (List.mem_cons_of_mem _ (List.mem_append_left _ (List.mem_append_left _ (List.mem_append_left _ (List.mem_append_right _ (List.mem_append_right _ (List.mem_append_right _ (List.mem_append_left _ h)))))))), List.forall_mem_cons.mpr ⟨fun _ h => (List.mem_cons_of_mem _ (List.mem_append_left _ (List.mem_append_left _ (List.mem_append_left _ (List.mem_append_right _ (List.mem_append_right _ (List.mem_append_right _ (List.mem_append_right _ (List.mem_append_left _ h))))))))), List.forall_mem_cons.mpr ⟨fun _ h => (List.mem_cons_of_mem _ (List.mem_append_left _ (List.mem_append_left _ (List.mem_append_left _ (List.mem_append_right _ (List.mem_append_right _ (List.mem_append_right _ (List.mem_append_right _ (List.mem_append_right _ h))))))))), fun _ h => absurd h List.not_mem_nil⟩⟩⟩⟩⟩⟩⟩
set_option maxRecDepth 100000 in
theorem ck_wsX5_runToEnd_g : ∀ w ∈ wsX5_runToEnd, goodWord w = true := List.all_eq_true.mp (by decide +kernel)
set_option maxRecDepth 100000 in
theorem ggX5_runToEnd_X5_endCollecting : GoodIn wsX5_runToEnd wsX5_endCollecting := goodIn_ca (goodIn_ca (goodIn_ca (goodIn_2 ck_wsX5_runToEnd [(1, 4), (1, 5), (1, 6), (1, 7), (1, 8), (1, 3), (1, 9), (1, 10), (1, 11), (1, 12), (1, 13), (1, 14), (1, 15), (1, 16), (1, 17), (1, 18), (1, 19), (1, 20), (1, 21), (1, 22), (1, 23), (2, 0), (2, 1), (2, 2), (2, 3), (2, 4), (2, 5), (2, 6), (2, 7), (2, 8), (2, 9), (2, 10), (2, 11), (2, 12), (2, 13), (2, 14), (2, 15), (2, 16), (2, 17), (2, 18), (2, 19), (2, 20), (2, 21), (2, 22), (2, 23), (3, 0), (3, 1), (3, 2), (3, 3)] ck_wsX5_runToEnd_m ck_wsX5_runToEnd_g rfl) (goodIn_b (fun _ h => (List.mem_cons_of_mem _ (List.mem_append_left _ (List.mem_append_left _ (List.mem_append_right _ h))))) ck_wsX5_runToEnd_g)) (goodIn_b (fun _ h => (List.mem_cons_of_mem _ (List.mem_append_left _ (List.mem_append_right _ h)))) ck_wsX5_runToEnd_g)) (goodIn_b (fun _ h => (List.mem_cons_of_mem _ (List.mem_append_right _ h))) ck_wsX5_runToEnd_g)
set_option maxRecDepth 20000 in
theorem gX5_runToEnd_X5_endCollecting : GoodIn wsX5_runToEnd (wsV RX5 187 RX5 yX5_endCollecting wsX5_endCollecting) := goodIn_app (goodIn_of _ (by decide +kernel)) ggX5_runToEnd_X5_endCollecting
set_option maxRecDepth 100000 in
theorem ggX5_runToEnd_X5_makeSteps : GoodIn wsX5_runToEnd wsX5_makeSteps := goodIn_ca (goodIn_ca (goodIn_ca (goodIn_2 ck_wsX5_runToEnd [(3, 7), (3, 8), (3, 9), (3, 10), (1, 3), (3, 11), (3, 12), (3, 13), (3, 14), (3, 15), (3, 16), (3, 17), (1, 11), (1, 12), (3, 18), (3, 19), (3, 20), (3, 21), (3, 22), (3, 23), (4, 0), (4, 1), (4, 2), (4, 3), (4, 4), (2, 22), (4, 5), (3, 2), (1, 22), (1, 23), (2, 0), (2, 1), (2, 2), (2, 3), (4, 6), (4, 7), (4, 8), (4, 9), (3, 3), (4, 10), (4, 11), (4, 12), (4, 13), (2, 12), (4, 14), (4, 15), (4, 16), (4, 17), (4, 18), (4, 19), (4, 20), (4, 21), (3, 0), (3, 1), (4, 22), (4, 23), (5, 0), (5, 1), (5, 2), (5, 3), (5, 4), (5, 5), (5, 6), (5, 7), (5, 8), (5, 9), (5, 10), (2, 8), (2, 9), (2, 10), (2, 11), (5, 11), (5, 12), (5, 13), (5, 14), (2, 13), (2, 14), (2, 15), (2, 16), (2, 17), (2, 18), (2, 19), (2, 20), (2, 21), (2, 23)] ck_wsX5_runToEnd_m ck_wsX5_runToEnd_g rfl) (goodIn_b (fun _ h => (List.mem_cons_of_mem _ (List.mem_append_left _ (List.mem_append_left _ (List.mem_append_right _ h))))) ck_wsX5_runToEnd_g)) (goodIn_b (fun _ h => (List.mem_cons_of_mem _ (List.mem_append_right _ h))) ck_wsX5_runToEnd_g)) (goodIn_b (fun _ h => (List.mem_cons_of_mem _ (List.mem_append_left _ (List.mem_append_right _ h)))) ck_wsX5_runToEnd_g)
set_option maxRecDepth 20000 in
theorem gX5_runToEnd_X5_makeSteps : GoodIn wsX5_runToEnd (wsV RX5 190 RX5 yX5_makeSteps wsX5_makeSteps) := goodIn_app (goodIn_of _ (by decide +kernel)) ggX5_runToEnd_X5_makeSteps
set_option maxRecDepth 100000 in
theorem ggX5_runToEnd_X5_canBeginMerge : GoodIn wsX5_runToEnd wsX5_canBeginMerge := goodIn_ca (goodIn_ca (goodIn_2 ck_wsX5_runToEnd [(5, 18), (1, 5), (2, 18), (3, 13), (3, 8), (3, 9), (3, 10), (1, 3), (3, 11), (3, 12), (5, 19), (5, 20), (5, 21), (5, 22), (5, 23), (6, 0), (6, 1), (6, 2), (6, 3)] ck_wsX5_runToEnd_m ck_wsX5_runToEnd_g rfl) (goodIn_b (fun _ h => (List.mem_cons_of_mem _ (List.mem_append_left _ (List.mem_append_left _ (List.mem_append_right _ h))))) ck_wsX5_runToEnd_g)) (goodIn_b (fun _ h => (List.mem_cons_of_mem _ (List.mem_append_right _ h))) ck_wsX5_runToEnd_g)
set_option maxRecDepth 20000 in
theorem gX5_runToEnd_X5_canBeginMerge : GoodIn wsX5_runToEnd (wsV RX5 193 RX5 yX5_canBeginMerge wsX5_canBeginMerge) := goodIn_app (goodIn_of _ (by decide +kernel)) ggX5_runToEnd_X5_canBeginMerge
set_option maxRecDepth 100000 in
theorem ggX5_runToEnd_X5_beginMerge : GoodIn wsX5_runToEnd wsX5_beginMerge := goodIn_ca (goodIn_ca (goodIn_2 ck_wsX5_runToEnd [(6, 7), (2, 18), (3, 13), (6, 0), (6, 1), (6, 2), (6, 3), (3, 12), (6, 8), (6, 9), (5, 19), (5, 20), (5, 21), (1, 3), (5, 22), (5, 23), (6, 10), (6, 11), (6, 12), (2, 22), (6, 13), (3, 0), (6, 14), (4, 7), (4, 8), (4, 9), (3, 3), (6, 15), (6, 16), (6, 17), (6, 18), (3, 1), (4, 2), (4, 3), (4, 4), (4, 5), (3, 2), (4, 6), (2, 19), (2, 20), (2, 21), (2, 23), (4, 18), (4, 19), (4, 20), (4, 21), (4, 22), (4, 23), (5, 0), (5, 1)] ck_wsX5_runToEnd_m ck_wsX5_runToEnd_g rfl) (goodIn_b (fun _ h => (List.mem_cons_of_mem _ (List.mem_append_left _ (List.mem_append_left _ (List.mem_append_right _ h))))) ck_wsX5_runToEnd_g)) (goodIn_b (fun _ h => (List.mem_cons_of_mem _ (List.mem_append_right _ h))) ck_wsX5_runToEnd_g)
set_option maxRecDepth 20000 in
theorem gX5_runToEnd_X5_beginMerge : GoodIn wsX5_runToEnd (wsV RX5 196 RX5 yX5_beginMerge wsX5_beginMerge) := goodIn_app (goodIn_of _ (by decide +kernel)) ggX5_runToEnd_X5_beginMerge
theorem dX5_runToEnd_0 : decode cX5_runToEnd 0 = .ok (.aload_n 0, 1) := by decide +kernel
theorem dX5_runToEnd_1 : decode cX5_runToEnd 1 = .ok (.invokevirtual 187, 3) := by decide +kernel
theorem dX5_runToEnd_4 : decode cX5_runToEnd 4 = .ok (.aload_n 0, 1) := by decide +kernel
theorem dX5_runToEnd_5 : decode cX5_runToEnd 5 = .ok (.bipush 120, 2) := by decide +kernel
theorem dX5_runToEnd_7 : decode cX5_runToEnd 7 = .ok (.invokevirtual 190, 3) := by decide +kernel
theorem dX5_runToEnd_10 : decode cX5_runToEnd 10 = .ok (.pop, 1) := by decide +kernel
theorem dX5_runToEnd_11 : decode cX5_runToEnd 11 = .ok (.iconst 0, 1) := by decide +kernel
theorem dX5_runToEnd_12 : decode cX5_runToEnd 12 = .ok (.istore_n 1, 1) := by decide +kernel
theorem dX5_runToEnd_13 : decode cX5_runToEnd 13 = .ok (.iload_n 1, 1) := by decide +kernel
theorem dX5_runToEnd_14 : decode cX5_runToEnd 14 = .ok (.bipush 120, 2) := by decide +kernel
theorem dX5_runToEnd_16 : decode cX5_runToEnd 16 = .ok (.if_icmp .ge 28, 3) := by decide +kernel
theorem dX5_runToEnd_19 : decode cX5_runToEnd 19 = .ok (.aload_n 0, 1) := by decide +kernel
theorem dX5_runToEnd_20 : decode cX5_runToEnd 20 = .ok (.invokevirtual 193, 3) := by decide +kernel
theorem dX5_runToEnd_23 : decode cX5_runToEnd 23 = .ok (.ifCond .eq 21, 3) := by decide +kernel
theorem dX5_runToEnd_26 : decode cX5_runToEnd 26 = .ok (.aload_n 0, 1) := by decide +kernel
theorem dX5_runToEnd_27 : decode cX5_runToEnd 27 = .ok (.invokevirtual 196, 3) := by decide +kernel
theorem dX5_runToEnd_30 : decode cX5_runToEnd 30 = .ok (.pop, 1) := by decide +kernel
theorem dX5_runToEnd_31 : decode cX5_runToEnd 31 = .ok (.aload_n 0, 1) := by decide +kernel
theorem dX5_runToEnd_32 : decode cX5_runToEnd 32 = .ok (.bipush 120, 2) := by decide +kernel
theorem dX5_runToEnd_34 : decode cX5_runToEnd 34 = .ok (.invokevirtual 190, 3) := by decide +kernel
theorem dX5_runToEnd_37 : decode cX5_runToEnd 37 = .ok (.pop, 1) := by decide +kernel
theorem dX5_runToEnd_38 : decode cX5_runToEnd 38 = .ok (.iinc 1 1, 3) := by decide +kernel
theorem dX5_runToEnd_41 : decode cX5_runToEnd 41 = .ok (.goto (-28), 3) := by decide +kernel
theorem dX5_runToEnd_44 : decode cX5_runToEnd 44 = .ok (.iload_n 1, 1) := by decide +kernel
theorem dX5_runToEnd_45 : decode cX5_runToEnd 45 = .ok (.ireturn, 1) := by decide +kernel
def ck_wsX6_init : List (List Cond) := [[.code yX6_init cX6_init 1 none], wsX6_init_r1, wsX6_init_r2, wsX6_init_r3]
theorem ck_wsX6_init_m : ∀ c ∈ ck_wsX6_init, ∀ w ∈ c, w ∈ wsX6_init := List.forall_mem_cons.mpr ⟨fun w h => List.mem_cons.mpr (Or.inl (List.mem_singleton.mp h)), List.forall_mem_cons.mpr ⟨fun _ h => (List.mem_cons_of_mem _ (List.mem_append_left _ (List.mem_append_left _ (List.mem_append_left _ (List.mem_append_left _ (List.mem_append_left _ (List.mem_append_left _ (List.mem_append_left _ (List.mem_append_left _ h))))))))), List.forall_mem_cons.mpr ⟨fun _ h => (List.mem_cons_of_mem _ (List.mem_append_left _ (List.mem_append_left _ (List.mem_append_left _ (List.mem_append_left _ (List.mem_append_left _ (List.mem_append_left _ (List.mem_append_left _ (List.mem_append_right _ (List.mem_append_left _ h)))))))))), List.forall_mem_cons.mpr ⟨fun _ h => (List.mem_cons_of_mem _ (List.mem_append_left _ (List.mem_append_left _ (List.mem_append_left _ (List.mem_append_left _ (List.mem_append_left _ (List.mem_append_left _ (List.mem_append_left _ (List.mem_append_right _ (List.mem_append_right _ h)))))))))), fun _ h => absurd h List.not_mem_nil⟩⟩⟩⟩
set_option maxRecDepth 100000 in
theorem ck_wsX6_init_g : ∀ w ∈ wsX6_init, goodWord w = true := List.all_eq_true.mp (by decide +kernel)
set_option maxRecDepth 100000 in
theorem ggX6_init_X5_init : GoodIn wsX6_init wsX5_init := goodIn_ca (goodIn_ca (goodIn_ca (goodIn_2 ck_wsX6_init [(1, 22), (1, 23), (1, 1), (1, 2), (2, 0), (2, 1), (2, 2), (2, 3), (2, 4), (2, 5), (2, 6), (2, 7), (2, 8), (2, 9), (2, 10), (2, 11), (2, 12), (2, 13), (2, 14), (2, 15), (2, 16), (2, 17), (2, 18), (2, 19), (2, 20), (2, 21), (2, 22), (2, 23), (3, 0)] ck_wsX6_init_m ck_wsX6_init_g rfl) (goodIn_b (fun _ h => (List.mem_cons_of_mem _ (List.mem_append_left _ (List.mem_append_right _ h)))) ck_wsX6_init_g)) (goodIn_b (fun _ h => (List.mem_cons_of_mem _ (List.mem_append_left _ (List.mem_append_left _ (List.mem_append_left _ (List.mem_append_left _ (List.mem_append_left _ (List.mem_append_left _ (List.mem_append_right _ h))))))))) ck_wsX6_init_g)) (goodIn_b (fun _ h => (List.mem_cons_of_mem _ (List.mem_append_right _ h))) ck_wsX6_init_g)
set_option maxRecDepth 20000 in
theorem gX6_init_X5_init_n9 : GoodIn wsX6_init (wsX5_init) := ggX6_init_X5_init
set_option maxRecDepth 100000 in
theorem ggX6_init_X1_init : GoodIn wsX6_init wsX1_init := goodIn_ca (goodIn_ca (goodIn_ca (goodIn_ca (goodIn_2 ck_wsX6_init [(3, 3), (3, 4), (1, 1), (1, 2), (3, 5), (3, 6), (1, 4), (1, 5), (1, 21), (1, 22), (1, 23), (2, 0), (2, 1), (2, 2), (2, 3), (2, 4), (2, 5), (2, 6), (2, 7), (2, 8), (2, 9), (2, 10), (2, 11), (2, 12), (2, 13), (2, 14), (2, 15), (2, 16), (2, 17), (2, 18), (2, 19), (2, 20), (2, 21), (2, 22), (2, 23), (3, 0)] ck_wsX6_init_m ck_wsX6_init_g rfl) (goodIn_b (fun _ h => (List.mem_cons_of_mem _ (List.mem_append_left _ (List.mem_append_left _ (List.mem_append_left _ (List.mem_append_left _ (List.mem_append_right _ h))))))) ck_wsX6_init_g)) (goodIn_b (fun _ h => (List.mem_cons_of_mem _ (List.mem_append_left _ (List.mem_append_left _ (List.mem_append_left _ (List.mem_append_left _ (List.mem_append_left _ (List.mem_append_left _ (List.mem_append_right _ h))))))))) ck_wsX6_init_g)) (goodIn_b (fun _ h => (List.mem_cons_of_mem _ (List.mem_append_left _ (List.mem_append_right _ h)))) ck_wsX6_init_g)) (goodIn_b (fun _ h => (List.mem_cons_of_mem _ (List.mem_append_right _ h))) ck_wsX6_init_g)
set_option maxRecDepth 20000 in
theorem gX6_init_X1_init : GoodIn wsX6_init (wsX1_init) := ggX6_init_X1_init
set_option maxRecDepth 100000 in
theorem ggX6_init_X0_init : GoodIn wsX6_init wsX0_init := goodIn_ca (goodIn_2 ck_wsX6_init [(3, 8), (3, 9), (1, 1), (1, 2), (2, 10), (3, 10)] ck_wsX6_init_m ck_wsX6_init_g rfl) (goodIn_b (fun _ h => (List.mem_cons_of_mem _ (List.mem_append_left _ (List.mem_append_left _ (List.mem_append_left _ (List.mem_append_right _ h)))))) ck_wsX6_init_g)
set_option maxRecDepth 20000 in
theorem gX6_init_X0_init_n31 : GoodIn wsX6_init (wsX0_init) := ggX6_init_X0_init
set_option maxRecDepth 100000 in
theorem ggX6_init_X2_init : GoodIn wsX6_init wsX2_init := goodIn_2 ck_wsX6_init [(3, 12), (3, 13), (1, 1), (1, 2)] ck_wsX6_init_m ck_wsX6_init_g rfl
set_option maxRecDepth 20000 in
theorem gX6_init_X2_init_n38 : GoodIn wsX6_init (wsX2_init) := ggX6_init_X2_init
theorem dX6_init_0 : decode cX6_init 0 = .ok (.aload_n 0, 1) := by decide +kernel
theorem dX6_init_1 : decode cX6_init 1 = .ok (.invokespecial 1, 3) := by decide +kernel
theorem dX6_init_4 : decode cX6_init 4 = .ok (.aload_n 0, 1) := by decide +kernel
theorem dX6_init_5 : decode cX6_init 5 = .ok (.new 7, 3) := by decide +kernel
theorem dX6_init_8 : decode cX6_init 8 = .ok (.dup, 1) := by decide +kernel
theorem dX6_init_9 : decode cX6_init 9 = .ok (.invokespecial 9, 3) := by decide +kernel
theorem dX6_init_12 : decode cX6_init 12 = .ok (.putfield 10, 3) := by decide +kernel
theorem dX6_init_15 : decode cX6_init 15 = .ok (.aload_n 0, 1) := by decide +kernel
theorem dX6_init_16 : decode cX6_init 16 = .ok (.new 7, 3) := by decide +kernel
theorem dX6_init_19 : decode cX6_init 19 = .ok (.dup, 1) := by decide +kernel
theorem dX6_init_20 : decode cX6_init 20 = .ok (.invokespecial 9, 3) := by decide +kernel
theorem dX6_init_23 : decode cX6_init 23 = .ok (.putfield 16, 3) := by decide +kernel
theorem dX6_init_26 : decode cX6_init 26 = .ok (.aload_n 0, 1) := by decide +kernel
theorem dX6_init_27 : decode cX6_init 27 = .ok (.new 7, 3) := by decide +kernel
theorem dX6_init_30 : decode cX6_init 30 = .ok (.dup, 1) := by decide +kernel
theorem dX6_init_31 : decode cX6_init 31 = .ok (.invokespecial 9, 3) := by decide +kernel
theorem dX6_init_34 : decode cX6_init 34 = .ok (.putfield 19, 3) := by decide +kernel
theorem dX6_init_37 : decode cX6_init 37 = .ok (.aload_n 0, 1) := by decide +kernel
theorem dX6_init_38 : decode cX6_init 38 = .ok (.new 22, 3) := by decide +kernel
theorem dX6_init_41 : decode cX6_init 41 = .ok (.dup, 1) := by decide +kernel
theorem dX6_init_42 : decode cX6_init 42 = .ok (.invokespecial 24, 3) := by decide +kernel
theorem dX6_init_45 : decode cX6_init 45 = .ok (.putfield 25, 3) := by decide +kernel
theorem dX6_init_48 : decode cX6_init 48 = .ok (.aload_n 0, 1) := by decide +kernel
theorem dX6_init_49 : decode cX6_init 49 = .ok (.new 29, 3) := by decide +kernel
theorem dX6_init_52 : decode cX6_init 52 = .ok (.dup, 1) := by decide +kernel
theorem dX6_init_53 : decode cX6_init 53 = .ok (.invokespecial 31, 3) := by decide +kernel
theorem dX6_init_56 : decode cX6_init 56 = .ok (.putfield 32, 3) := by decide +kernel
theorem dX6_init_59 : decode cX6_init 59 = .ok (.aload_n 0, 1) := by decide +kernel
theorem dX6_init_60 : decode cX6_init 60 = .ok (.new 36, 3) := by decide +kernel
theorem dX6_init_63 : decode cX6_init 63 = .ok (.dup, 1) := by decide +kernel
theorem dX6_init_64 : decode cX6_init 64 = .ok (.invokespecial 38, 3) := by decide +kernel
theorem dX6_init_67 : decode cX6_init 67 = .ok (.putfield 39, 3) := by decide +kernel
theorem dX6_init_70 : decode cX6_init 70 = .ok (.return_, 1) := by decide +kernel
def ck_wsX6_add : List (List Cond) := [[.code yX6_add cX6_add 2 (some .int)], wsX6_add_r1, wsX6_add_r2, wsX6_add_r3, wsX6_add_r4, wsX6_add_r5, wsX6_add_r6]
theorem ck_wsX6_add_m : ∀ c ∈ ck_wsX6_add, ∀ w ∈ c, w ∈ wsX6_add := List.forall_mem_cons.mpr ⟨fun w h => List.mem_cons.mpr (Or.inl (List.mem_singleton.mp h)), List.forall_mem_cons.mpr ⟨fun _ h => (List.mem_cons_of_mem _ (List.mem_append_left _ (List.mem_append_left _ (List.mem_append_left _ (List.mem_append_left _ (List.mem_append_left _ (List.mem_append_left _ h))))))), List.forall_mem_cons.mpr ⟨fun _ h => (List.mem_cons_of_mem _ (List.mem_append_left _ (List.mem_append_left _ (List.mem_append_left _ (List.mem_append_left _ (List.mem_append_left _ (List.mem_append_right _ (List.mem_append_left _ h)))))))), List.forall_mem_cons.mpr ⟨fun _ h => (List.mem_cons_of_mem _ (List.mem_append_left _ (List.mem_append_left _ (List.mem_append_left _ (List.mem_append_left _ (List.mem_append_left _ (List.mem_append_right _ (List.mem_append_right _ (List.mem_append_left _ h))))))))), List.forall_mem_cons.mpr ⟨fun _ h => (List.mem_cons_of_mem _ (List.mem_append_left _ (List.mem_append_left _ (List.mem_append_left _ (List.mem_append_left _ (List.mem_append_left _ (List.mem_append_right _ (List.mem_append_right _ (List.mem_append_right _ (List.mem_append_left _ h)))))))))), List.forall_mem_cons.mpr ⟨fun _ h => (List.mem_cons_of_mem _ (List.mem_append_left _ (List.mem_append_left _ (List.mem_append_left _ (List.mem_append_left _ (List.mem_append_left _ (List.mem_append_right _ (List.mem_append_right _ (List.mem_append_right _ (List.mem_append_right _ (List.mem_append_left _ h))))))))))), List.forall_mem_cons.mpr ⟨fun _ h => (List.mem_cons_of_mem _ (List.mem_append_left _ (List.mem_append_left _ (List.mem_append_left _ (List.mem_append_left _ (List.mem_append_left _ (List.mem_append_right _ (List.mem_append_right _ (List.mem_append_right _ (List.mem_append_right _ (List.mem_append_right _ h))))))))))), fun _ h => absurd h List.not_mem_nil⟩⟩⟩⟩⟩⟩⟩
set_option maxRecDepth 100000 in
theorem ck_wsX6_add_g : ∀ w ∈ wsX6_add, goodWord w = true := List.all_eq_true.mp (by decide +kernel)
set_option maxRecDepth 100000 in
theorem ggX6_add_X6_isKey : GoodIn wsX6_add wsX6_isKey := goodIn_2 ck_wsX6_add [(1, 7)] ck_wsX6_add_m ck_wsX6_add_g rfl
set_option maxRecDepth 20000 in
theorem gX6_add_X6_isKey : GoodIn wsX6_add (va_wsS RX6 43 yX6_isKey wsX6_isKey) := goodIn_app (goodIn_of _ (by decide +kernel)) ggX6_add_X6_isKey
set_option maxRecDepth 100000 in
theorem ggX6_add_X3_hasRoom : GoodIn wsX6_add wsX3_hasRoom := goodIn_ca (goodIn_2 ck_wsX6_add [(1, 12), (1, 13)] ck_wsX6_add_m ck_wsX6_add_g rfl) (goodIn_b (fun _ h => (List.mem_cons_of_mem _ (List.mem_append_left _ (List.mem_append_left _ (List.mem_append_right _ h))))) ck_wsX6_add_g)
set_option maxRecDepth 20000 in
theorem gX6_add_X3_hasRoom : GoodIn wsX6_add (wsV RX6 55 RX3 yX3_hasRoom wsX3_hasRoom) := goodIn_app (goodIn_of _ (by decide +kernel)) ggX6_add_X3_hasRoom
set_option maxRecDepth 100000 in
theorem ggX6_add_X1_remember : GoodIn wsX6_add wsX1_remember := goodIn_ca (goodIn_ca (goodIn_ca (goodIn_ca (goodIn_2 ck_wsX6_add [(1, 18), (1, 19), (1, 20), (1, 21), (1, 22), (1, 23), (1, 17), (2, 0), (2, 1), (2, 2), (2, 3), (2, 4), (2, 5), (2, 6), (2, 7), (2, 8), (2, 9), (2, 10), (2, 11), (2, 12), (2, 13), (2, 14), (2, 15), (2, 16), (2, 17), (2, 18), (2, 19), (2, 20), (2, 21), (2, 22), (2, 23), (3, 0), (3, 1), (3, 2), (3, 3), (3, 4), (3, 5), (3, 6), (3, 7), (3, 8), (3, 9), (1, 11), (3, 10), (3, 11), (3, 12), (3, 13), (3, 14), (1, 13), (3, 15), (3, 16), (3, 17), (3, 18), (3, 19), (3, 20), (3, 21), (3, 22), (3, 23), (4, 0)] ck_wsX6_add_m ck_wsX6_add_g rfl) (goodIn_b (fun _ h => (List.mem_cons_of_mem _ (List.mem_append_left _ (List.mem_append_right _ h)))) ck_wsX6_add_g)) (goodIn_b (fun _ h => (List.mem_cons_of_mem _ (List.mem_append_left _ (List.mem_append_left _ (List.mem_append_left _ (List.mem_append_right _ h)))))) ck_wsX6_add_g)) (goodIn_b (fun _ h => (List.mem_cons_of_mem _ (List.mem_append_left _ (List.mem_append_left _ (List.mem_append_right _ h))))) ck_wsX6_add_g)) (goodIn_b (fun _ h => (List.mem_cons_of_mem _ (List.mem_append_right _ h))) ck_wsX6_add_g)
set_option maxRecDepth 20000 in
theorem gX6_add_X1_remember : GoodIn wsX6_add (wsV RX6 61 RX1 yX1_remember wsX1_remember) := goodIn_app (goodIn_of _ (by decide +kernel)) ggX6_add_X1_remember
set_option maxRecDepth 100000 in
theorem ggX6_add_X5_collect : GoodIn wsX6_add wsX5_collect := goodIn_ca (goodIn_ca (goodIn_ca (goodIn_2 ck_wsX6_add [(4, 4), (2, 13), (2, 11), (2, 21), (2, 15), (4, 5), (4, 6), (4, 7), (2, 9), (4, 8), (4, 9), (4, 10), (4, 11), (4, 12), (2, 16), (4, 13), (4, 14), (4, 15), (1, 11), (4, 16), (3, 11), (4, 17), (4, 18), (4, 19), (4, 20), (1, 13), (3, 13), (3, 14), (4, 21), (1, 9), (1, 10), (1, 12), (4, 22), (4, 23), (5, 0), (5, 1), (5, 2), (5, 3), (5, 4), (5, 5), (5, 6), (5, 7), (5, 8), (5, 9), (3, 3), (5, 10), (5, 11), (5, 12), (5, 13), (5, 14), (5, 15), (5, 16), (5, 17), (5, 18), (5, 19), (5, 20), (5, 21), (5, 22), (5, 23), (6, 0), (6, 1), (6, 2), (6, 3), (6, 4), (6, 5), (3, 6), (2, 12), (6, 6), (6, 7), (6, 8), (3, 18), (6, 9), (4, 0), (3, 20), (3, 22), (3, 23)] ck_wsX6_add_m ck_wsX6_add_g rfl) (goodIn_b (fun _ h => (List.mem_cons_of_mem _ (List.mem_append_left _ (List.mem_append_left _ (List.mem_append_left _ (List.mem_append_right _ h)))))) ck_wsX6_add_g)) (goodIn_b (fun _ h => (List.mem_cons_of_mem _ (List.mem_append_left _ (List.mem_append_left _ (List.mem_append_right _ h))))) ck_wsX6_add_g)) (goodIn_b (fun _ h => (List.mem_cons_of_mem _ (List.mem_append_right _ h))) ck_wsX6_add_g)
set_option maxRecDepth 20000 in
theorem gX6_add_X5_collect : GoodIn wsX6_add (wsV RX6 65 RX5 yX5_collect wsX5_collect) := goodIn_app (goodIn_of _ (by decide +kernel)) ggX6_add_X5_collect
theorem dX6_add_0 : decode cX6_add 0 = .ok (.iload_n 1, 1) := by decide +kernel
theorem dX6_add_1 : decode cX6_add 1 = .ok (.invokestatic 43, 3) := by decide +kernel
theorem dX6_add_4 : decode cX6_add 4 = .ok (.ifCond .ne 6, 3) := by decide +kernel
theorem dX6_add_7 : decode cX6_add 7 = .ok (.bipush (-2), 2) := by decide +kernel
theorem dX6_add_9 : decode cX6_add 9 = .ok (.ireturn, 1) := by decide +kernel
theorem dX6_add_10 : decode cX6_add 10 = .ok (.aload_n 0, 1) := by decide +kernel
theorem dX6_add_11 : decode cX6_add 11 = .ok (.getfield 10, 3) := by decide +kernel
theorem dX6_add_14 : decode cX6_add 14 = .ok (.getfield 47, 3) := by decide +kernel
theorem dX6_add_17 : decode cX6_add 17 = .ok (.ifCond .ne 6, 3) := by decide +kernel
theorem dX6_add_20 : decode cX6_add 20 = .ok (.bipush (-3), 2) := by decide +kernel
theorem dX6_add_22 : decode cX6_add 22 = .ok (.ireturn, 1) := by decide +kernel
theorem dX6_add_23 : decode cX6_add 23 = .ok (.aload_n 0, 1) := by decide +kernel
theorem dX6_add_24 : decode cX6_add 24 = .ok (.getfield 10, 3) := by decide +kernel
theorem dX6_add_27 : decode cX6_add 27 = .ok (.getfield 51, 3) := by decide +kernel
theorem dX6_add_30 : decode cX6_add 30 = .ok (.invokevirtual 55, 3) := by decide +kernel
theorem dX6_add_33 : decode cX6_add 33 = .ok (.ifCond .ne 6, 3) := by decide +kernel
theorem dX6_add_36 : decode cX6_add 36 = .ok (.bipush (-4), 2) := by decide +kernel
theorem dX6_add_38 : decode cX6_add 38 = .ok (.ireturn, 1) := by decide +kernel
theorem dX6_add_39 : decode cX6_add 39 = .ok (.aload_n 0, 1) := by decide +kernel
theorem dX6_add_40 : decode cX6_add 40 = .ok (.getfield 25, 3) := by decide +kernel
theorem dX6_add_43 : decode cX6_add 43 = .ok (.aload_n 0, 1) := by decide +kernel
theorem dX6_add_44 : decode cX6_add 44 = .ok (.getfield 10, 3) := by decide +kernel
theorem dX6_add_47 : decode cX6_add 47 = .ok (.invokevirtual 61, 3) := by decide +kernel
theorem dX6_add_50 : decode cX6_add 50 = .ok (.aload_n 0, 1) := by decide +kernel
theorem dX6_add_51 : decode cX6_add 51 = .ok (.getfield 10, 3) := by decide +kernel
theorem dX6_add_54 : decode cX6_add 54 = .ok (.iload_n 1, 1) := by decide +kernel
theorem dX6_add_55 : decode cX6_add 55 = .ok (.invokevirtual 65, 3) := by decide +kernel
theorem dX6_add_58 : decode cX6_add 58 = .ok (.ireturn, 1) := by decide +kernel
def ck_wsX6_combine : List (List Cond) := [[.code yX6_combine cX6_combine 3 (some .int)], wsX6_combine_r1, wsX6_combine_r2, wsX6_combine_r3]
theorem ck_wsX6_combine_m : ∀ c ∈ ck_wsX6_combine, ∀ w ∈ c, w ∈ wsX6_combine := List.forall_mem_cons.mpr ⟨fun w h => List.mem_cons.mpr (Or.inl (List.mem_singleton.mp h)), List.forall_mem_cons.mpr ⟨fun _ h => (List.mem_cons_of_mem _ (List.mem_append_left _ (List.mem_append_left _ (List.mem_append_left _ (List.mem_append_left _ (List.mem_append_left _ (List.mem_append_left _ h))))))), List.forall_mem_cons.mpr ⟨fun _ h => (List.mem_cons_of_mem _ (List.mem_append_left _ (List.mem_append_left _ (List.mem_append_left _ (List.mem_append_left _ (List.mem_append_left _ (List.mem_append_right _ (List.mem_append_left _ h)))))))), List.forall_mem_cons.mpr ⟨fun _ h => (List.mem_cons_of_mem _ (List.mem_append_left _ (List.mem_append_left _ (List.mem_append_left _ (List.mem_append_left _ (List.mem_append_left _ (List.mem_append_right _ (List.mem_append_right _ h)))))))), fun _ h => absurd h List.not_mem_nil⟩⟩⟩⟩
set_option maxRecDepth 100000 in
theorem ck_wsX6_combine_g : ∀ w ∈ wsX6_combine, goodWord w = true := List.all_eq_true.mp (by decide +kernel)
set_option maxRecDepth 100000 in
theorem ggX6_combine_X1_remember : GoodIn wsX6_combine wsX1_remember := goodIn_ca (goodIn_ca (goodIn_ca (goodIn_ca (goodIn_2 ck_wsX6_combine [(1, 9), (1, 10), (1, 11), (1, 12), (1, 13), (1, 14), (1, 8), (1, 15), (1, 16), (1, 17), (1, 18), (1, 19), (1, 20), (1, 21), (1, 22), (1, 23), (2, 0), (2, 1), (2, 2), (2, 3), (2, 4), (2, 5), (2, 6), (2, 7), (2, 8), (2, 9), (2, 10), (2, 11), (2, 12), (2, 13), (2, 14), (2, 15), (2, 16), (2, 17), (2, 18), (2, 19), (2, 20), (2, 21), (2, 22), (2, 23), (3, 0), (3, 1), (3, 2), (3, 3), (3, 4), (3, 5), (3, 6), (3, 7), (3, 8), (3, 9), (3, 10), (3, 11), (3, 12), (3, 13), (3, 14), (3, 15), (3, 16), (3, 17)] ck_wsX6_combine_m ck_wsX6_combine_g rfl) (goodIn_b (fun _ h => (List.mem_cons_of_mem _ (List.mem_append_left _ (List.mem_append_right _ h)))) ck_wsX6_combine_g)) (goodIn_b (fun _ h => (List.mem_cons_of_mem _ (List.mem_append_left _ (List.mem_append_left _ (List.mem_append_left _ (List.mem_append_right _ h)))))) ck_wsX6_combine_g)) (goodIn_b (fun _ h => (List.mem_cons_of_mem _ (List.mem_append_left _ (List.mem_append_left _ (List.mem_append_right _ h))))) ck_wsX6_combine_g)) (goodIn_b (fun _ h => (List.mem_cons_of_mem _ (List.mem_append_right _ h))) ck_wsX6_combine_g)
set_option maxRecDepth 20000 in
theorem gX6_combine_X1_remember : GoodIn wsX6_combine (wsV RX6 61 RX1 yX1_remember wsX1_remember) := goodIn_app (goodIn_of _ (by decide +kernel)) ggX6_combine_X1_remember
set_option maxRecDepth 100000 in
theorem ggX6_combine_X6_asNumber : GoodIn wsX6_combine wsX6_asNumber := goodIn_2 ck_wsX6_combine [(3, 21)] ck_wsX6_combine_m ck_wsX6_combine_g rfl
set_option maxRecDepth 20000 in
theorem gX6_combine_X6_asNumber : GoodIn wsX6_combine (va_wsS RX6 76 yX6_asNumber wsX6_asNumber) := goodIn_app (goodIn_of _ (by decide +kernel)) ggX6_combine_X6_asNumber
theorem dX6_combine_0 : decode cX6_combine 0 = .ok (.aload_n 0, 1) := by decide +kernel
theorem dX6_combine_1 : decode cX6_combine 1 = .ok (.getfield 10, 3) := by decide +kernel
theorem dX6_combine_4 : decode cX6_combine 4 = .ok (.getfield 51, 3) := by decide +kernel
theorem dX6_combine_7 : decode cX6_combine 7 = .ok (.getfield 69, 3) := by decide +kernel
theorem dX6_combine_10 : decode cX6_combine 10 = .ok (.ifCond .le 6, 3) := by decide +kernel
theorem dX6_combine_13 : decode cX6_combine 13 = .ok (.bipush (-3), 2) := by decide +kernel
theorem dX6_combine_15 : decode cX6_combine 15 = .ok (.ireturn, 1) := by decide +kernel
theorem dX6_combine_16 : decode cX6_combine 16 = .ok (.aload_n 0, 1) := by decide +kernel
theorem dX6_combine_17 : decode cX6_combine 17 = .ok (.getfield 25, 3) := by decide +kernel
theorem dX6_combine_20 : decode cX6_combine 20 = .ok (.aload_n 0, 1) := by decide +kernel
theorem dX6_combine_21 : decode cX6_combine 21 = .ok (.getfield 10, 3) := by decide +kernel
theorem dX6_combine_24 : decode cX6_combine 24 = .ok (.invokevirtual 61, 3) := by decide +kernel
theorem dX6_combine_27 : decode cX6_combine 27 = .ok (.aload_n 0, 1) := by decide +kernel
theorem dX6_combine_28 : decode cX6_combine 28 = .ok (.getfield 10, 3) := by decide +kernel
theorem dX6_combine_31 : decode cX6_combine 31 = .ok (.getfield 73, 3) := by decide +kernel
theorem dX6_combine_34 : decode cX6_combine 34 = .ok (.invokestatic 76, 3) := by decide +kernel
theorem dX6_combine_37 : decode cX6_combine 37 = .ok (.istore_n 2, 1) := by decide +kernel
theorem dX6_combine_38 : decode cX6_combine 38 = .ok (.aload_n 0, 1) := by decide +kernel
theorem dX6_combine_39 : decode cX6_combine 39 = .ok (.getfield 10, 3) := by decide +kernel
theorem dX6_combine_42 : decode cX6_combine 42 = .ok (.iload_n 1, 1) := by decide +kernel
theorem dX6_combine_43 : decode cX6_combine 43 = .ok (.putfield 73, 3) := by decide +kernel
theorem dX6_combine_46 : decode cX6_combine 46 = .ok (.iload_n 2, 1) := by decide +kernel
theorem dX6_combine_47 : decode cX6_combine 47 = .ok (.ireturn, 1) := by decide +kernel
def ck_wsX6_flush : List (List Cond) := [[.code yX6_flush cX6_flush 1 (some .int)], wsX6_flush_r1, wsX6_flush_r2, wsX6_flush_r3, wsX6_flush_r4]
theorem ck_wsX6_flush_m : ∀ c ∈ ck_wsX6_flush, ∀ w ∈ c, w ∈ wsX6_flush := List.forall_mem_cons.mpr ⟨fun w h => List.mem_cons.mpr (Or.inl (List.mem_singleton.mp h)), List.forall_mem_cons.mpr ⟨fun _ h => (List.mem_cons_of_mem _ (List.mem_append_left _ (List.mem_append_left _ (List.mem_append_left _ (List.mem_append_left _ (List.mem_append_left _ (List.mem_append_left _ h))))))), List.forall_mem_cons.mpr ⟨fun _ h => (List.mem_cons_of_mem _ (List.mem_append_left _ (List.mem_append_left _ (List.mem_append_left _ (List.mem_append_left _ (List.mem_append_left _ (List.mem_append_right _ (List.mem_append_left _ h)))))))), List.forall_mem_cons.mpr ⟨fun _ h => (List.mem_cons_of_mem _ (List.mem_append_left _ (List.mem_append_left _ (List.mem_append_left _ (List.mem_append_left _ (List.mem_append_left _ (List.mem_append_right _ (List.mem_append_right _ (List.mem_append_left _ h))))))))), List.forall_mem_cons.mpr ⟨fun _ h => (List.mem_cons_of_mem _ (List.mem_append_left _ (List.mem_append_left _ (List.mem_append_left _ (List.mem_append_left _ (List.mem_append_left _ (List.mem_append_right _ (List.mem_append_right _ (List.mem_append_right _ h))))))))), fun _ h => absurd h List.not_mem_nil⟩⟩⟩⟩⟩
set_option maxRecDepth 100000 in
theorem ck_wsX6_flush_g : ∀ w ∈ wsX6_flush, goodWord w = true := List.all_eq_true.mp (by decide +kernel)
set_option maxRecDepth 100000 in
theorem ggX6_flush_X1_remember : GoodIn wsX6_flush wsX1_remember := goodIn_ca (goodIn_ca (goodIn_ca (goodIn_ca (goodIn_2 ck_wsX6_flush [(1, 7), (1, 8), (1, 9), (1, 10), (1, 11), (1, 12), (1, 6), (1, 13), (1, 14), (1, 15), (1, 16), (1, 17), (1, 18), (1, 19), (1, 20), (1, 21), (1, 22), (1, 23), (2, 0), (2, 1), (2, 2), (2, 3), (2, 4), (2, 5), (2, 6), (2, 7), (2, 8), (2, 9), (2, 10), (2, 11), (2, 12), (2, 13), (2, 14), (2, 15), (2, 16), (2, 17), (2, 18), (2, 19), (2, 20), (2, 21), (2, 22), (2, 23), (3, 0), (3, 1), (3, 2), (3, 3), (3, 4), (3, 5), (3, 6), (3, 7), (3, 8), (3, 9), (3, 10), (3, 11), (3, 12), (3, 13), (3, 14), (3, 15)] ck_wsX6_flush_m ck_wsX6_flush_g rfl) (goodIn_b (fun _ h => (List.mem_cons_of_mem _ (List.mem_append_left _ (List.mem_append_left _ (List.mem_append_right _ h))))) ck_wsX6_flush_g)) (goodIn_b (fun _ h => (List.mem_cons_of_mem _ (List.mem_append_left _ (List.mem_append_left _ (List.mem_append_left _ (List.mem_append_right _ h)))))) ck_wsX6_flush_g)) (goodIn_b (fun _ h => (List.mem_cons_of_mem _ (List.mem_append_left _ (List.mem_append_right _ h)))) ck_wsX6_flush_g)) (goodIn_b (fun _ h => (List.mem_cons_of_mem _ (List.mem_append_right _ h))) ck_wsX6_flush_g)
set_option maxRecDepth 20000 in
theorem gX6_flush_X1_remember : GoodIn wsX6_flush (wsV RX6 61 RX1 yX1_remember wsX1_remember) := goodIn_app (goodIn_of _ (by decide +kernel)) ggX6_flush_X1_remember
set_option maxRecDepth 100000 in
theorem ggX6_flush_X5_writeMemory : GoodIn wsX6_flush wsX5_writeMemory := goodIn_ca (goodIn_ca (goodIn_ca (goodIn_2 ck_wsX6_flush [(3, 19), (2, 10), (2, 0), (2, 16), (3, 20), (3, 21), (3, 22), (1, 22), (3, 23), (4, 0), (4, 1), (4, 2), (4, 3), (2, 5), (4, 4), (4, 5), (4, 6), (2, 23), (4, 7), (3, 1), (4, 8), (4, 9), (4, 10), (4, 11), (4, 12), (4, 13), (4, 14), (4, 15), (3, 4), (4, 16), (4, 17), (4, 18), (4, 19), (2, 19), (2, 1), (4, 20), (4, 21), (4, 22), (3, 9), (4, 23), (3, 15), (3, 11), (3, 13), (3, 14)] ck_wsX6_flush_m ck_wsX6_flush_g rfl) (goodIn_b (fun _ h => (List.mem_cons_of_mem _ (List.mem_append_left _ (List.mem_append_left _ (List.mem_append_left _ (List.mem_append_right _ h)))))) ck_wsX6_flush_g)) (goodIn_b (fun _ h => (List.mem_cons_of_mem _ (List.mem_append_left _ (List.mem_append_right _ h)))) ck_wsX6_flush_g)) (goodIn_b (fun _ h => (List.mem_cons_of_mem _ (List.mem_append_right _ h))) ck_wsX6_flush_g)
set_option maxRecDepth 20000 in
theorem gX6_flush_X5_writeMemory : GoodIn wsX6_flush (wsV RX6 80 RX5 yX5_writeMemory wsX5_writeMemory) := goodIn_app (goodIn_of _ (by decide +kernel)) ggX6_flush_X5_writeMemory
theorem dX6_flush_0 : decode cX6_flush 0 = .ok (.aload_n 0, 1) := by decide +kernel
theorem dX6_flush_1 : decode cX6_flush 1 = .ok (.getfield 10, 3) := by decide +kernel
theorem dX6_flush_4 : decode cX6_flush 4 = .ok (.getfield 47, 3) := by decide +kernel
theorem dX6_flush_7 : decode cX6_flush 7 = .ok (.ifCond .ne 6, 3) := by decide +kernel
theorem dX6_flush_10 : decode cX6_flush 10 = .ok (.bipush (-3), 2) := by decide +kernel
theorem dX6_flush_12 : decode cX6_flush 12 = .ok (.ireturn, 1) := by decide +kernel
theorem dX6_flush_13 : decode cX6_flush 13 = .ok (.aload_n 0, 1) := by decide +kernel
theorem dX6_flush_14 : decode cX6_flush 14 = .ok (.getfield 25, 3) := by decide +kernel
theorem dX6_flush_17 : decode cX6_flush 17 = .ok (.aload_n 0, 1) := by decide +kernel
theorem dX6_flush_18 : decode cX6_flush 18 = .ok (.getfield 10, 3) := by decide +kernel
theorem dX6_flush_21 : decode cX6_flush 21 = .ok (.invokevirtual 61, 3) := by decide +kernel
theorem dX6_flush_24 : decode cX6_flush 24 = .ok (.aload_n 0, 1) := by decide +kernel
theorem dX6_flush_25 : decode cX6_flush 25 = .ok (.getfield 10, 3) := by decide +kernel
theorem dX6_flush_28 : decode cX6_flush 28 = .ok (.invokevirtual 80, 3) := by decide +kernel
theorem dX6_flush_31 : decode cX6_flush 31 = .ok (.ireturn, 1) := by decide +kernel
def ck_wsX6_finish : List (List Cond) := [[.code yX6_finish cX6_finish 1 (some .int)], wsX6_finish_r1, wsX6_finish_r2, wsX6_finish_r3, wsX6_finish_r4, wsX6_finish_r5]
theorem ck_wsX6_finish_m : ∀ c ∈ ck_wsX6_finish, ∀ w ∈ c, w ∈ wsX6_finish := List.forall_mem_cons.mpr ⟨fun w h => List.mem_cons.mpr (Or.inl (List.mem_singleton.mp h)), List.forall_mem_cons.mpr ⟨fun _ h => (List.mem_cons_of_mem _ (List.mem_append_left _ (List.mem_append_left _ (List.mem_append_left _ (List.mem_append_left _ (List.mem_append_left _ (List.mem_append_left _ h))))))), List.forall_mem_cons.mpr ⟨fun _ h => (List.mem_cons_of_mem _ (List.mem_append_left _ (List.mem_append_left _ (List.mem_append_left _ (List.mem_append_left _ (List.mem_append_left _ (List.mem_append_right _ (List.mem_append_left _ h)))))))), List.forall_mem_cons.mpr ⟨fun _ h => (List.mem_cons_of_mem _ (List.mem_append_left _ (List.mem_append_left _ (List.mem_append_left _ (List.mem_append_left _ (List.mem_append_left _ (List.mem_append_right _ (List.mem_append_right _ (List.mem_append_left _ h))))))))), List.forall_mem_cons.mpr ⟨fun _ h => (List.mem_cons_of_mem _ (List.mem_append_left _ (List.mem_append_left _ (List.mem_append_left _ (List.mem_append_left _ (List.mem_append_left _ (List.mem_append_right _ (List.mem_append_right _ (List.mem_append_right _ (List.mem_append_left _ h)))))))))), List.forall_mem_cons.mpr ⟨fun _ h => (List.mem_cons_of_mem _ (List.mem_append_left _ (List.mem_append_left _ (List.mem_append_left _ (List.mem_append_left _ (List.mem_append_left _ (List.mem_append_right _ (List.mem_append_right _ (List.mem_append_right _ (List.mem_append_right _ h)))))))))), fun _ h => absurd h List.not_mem_nil⟩⟩⟩⟩⟩⟩
set_option maxRecDepth 100000 in
theorem ck_wsX6_finish_g : ∀ w ∈ wsX6_finish, goodWord w = true := List.all_eq_true.mp (by decide +kernel)
set_option maxRecDepth 100000 in
theorem ggX6_finish_X1_remember : GoodIn wsX6_finish wsX1_remember := goodIn_ca (goodIn_ca (goodIn_ca (goodIn_ca (goodIn_2 ck_wsX6_finish [(1, 9), (1, 10), (1, 11), (1, 12), (1, 13), (1, 14), (1, 8), (1, 15), (1, 16), (1, 17), (1, 18), (1, 19), (1, 20), (1, 21), (1, 22), (1, 23), (2, 0), (2, 1), (2, 2), (2, 3), (2, 4), (2, 5), (2, 6), (2, 7), (2, 8), (2, 9), (2, 10), (2, 11), (2, 12), (2, 13), (2, 14), (2, 15), (2, 16), (2, 17), (2, 18), (2, 19), (2, 20), (2, 21), (2, 22), (2, 23), (3, 0), (3, 1), (3, 2), (3, 3), (3, 4), (3, 5), (3, 6), (3, 7), (3, 8), (3, 9), (3, 10), (3, 11), (3, 12), (3, 13), (3, 14), (3, 15), (3, 16), (3, 17)] ck_wsX6_finish_m ck_wsX6_finish_g rfl) (goodIn_b (fun _ h => (List.mem_cons_of_mem _ (List.mem_append_left _ (List.mem_append_right _ h)))) ck_wsX6_finish_g)) (goodIn_b (fun _ h => (List.mem_cons_of_mem _ (List.mem_append_left _ (List.mem_append_left _ (List.mem_append_left _ (List.mem_append_right _ h)))))) ck_wsX6_finish_g)) (goodIn_b (fun _ h => (List.mem_cons_of_mem _ (List.mem_append_right _ h))) ck_wsX6_finish_g)) (goodIn_b (fun _ h => (List.mem_cons_of_mem _ (List.mem_append_left _ (List.mem_append_left _ (List.mem_append_right _ h))))) ck_wsX6_finish_g)
set_option maxRecDepth 20000 in
theorem gX6_finish_X1_remember : GoodIn wsX6_finish (wsV RX6 61 RX1 yX1_remember wsX1_remember) := goodIn_app (goodIn_of _ (by decide +kernel)) ggX6_finish_X1_remember
set_option maxRecDepth 100000 in
theorem ggX6_finish_X5_endCollecting : GoodIn wsX6_finish wsX5_endCollecting := goodIn_ca (goodIn_ca (goodIn_ca (goodIn_2 ck_wsX6_finish [(3, 21), (2, 5), (3, 22), (3, 23), (4, 0), (2, 0), (4, 1), (2, 12), (2, 2), (2, 18), (4, 2), (4, 3), (4, 4), (4, 5), (4, 6), (4, 7), (4, 8), (4, 9), (2, 7), (4, 10), (4, 11), (4, 12), (3, 1), (4, 13), (3, 3), (4, 14), (4, 15), (4, 16), (4, 17), (4, 18), (4, 19), (4, 20), (4, 21), (3, 6), (4, 22), (4, 23), (5, 0), (5, 1), (2, 21), (2, 3), (5, 2), (5, 3), (5, 4), (3, 11), (5, 5), (3, 17), (3, 13), (3, 15), (3, 16)] ck_wsX6_finish_m ck_wsX6_finish_g rfl) (goodIn_b (fun _ h => (List.mem_cons_of_mem _ (List.mem_append_left _ (List.mem_append_left _ (List.mem_append_left _ (List.mem_append_right _ h)))))) ck_wsX6_finish_g)) (goodIn_b (fun _ h => (List.mem_cons_of_mem _ (List.mem_append_right _ h))) ck_wsX6_finish_g)) (goodIn_b (fun _ h => (List.mem_cons_of_mem _ (List.mem_append_left _ (List.mem_append_left _ (List.mem_append_right _ h))))) ck_wsX6_finish_g)
set_option maxRecDepth 20000 in
theorem gX6_finish_X5_endCollecting : GoodIn wsX6_finish (wsV RX6 84 RX5 yX5_endCollecting wsX5_endCollecting) := goodIn_app (goodIn_of _ (by decide +kernel)) ggX6_finish_X5_endCollecting
theorem dX6_finish_0 : decode cX6_finish 0 = .ok (.aload_n 0, 1) := by decide +kernel
theorem dX6_finish_1 : decode cX6_finish 1 = .ok (.getfield 10, 3) := by decide +kernel
theorem dX6_finish_4 : decode cX6_finish 4 = .ok (.getfield 47, 3) := by decide +kernel
theorem dX6_finish_7 : decode cX6_finish 7 = .ok (.ifCond .ne 6, 3) := by decide +kernel
theorem dX6_finish_10 : decode cX6_finish 10 = .ok (.bipush (-3), 2) := by decide +kernel
theorem dX6_finish_12 : decode cX6_finish 12 = .ok (.ireturn, 1) := by decide +kernel
theorem dX6_finish_13 : decode cX6_finish 13 = .ok (.aload_n 0, 1) := by decide +kernel
theorem dX6_finish_14 : decode cX6_finish 14 = .ok (.getfield 25, 3) := by decide +kernel
theorem dX6_finish_17 : decode cX6_finish 17 = .ok (.aload_n 0, 1) := by decide +kernel
theorem dX6_finish_18 : decode cX6_finish 18 = .ok (.getfield 10, 3) := by decide +kernel
theorem dX6_finish_21 : decode cX6_finish 21 = .ok (.invokevirtual 61, 3) := by decide +kernel
theorem dX6_finish_24 : decode cX6_finish 24 = .ok (.aload_n 0, 1) := by decide +kernel
theorem dX6_finish_25 : decode cX6_finish 25 = .ok (.getfield 10, 3) := by decide +kernel
theorem dX6_finish_28 : decode cX6_finish 28 = .ok (.invokevirtual 84, 3) := by decide +kernel
theorem dX6_finish_31 : decode cX6_finish 31 = .ok (.aload_n 0, 1) := by decide +kernel
theorem dX6_finish_32 : decode cX6_finish 32 = .ok (.getfield 10, 3) := by decide +kernel
theorem dX6_finish_35 : decode cX6_finish 35 = .ok (.getfield 87, 3) := by decide +kernel
theorem dX6_finish_38 : decode cX6_finish 38 = .ok (.getfield 91, 3) := by decide +kernel
theorem dX6_finish_41 : decode cX6_finish 41 = .ok (.ireturn, 1) := by decide +kernel
set_option maxRecDepth 20000 in
theorem ggX6_isCollecting_X6_asNumber : GoodIn wsX6_isCollecting wsX6_asNumber := goodIn_r _ [6] (by decide +kernel) (by decide +kernel)
set_option maxRecDepth 20000 in
theorem gX6_isCollecting_X6_asNumber : GoodIn wsX6_isCollecting (va_wsS RX6 76 yX6_asNumber wsX6_asNumber) := goodIn_app (goodIn_of _ (by decide +kernel)) ggX6_isCollecting_X6_asNumber
theorem dX6_isCollecting_0 : decode cX6_isCollecting 0 = .ok (.aload_n 0, 1) := by decide +kernel
theorem dX6_isCollecting_1 : decode cX6_isCollecting 1 = .ok (.getfield 10, 3) := by decide +kernel
theorem dX6_isCollecting_4 : decode cX6_isCollecting 4 = .ok (.getfield 47, 3) := by decide +kernel
theorem dX6_isCollecting_7 : decode cX6_isCollecting 7 = .ok (.invokestatic 76, 3) := by decide +kernel
theorem dX6_isCollecting_10 : decode cX6_isCollecting 10 = .ok (.ireturn, 1) := by decide +kernel
def ck_wsX6_grant : List (List Cond) := [[.code yX6_grant cX6_grant 2 (some .int)], wsX6_grant_r1, wsX6_grant_r2, wsX6_grant_r3, wsX6_grant_r4, wsX6_grant_r5, wsX6_grant_r6]
theorem ck_wsX6_grant_m : ∀ c ∈ ck_wsX6_grant, ∀ w ∈ c, w ∈ wsX6_grant := List.forall_mem_cons.mpr ⟨fun w h => List.mem_cons.mpr (Or.inl (List.mem_singleton.mp h)), List.forall_mem_cons.mpr ⟨fun _ h => (List.mem_cons_of_mem _ (List.mem_append_left _ (List.mem_append_left _ (List.mem_append_left _ (List.mem_append_left _ (List.mem_append_left _ (List.mem_append_left _ h))))))), List.forall_mem_cons.mpr ⟨fun _ h => (List.mem_cons_of_mem _ (List.mem_append_left _ (List.mem_append_left _ (List.mem_append_left _ (List.mem_append_left _ (List.mem_append_left _ (List.mem_append_right _ (List.mem_append_left _ h)))))))), List.forall_mem_cons.mpr ⟨fun _ h => (List.mem_cons_of_mem _ (List.mem_append_left _ (List.mem_append_left _ (List.mem_append_left _ (List.mem_append_left _ (List.mem_append_left _ (List.mem_append_right _ (List.mem_append_right _ (List.mem_append_left _ h))))))))), List.forall_mem_cons.mpr ⟨fun _ h => (List.mem_cons_of_mem _ (List.mem_append_left _ (List.mem_append_left _ (List.mem_append_left _ (List.mem_append_left _ (List.mem_append_left _ (List.mem_append_right _ (List.mem_append_right _ (List.mem_append_right _ (List.mem_append_left _ h)))))))))), List.forall_mem_cons.mpr ⟨fun _ h => (List.mem_cons_of_mem _ (List.mem_append_left _ (List.mem_append_left _ (List.mem_append_left _ (List.mem_append_left _ (List.mem_append_left _ (List.mem_append_right _ (List.mem_append_right _ (List.mem_append_right _ (List.mem_append_right _ (List.mem_append_left _ h))))))))))), List.forall_mem_cons.mpr ⟨fun _ h => (List.mem_cons_of_mem _ (List.mem_append_left _ (List.mem_append_left _ (List.mem_append_left _ (List.mem_append_left _ (List.mem_append_left _ (List.mem_append_right _ (List.mem_append_right _ (List.mem_append_right _ (List.mem_append_right _ (List.mem_append_right _ h))))))))))), fun _ h => absurd h List.not_mem_nil⟩⟩⟩⟩⟩⟩⟩
set_option maxRecDepth 100000 in
theorem ck_wsX6_grant_g : ∀ w ∈ wsX6_grant, goodWord w = true := List.all_eq_true.mp (by decide +kernel)
set_option maxRecDepth 100000 in
theorem ggX6_grant_X6_isMemorySize : GoodIn wsX6_grant wsX6_isMemorySize := goodIn_2 ck_wsX6_grant [(1, 5)] ck_wsX6_grant_m ck_wsX6_grant_g rfl
set_option maxRecDepth 20000 in
theorem gX6_grant_X6_isMemorySize : GoodIn wsX6_grant (va_wsS RX6 94 yX6_isMemorySize wsX6_isMemorySize) := goodIn_app (goodIn_of _ (by decide +kernel)) ggX6_grant_X6_isMemorySize
set_option maxRecDepth 100000 in
theorem ggX6_grant_X1_remember : GoodIn wsX6_grant wsX1_remember := goodIn_ca (goodIn_ca (goodIn_ca (goodIn_ca (goodIn_2 ck_wsX6_grant [(1, 10), (1, 11), (1, 12), (1, 13), (1, 14), (1, 15), (1, 9), (1, 16), (1, 17), (1, 18), (1, 19), (1, 20), (1, 21), (1, 22), (1, 23), (2, 0), (2, 1), (2, 2), (2, 3), (2, 4), (2, 5), (2, 6), (2, 7), (2, 8), (2, 9), (2, 10), (2, 11), (2, 12), (2, 13), (2, 14), (2, 15), (2, 16), (2, 17), (2, 18), (2, 19), (2, 20), (2, 21), (2, 22), (2, 23), (3, 0), (3, 1), (3, 2), (3, 3), (3, 4), (3, 5), (3, 6), (3, 7), (3, 8), (3, 9), (3, 10), (3, 11), (3, 12), (3, 13), (3, 14), (3, 15), (3, 16), (3, 17), (3, 18)] ck_wsX6_grant_m ck_wsX6_grant_g rfl) (goodIn_b (fun _ h => (List.mem_cons_of_mem _ (List.mem_append_left _ (List.mem_append_left _ (List.mem_append_left _ (List.mem_append_right _ h)))))) ck_wsX6_grant_g)) (goodIn_b (fun _ h => (List.mem_cons_of_mem _ (List.mem_append_left _ (List.mem_append_left _ (List.mem_append_right _ h))))) ck_wsX6_grant_g)) (goodIn_b (fun _ h => (List.mem_cons_of_mem _ (List.mem_append_left _ (List.mem_append_right _ h)))) ck_wsX6_grant_g)) (goodIn_b (fun _ h => (List.mem_cons_of_mem _ (List.mem_append_right _ h))) ck_wsX6_grant_g)
set_option maxRecDepth 20000 in
theorem gX6_grant_X1_remember : GoodIn wsX6_grant (wsV RX6 61 RX1 yX1_remember wsX1_remember) := goodIn_app (goodIn_of _ (by decide +kernel)) ggX6_grant_X1_remember
set_option maxRecDepth 100000 in
theorem ggX6_grant_X5_resize : GoodIn wsX6_grant wsX5_resize := goodIn_ca (goodIn_ca (goodIn_ca (goodIn_2 ck_wsX6_grant [(3, 22), (2, 7), (2, 6), (2, 13), (2, 14), (3, 23), (4, 0), (4, 1), (4, 2), (2, 1), (4, 3), (2, 3), (2, 19), (4, 4), (4, 5), (4, 6), (4, 7), (4, 8), (4, 9), (4, 10), (4, 11), (2, 8), (4, 12), (4, 13), (4, 14), (3, 2), (4, 15), (3, 4), (4, 16), (4, 17), (4, 18), (4, 19), (4, 20), (4, 21), (4, 22), (4, 23), (3, 7), (5, 0), (5, 1), (5, 2), (5, 3), (2, 22), (2, 4), (5, 4), (5, 5), (5, 6), (3, 12), (5, 7), (3, 18), (3, 14), (3, 16), (3, 17), (5, 8), (5, 9), (5, 10), (5, 11), (5, 12), (5, 13), (5, 14), (5, 15), (5, 16), (5, 17), (5, 18), (5, 19), (2, 21), (5, 20), (5, 21), (5, 22), (5, 23), (2, 18), (2, 16), (6, 0), (6, 1), (6, 2), (6, 3), (6, 4), (6, 5), (6, 6), (6, 7), (6, 8), (6, 9), (6, 10), (6, 11)] ck_wsX6_grant_m ck_wsX6_grant_g rfl) (goodIn_b (fun _ h => (List.mem_cons_of_mem _ (List.mem_append_left _ (List.mem_append_left _ (List.mem_append_right _ h))))) ck_wsX6_grant_g)) (goodIn_b (fun _ h => (List.mem_cons_of_mem _ (List.mem_append_right _ h))) ck_wsX6_grant_g)) (goodIn_b (fun _ h => (List.mem_cons_of_mem _ (List.mem_append_left _ (List.mem_append_right _ h)))) ck_wsX6_grant_g)
set_option maxRecDepth 20000 in
theorem gX6_grant_X5_resize : GoodIn wsX6_grant (wsV RX6 97 RX5 yX5_resize wsX5_resize) := goodIn_app (goodIn_of _ (by decide +kernel)) ggX6_grant_X5_resize
theorem dX6_grant_0 : decode cX6_grant 0 = .ok (.iload_n 1, 1) := by decide +kernel
theorem dX6_grant_1 : decode cX6_grant 1 = .ok (.invokestatic 94, 3) := by decide +kernel
theorem dX6_grant_4 : decode cX6_grant 4 = .ok (.ifCond .ne 6, 3) := by decide +kernel
theorem dX6_grant_7 : decode cX6_grant 7 = .ok (.bipush (-2), 2) := by decide +kernel
theorem dX6_grant_9 : decode cX6_grant 9 = .ok (.ireturn, 1) := by decide +kernel
theorem dX6_grant_10 : decode cX6_grant 10 = .ok (.aload_n 0, 1) := by decide +kernel
theorem dX6_grant_11 : decode cX6_grant 11 = .ok (.getfield 25, 3) := by decide +kernel
theorem dX6_grant_14 : decode cX6_grant 14 = .ok (.aload_n 0, 1) := by decide +kernel
theorem dX6_grant_15 : decode cX6_grant 15 = .ok (.getfield 10, 3) := by decide +kernel
theorem dX6_grant_18 : decode cX6_grant 18 = .ok (.invokevirtual 61, 3) := by decide +kernel
theorem dX6_grant_21 : decode cX6_grant 21 = .ok (.aload_n 0, 1) := by decide +kernel
theorem dX6_grant_22 : decode cX6_grant 22 = .ok (.getfield 10, 3) := by decide +kernel
theorem dX6_grant_25 : decode cX6_grant 25 = .ok (.iload_n 1, 1) := by decide +kernel
theorem dX6_grant_26 : decode cX6_grant 26 = .ok (.invokevirtual 97, 3) := by decide +kernel
theorem dX6_grant_29 : decode cX6_grant 29 = .ok (.ireturn, 1) := by decide +kernel
set_option maxRecDepth 20000 in
theorem ggX6_memory_X5_memoryInUse : GoodIn wsX6_memory wsX5_memoryInUse := goodIn_r _ [7, 8, 9, 10, 11, 12, 13, 14, 6, 15, 32, 33, 34, 35, 36, 37, 38, 39, 40, 41, 42, 43, 44, 45, 46, 47, 48, 49, 50, 51] (by decide +kernel) (by decide +kernel)
set_option maxRecDepth 20000 in
theorem gX6_memory_X5_memoryInUse : GoodIn wsX6_memory (wsV RX6 103 RX5 yX5_memoryInUse wsX5_memoryInUse) := goodIn_app (goodIn_of _ (by decide +kernel)) ggX6_memory_X5_memoryInUse
set_option maxRecDepth 20000 in
theorem ggX6_memory_X5_ways : GoodIn wsX6_memory wsX5_ways := goodIn_r _ [19, 20, 21, 22, 23, 24, 32, 33, 34, 35, 36, 37, 38, 39, 40, 41, 42, 43, 44, 45, 46, 47] (by decide +kernel) (by decide +kernel)
set_option maxRecDepth 20000 in
theorem gX6_memory_X5_ways : GoodIn wsX6_memory (wsV RX6 106 RX5 yX5_ways wsX5_ways) := goodIn_app (goodIn_of _ (by decide +kernel)) ggX6_memory_X5_ways
theorem dX6_memory_0 : decode cX6_memory 0 = .ok (.iload_n 1, 1) := by decide +kernel
theorem dX6_memory_1 : decode cX6_memory 1 = .ok (.tableswitch 51 0 2 #[27, 35, 43], 27) := by decide +kernel
theorem dX6_memory_28 : decode cX6_memory 28 = .ok (.aload_n 0, 1) := by decide +kernel
theorem dX6_memory_29 : decode cX6_memory 29 = .ok (.getfield 10, 3) := by decide +kernel
theorem dX6_memory_32 : decode cX6_memory 32 = .ok (.getfield 100, 3) := by decide +kernel
theorem dX6_memory_35 : decode cX6_memory 35 = .ok (.ireturn, 1) := by decide +kernel
theorem dX6_memory_36 : decode cX6_memory 36 = .ok (.aload_n 0, 1) := by decide +kernel
theorem dX6_memory_37 : decode cX6_memory 37 = .ok (.getfield 10, 3) := by decide +kernel
theorem dX6_memory_40 : decode cX6_memory 40 = .ok (.invokevirtual 103, 3) := by decide +kernel
theorem dX6_memory_43 : decode cX6_memory 43 = .ok (.ireturn, 1) := by decide +kernel
theorem dX6_memory_44 : decode cX6_memory 44 = .ok (.aload_n 0, 1) := by decide +kernel
theorem dX6_memory_45 : decode cX6_memory 45 = .ok (.getfield 10, 3) := by decide +kernel
theorem dX6_memory_48 : decode cX6_memory 48 = .ok (.invokevirtual 106, 3) := by decide +kernel
theorem dX6_memory_51 : decode cX6_memory 51 = .ok (.ireturn, 1) := by decide +kernel
theorem dX6_memory_52 : decode cX6_memory 52 = .ok (.bipush (-2), 2) := by decide +kernel
theorem dX6_memory_54 : decode cX6_memory 54 = .ok (.ireturn, 1) := by decide +kernel
set_option maxRecDepth 20000 in
theorem ggX6_inMemory_X5_isInMemory : GoodIn wsX6_inMemory wsX5_isInMemory := goodIn_r _ [7, 8, 27, 28, 29, 30, 31, 32, 33, 34, 35, 36, 37, 38, 39, 40, 41, 42] (by decide +kernel) (by decide +kernel)
set_option maxRecDepth 20000 in
theorem gX6_inMemory_X5_isInMemory : GoodIn wsX6_inMemory (wsV RX6 109 RX5 yX5_isInMemory wsX5_isInMemory) := goodIn_app (goodIn_of _ (by decide +kernel)) ggX6_inMemory_X5_isInMemory
set_option maxRecDepth 20000 in
theorem ggX6_inMemory_X5_memoryRowAt : GoodIn wsX6_inMemory wsX5_memoryRowAt := goodIn_r _ [12, 13, 27, 28, 29, 30, 31, 32, 33, 34, 35, 36, 37, 38, 39, 40, 41, 42] (by decide +kernel) (by decide +kernel)
set_option maxRecDepth 20000 in
theorem gX6_inMemory_X5_memoryRowAt : GoodIn wsX6_inMemory (wsV RX6 112 RX5 yX5_memoryRowAt wsX5_memoryRowAt) := goodIn_app (goodIn_of _ (by decide +kernel)) ggX6_inMemory_X5_memoryRowAt
set_option maxRecDepth 20000 in
theorem ggX6_inMemory_X3_keyOf : GoodIn wsX6_inMemory wsX3_keyOf := goodIn_r _ [18, 19, 43, 44, 45, 46] (by decide +kernel) (by decide +kernel)
set_option maxRecDepth 20000 in
theorem gX6_inMemory_X3_keyOf : GoodIn wsX6_inMemory (wsV RX6 115 RX3 yX3_keyOf wsX3_keyOf) := goodIn_app (goodIn_of _ (by decide +kernel)) ggX6_inMemory_X3_keyOf
theorem dX6_inMemory_0 : decode cX6_inMemory 0 = .ok (.aload_n 0, 1) := by decide +kernel
theorem dX6_inMemory_1 : decode cX6_inMemory 1 = .ok (.getfield 10, 3) := by decide +kernel
theorem dX6_inMemory_4 : decode cX6_inMemory 4 = .ok (.iload_n 1, 1) := by decide +kernel
theorem dX6_inMemory_5 : decode cX6_inMemory 5 = .ok (.invokevirtual 109, 3) := by decide +kernel
theorem dX6_inMemory_8 : decode cX6_inMemory 8 = .ok (.ifCond .ne 5, 3) := by decide +kernel
theorem dX6_inMemory_11 : decode cX6_inMemory 11 = .ok (.iconst (-1), 1) := by decide +kernel
theorem dX6_inMemory_12 : decode cX6_inMemory 12 = .ok (.ireturn, 1) := by decide +kernel
theorem dX6_inMemory_13 : decode cX6_inMemory 13 = .ok (.aload_n 0, 1) := by decide +kernel
theorem dX6_inMemory_14 : decode cX6_inMemory 14 = .ok (.getfield 10, 3) := by decide +kernel
theorem dX6_inMemory_17 : decode cX6_inMemory 17 = .ok (.getfield 51, 3) := by decide +kernel
theorem dX6_inMemory_20 : decode cX6_inMemory 20 = .ok (.aload_n 0, 1) := by decide +kernel
theorem dX6_inMemory_21 : decode cX6_inMemory 21 = .ok (.getfield 10, 3) := by decide +kernel
theorem dX6_inMemory_24 : decode cX6_inMemory 24 = .ok (.iload_n 1, 1) := by decide +kernel
theorem dX6_inMemory_25 : decode cX6_inMemory 25 = .ok (.invokevirtual 112, 3) := by decide +kernel
theorem dX6_inMemory_28 : decode cX6_inMemory 28 = .ok (.invokevirtual 115, 3) := by decide +kernel
theorem dX6_inMemory_31 : decode cX6_inMemory 31 = .ok (.ireturn, 1) := by decide +kernel
def ck_wsX6_merge : List (List Cond) := [[.code yX6_merge cX6_merge 1 (some .int)], wsX6_merge_r1, wsX6_merge_r2, wsX6_merge_r3, wsX6_merge_r4, wsX6_merge_r5]
theorem ck_wsX6_merge_m : ∀ c ∈ ck_wsX6_merge, ∀ w ∈ c, w ∈ wsX6_merge := List.forall_mem_cons.mpr ⟨fun w h => List.mem_cons.mpr (Or.inl (List.mem_singleton.mp h)), List.forall_mem_cons.mpr ⟨fun _ h => (List.mem_cons_of_mem _ (List.mem_append_left _ (List.mem_append_left _ (List.mem_append_left _ (List.mem_append_left _ (List.mem_append_left _ (List.mem_append_left _ h))))))), List.forall_mem_cons.mpr ⟨fun _ h => (List.mem_cons_of_mem _ (List.mem_append_left _ (List.mem_append_left _ (List.mem_append_left _ (List.mem_append_left _ (List.mem_append_left _ (List.mem_append_right _ (List.mem_append_left _ h)))))))), List.forall_mem_cons.mpr ⟨fun _ h => (List.mem_cons_of_mem _ (List.mem_append_left _ (List.mem_append_left _ (List.mem_append_left _ (List.mem_append_left _ (List.mem_append_left _ (List.mem_append_right _ (List.mem_append_right _ (List.mem_append_left _ h))))))))), List.forall_mem_cons.mpr ⟨fun _ h => (List.mem_cons_of_mem _ (List.mem_append_left _ (List.mem_append_left _ (List.mem_append_left _ (List.mem_append_left _ (List.mem_append_left _ (List.mem_append_right _ (List.mem_append_right _ (List.mem_append_right _ (List.mem_append_left _ h)))))))))), List.forall_mem_cons.mpr ⟨fun _ h => (List.mem_cons_of_mem _ (List.mem_append_left _ (List.mem_append_left _ (List.mem_append_left _ (List.mem_append_left _ (List.mem_append_left _ (List.mem_append_right _ (List.mem_append_right _ (List.mem_append_right _ (List.mem_append_right _ h)))))))))), fun _ h => absurd h List.not_mem_nil⟩⟩⟩⟩⟩⟩
set_option maxRecDepth 100000 in
theorem ck_wsX6_merge_g : ∀ w ∈ wsX6_merge, goodWord w = true := List.all_eq_true.mp (by decide +kernel)
set_option maxRecDepth 100000 in
theorem ggX6_merge_X5_canBeginMerge : GoodIn wsX6_merge wsX5_canBeginMerge := goodIn_ca (goodIn_ca (goodIn_2 ck_wsX6_merge [(1, 6), (1, 7), (1, 8), (1, 9), (1, 10), (1, 11), (1, 12), (1, 5), (1, 13), (1, 14), (1, 15), (1, 16), (1, 17), (1, 18), (1, 19), (1, 20), (1, 21), (1, 22), (1, 23)] ck_wsX6_merge_m ck_wsX6_merge_g rfl) (goodIn_b (fun _ h => (List.mem_cons_of_mem _ (List.mem_append_left _ (List.mem_append_left _ (List.mem_append_left _ (List.mem_append_right _ h)))))) ck_wsX6_merge_g)) (goodIn_b (fun _ h => (List.mem_cons_of_mem _ (List.mem_append_left _ (List.mem_append_left _ (List.mem_append_right _ h))))) ck_wsX6_merge_g)
set_option maxRecDepth 20000 in
theorem gX6_merge_X5_canBeginMerge : GoodIn wsX6_merge (wsV RX6 118 RX5 yX5_canBeginMerge wsX5_canBeginMerge) := goodIn_app (goodIn_of _ (by decide +kernel)) ggX6_merge_X5_canBeginMerge
set_option maxRecDepth 100000 in
theorem ggX6_merge_X1_remember : GoodIn wsX6_merge wsX1_remember := goodIn_ca (goodIn_ca (goodIn_ca (goodIn_ca (goodIn_2 ck_wsX6_merge [(2, 4), (2, 5), (2, 6), (2, 7), (2, 8), (2, 9), (2, 3), (2, 10), (2, 11), (2, 12), (2, 13), (2, 14), (2, 15), (2, 16), (2, 17), (2, 18), (1, 5), (2, 19), (2, 20), (1, 8), (2, 21), (1, 7), (1, 19), (2, 22), (2, 23), (3, 0), (3, 1), (3, 2), (3, 3), (1, 14), (3, 4), (3, 5), (3, 6), (3, 7), (3, 8), (3, 9), (3, 10), (3, 11), (3, 12), (3, 13), (3, 14), (3, 15), (3, 16), (3, 17), (3, 18), (3, 19), (3, 20), (3, 21), (3, 22), (3, 23), (4, 0), (4, 1), (4, 2), (4, 3), (4, 4), (4, 5), (4, 6), (4, 7)] ck_wsX6_merge_m ck_wsX6_merge_g rfl) (goodIn_b (fun _ h => (List.mem_cons_of_mem _ (List.mem_append_left _ (List.mem_append_right _ h)))) ck_wsX6_merge_g)) (goodIn_b (fun _ h => (List.mem_cons_of_mem _ (List.mem_append_left _ (List.mem_append_left _ (List.mem_append_left _ (List.mem_append_right _ h)))))) ck_wsX6_merge_g)) (goodIn_b (fun _ h => (List.mem_cons_of_mem _ (List.mem_append_right _ h))) ck_wsX6_merge_g)) (goodIn_b (fun _ h => (List.mem_cons_of_mem _ (List.mem_append_left _ (List.mem_append_left _ (List.mem_append_right _ h))))) ck_wsX6_merge_g)
set_option maxRecDepth 20000 in
theorem gX6_merge_X1_remember : GoodIn wsX6_merge (wsV RX6 61 RX1 yX1_remember wsX1_remember) := goodIn_app (goodIn_of _ (by decide +kernel)) ggX6_merge_X1_remember
set_option maxRecDepth 100000 in
theorem ggX6_merge_X5_beginMerge : GoodIn wsX6_merge wsX5_beginMerge := goodIn_ca (goodIn_ca (goodIn_2 ck_wsX6_merge [(4, 11), (1, 8), (1, 9), (1, 20), (1, 21), (1, 22), (1, 23), (1, 14), (3, 4), (3, 9), (1, 15), (1, 16), (1, 17), (1, 5), (1, 18), (1, 19), (4, 12), (4, 13), (4, 14), (4, 1), (4, 15), (4, 7), (4, 16), (4, 17), (4, 18), (4, 19), (4, 6), (4, 20), (4, 21), (4, 22), (4, 23), (4, 3), (5, 0), (5, 1), (5, 2), (5, 3), (4, 5), (5, 4), (5, 5), (5, 6), (5, 7), (5, 8), (5, 9), (5, 10), (5, 11), (5, 12), (4, 4), (3, 0), (3, 1), (3, 2)] ck_wsX6_merge_m ck_wsX6_merge_g rfl) (goodIn_b (fun _ h => (List.mem_cons_of_mem _ (List.mem_append_left _ (List.mem_append_left _ (List.mem_append_left _ (List.mem_append_right _ h)))))) ck_wsX6_merge_g)) (goodIn_b (fun _ h => (List.mem_cons_of_mem _ (List.mem_append_left _ (List.mem_append_left _ (List.mem_append_right _ h))))) ck_wsX6_merge_g)
set_option maxRecDepth 20000 in
theorem gX6_merge_X5_beginMerge : GoodIn wsX6_merge (wsV RX6 121 RX5 yX5_beginMerge wsX5_beginMerge) := goodIn_app (goodIn_of _ (by decide +kernel)) ggX6_merge_X5_beginMerge
theorem dX6_merge_0 : decode cX6_merge 0 = .ok (.aload_n 0, 1) := by decide +kernel
theorem dX6_merge_1 : decode cX6_merge 1 = .ok (.getfield 10, 3) := by decide +kernel
theorem dX6_merge_4 : decode cX6_merge 4 = .ok (.invokevirtual 118, 3) := by decide +kernel
theorem dX6_merge_7 : decode cX6_merge 7 = .ok (.ifCond .ne 6, 3) := by decide +kernel
theorem dX6_merge_10 : decode cX6_merge 10 = .ok (.bipush (-3), 2) := by decide +kernel
theorem dX6_merge_12 : decode cX6_merge 12 = .ok (.ireturn, 1) := by decide +kernel
theorem dX6_merge_13 : decode cX6_merge 13 = .ok (.aload_n 0, 1) := by decide +kernel
theorem dX6_merge_14 : decode cX6_merge 14 = .ok (.getfield 25, 3) := by decide +kernel
theorem dX6_merge_17 : decode cX6_merge 17 = .ok (.aload_n 0, 1) := by decide +kernel
theorem dX6_merge_18 : decode cX6_merge 18 = .ok (.getfield 10, 3) := by decide +kernel
theorem dX6_merge_21 : decode cX6_merge 21 = .ok (.invokevirtual 61, 3) := by decide +kernel
theorem dX6_merge_24 : decode cX6_merge 24 = .ok (.aload_n 0, 1) := by decide +kernel
theorem dX6_merge_25 : decode cX6_merge 25 = .ok (.getfield 10, 3) := by decide +kernel
theorem dX6_merge_28 : decode cX6_merge 28 = .ok (.invokevirtual 121, 3) := by decide +kernel
theorem dX6_merge_31 : decode cX6_merge 31 = .ok (.ireturn, 1) := by decide +kernel
def ck_wsX6_step : List (List Cond) := [[.code yX6_step cX6_step 2 (some .int)], wsX6_step_r1, wsX6_step_r2, wsX6_step_r3, wsX6_step_r4, wsX6_step_r5, wsX6_step_r6]
theorem ck_wsX6_step_m : ∀ c ∈ ck_wsX6_step, ∀ w ∈ c, w ∈ wsX6_step := List.forall_mem_cons.mpr ⟨fun w h => List.mem_cons.mpr (Or.inl (List.mem_singleton.mp h)), List.forall_mem_cons.mpr ⟨fun _ h => (List.mem_cons_of_mem _ (List.mem_append_left _ (List.mem_append_left _ (List.mem_append_left _ (List.mem_append_left _ (List.mem_append_left _ (List.mem_append_left _ h))))))), List.forall_mem_cons.mpr ⟨fun _ h => (List.mem_cons_of_mem _ (List.mem_append_left _ (List.mem_append_left _ (List.mem_append_left _ (List.mem_append_left _ (List.mem_append_left _ (List.mem_append_right _ (List.mem_append_left _ h)))))))), List.forall_mem_cons.mpr ⟨fun _ h => (List.mem_cons_of_mem _ (List.mem_append_left _ (List.mem_append_left _ (List.mem_append_left _ (List.mem_append_left _ (List.mem_append_left _ (List.mem_append_right _ (List.mem_append_right _ (List.mem_append_left _ h))))))))), List.forall_mem_cons.mpr ⟨fun _ h => (List.mem_cons_of_mem _ (List.mem_append_left _ (List.mem_append_left _ (List.mem_append_left _ (List.mem_append_left _ (List.mem_append_left _ (List.mem_append_right _ (List.mem_append_right _ (List.mem_append_right _ (List.mem_append_left _ h)))))))))), List.forall_mem_cons.mpr ⟨fun _ h => (List.mem_cons_of_mem _ (List.mem_append_left _ (List.mem_append_left _ (List.mem_append_left _ (List.mem_append_left _ (List.mem_append_left _ (List.mem_append_right _ (List.mem_append_right _ (List.mem_append_right _ (List.mem_append_right _ (List.mem_append_left _ h))))))))))), List.forall_mem_cons.mpr ⟨fun _ h => (List.mem_cons_of_mem _ (List.mem_append_left _ (List.mem_append_left _ (List.mem_append_left _ (List.mem_append_left _ (List.mem_append_left _ (List.mem_append_right _ (List.mem_append_right _ (List.mem_append_right _ (List.mem_append_right _ (List.mem_append_right _ h))))))))))), fun _ h => absurd h List.not_mem_nil⟩⟩⟩⟩⟩⟩⟩
set_option maxRecDepth 100000 in
theorem ck_wsX6_step_g : ∀ w ∈ wsX6_step, goodWord w = true := List.all_eq_true.mp (by decide +kernel)
set_option maxRecDepth 100000 in
theorem ggX6_step_X5_hasMerge : GoodIn wsX6_step wsX5_hasMerge := goodIn_ca (goodIn_ca (goodIn_2 ck_wsX6_step [(1, 6), (1, 7), (1, 8)] ck_wsX6_step_m ck_wsX6_step_g rfl) (goodIn_b (fun _ h => (List.mem_cons_of_mem _ (List.mem_append_left _ (List.mem_append_left _ (List.mem_append_left _ (List.mem_append_right _ h)))))) ck_wsX6_step_g)) (goodIn_b (fun _ h => (List.mem_cons_of_mem _ (List.mem_append_left _ (List.mem_append_left _ (List.mem_append_right _ h))))) ck_wsX6_step_g)
set_option maxRecDepth 20000 in
theorem gX6_step_X5_hasMerge : GoodIn wsX6_step (wsV RX6 124 RX5 yX5_hasMerge wsX5_hasMerge) := goodIn_app (goodIn_of _ (by decide +kernel)) ggX6_step_X5_hasMerge
set_option maxRecDepth 100000 in
theorem ggX6_step_X1_remember : GoodIn wsX6_step wsX1_remember := goodIn_ca (goodIn_ca (goodIn_ca (goodIn_ca (goodIn_2 ck_wsX6_step [(1, 13), (1, 14), (1, 15), (1, 16), (1, 17), (1, 18), (1, 12), (1, 19), (1, 20), (1, 21), (1, 22), (1, 23), (2, 0), (2, 1), (2, 2), (2, 3), (1, 5), (2, 4), (2, 5), (2, 6), (2, 7), (2, 8), (2, 9), (2, 10), (2, 11), (2, 12), (2, 13), (2, 14), (2, 15), (1, 7), (2, 16), (2, 17), (2, 18), (2, 19), (2, 20), (2, 21), (2, 22), (2, 23), (3, 0), (3, 1), (3, 2), (3, 3), (3, 4), (3, 5), (3, 6), (3, 7), (3, 8), (3, 9), (3, 10), (3, 11), (3, 12), (3, 13), (3, 14), (3, 15), (3, 16), (3, 17), (3, 18), (3, 19)] ck_wsX6_step_m ck_wsX6_step_g rfl) (goodIn_b (fun _ h => (List.mem_cons_of_mem _ (List.mem_append_left _ (List.mem_append_right _ h)))) ck_wsX6_step_g)) (goodIn_b (fun _ h => (List.mem_cons_of_mem _ (List.mem_append_left _ (List.mem_append_left _ (List.mem_append_left _ (List.mem_append_right _ h)))))) ck_wsX6_step_g)) (goodIn_b (fun _ h => (List.mem_cons_of_mem _ (List.mem_append_right _ h))) ck_wsX6_step_g)) (goodIn_b (fun _ h => (List.mem_cons_of_mem _ (List.mem_append_left _ (List.mem_append_left _ (List.mem_append_right _ h))))) ck_wsX6_step_g)
set_option maxRecDepth 20000 in
theorem gX6_step_X1_remember : GoodIn wsX6_step (wsV RX6 61 RX1 yX1_remember wsX1_remember) := goodIn_app (goodIn_of _ (by decide +kernel)) ggX6_step_X1_remember
set_option maxRecDepth 100000 in
theorem ggX6_step_X5_makeSteps : GoodIn wsX6_step wsX5_makeSteps := goodIn_ca (goodIn_ca (goodIn_ca (goodIn_2 ck_wsX6_step [(3, 23), (4, 0), (1, 3), (1, 4), (1, 5), (1, 6), (1, 7), (1, 8), (4, 1), (4, 2), (4, 3), (4, 4), (2, 5), (2, 20), (2, 7), (2, 19), (2, 18), (2, 17), (4, 5), (4, 6), (4, 7), (4, 8), (4, 9), (4, 10), (4, 11), (3, 13), (4, 12), (3, 17), (4, 13), (4, 14), (4, 15), (3, 3), (4, 16), (3, 5), (4, 17), (4, 18), (4, 19), (4, 20), (3, 18), (4, 21), (4, 22), (4, 23), (5, 0), (3, 8), (5, 1), (5, 2), (5, 3), (5, 4), (5, 5), (5, 6), (5, 7), (5, 8), (3, 19), (3, 15), (3, 16), (2, 12), (2, 13), (2, 14), (5, 9), (5, 10), (5, 11), (5, 12), (5, 13), (5, 14), (5, 15), (5, 16), (3, 7), (5, 17), (5, 18), (5, 19), (5, 20), (5, 21), (5, 22), (5, 23), (6, 0), (6, 1), (6, 2), (6, 3), (6, 4), (2, 23), (2, 6), (6, 5), (6, 6), (6, 7), (6, 8)] ck_wsX6_step_m ck_wsX6_step_g rfl) (goodIn_b (fun _ h => (List.mem_cons_of_mem _ (List.mem_append_left _ (List.mem_append_left _ (List.mem_append_left _ (List.mem_append_right _ h)))))) ck_wsX6_step_g)) (goodIn_b (fun _ h => (List.mem_cons_of_mem _ (List.mem_append_left _ (List.mem_append_left _ (List.mem_append_right _ h))))) ck_wsX6_step_g)) (goodIn_b (fun _ h => (List.mem_cons_of_mem _ (List.mem_append_right _ h))) ck_wsX6_step_g)
set_option maxRecDepth 20000 in
theorem gX6_step_X5_makeSteps : GoodIn wsX6_step (wsV RX6 127 RX5 yX5_makeSteps wsX5_makeSteps) := goodIn_app (goodIn_of _ (by decide +kernel)) ggX6_step_X5_makeSteps
theorem dX6_step_0 : decode cX6_step 0 = .ok (.iload_n 1, 1) := by decide +kernel
theorem dX6_step_1 : decode cX6_step 1 = .ok (.iconst 1, 1) := by decide +kernel
theorem dX6_step_2 : decode cX6_step 2 = .ok (.if_icmp .lt 10, 3) := by decide +kernel
theorem dX6_step_5 : decode cX6_step 5 = .ok (.iload_n 1, 1) := by decide +kernel
theorem dX6_step_6 : decode cX6_step 6 = .ok (.sipush 200, 3) := by decide +kernel
theorem dX6_step_9 : decode cX6_step 9 = .ok (.if_icmp .le 6, 3) := by decide +kernel
theorem dX6_step_12 : decode cX6_step 12 = .ok (.bipush (-2), 2) := by decide +kernel
theorem dX6_step_14 : decode cX6_step 14 = .ok (.ireturn, 1) := by decide +kernel
theorem dX6_step_15 : decode cX6_step 15 = .ok (.aload_n 0, 1) := by decide +kernel
theorem dX6_step_16 : decode cX6_step 16 = .ok (.getfield 10, 3) := by decide +kernel
theorem dX6_step_19 : decode cX6_step 19 = .ok (.invokevirtual 124, 3) := by decide +kernel
theorem dX6_step_22 : decode cX6_step 22 = .ok (.ifCond .ne 6, 3) := by decide +kernel
theorem dX6_step_25 : decode cX6_step 25 = .ok (.bipush (-3), 2) := by decide +kernel
theorem dX6_step_27 : decode cX6_step 27 = .ok (.ireturn, 1) := by decide +kernel
theorem dX6_step_28 : decode cX6_step 28 = .ok (.aload_n 0, 1) := by decide +kernel
theorem dX6_step_29 : decode cX6_step 29 = .ok (.getfield 25, 3) := by decide +kernel
theorem dX6_step_32 : decode cX6_step 32 = .ok (.aload_n 0, 1) := by decide +kernel
theorem dX6_step_33 : decode cX6_step 33 = .ok (.getfield 10, 3) := by decide +kernel
theorem dX6_step_36 : decode cX6_step 36 = .ok (.invokevirtual 61, 3) := by decide +kernel
theorem dX6_step_39 : decode cX6_step 39 = .ok (.aload_n 0, 1) := by decide +kernel
theorem dX6_step_40 : decode cX6_step 40 = .ok (.getfield 10, 3) := by decide +kernel
theorem dX6_step_43 : decode cX6_step 43 = .ok (.iload_n 1, 1) := by decide +kernel
theorem dX6_step_44 : decode cX6_step 44 = .ok (.invokevirtual 127, 3) := by decide +kernel
theorem dX6_step_47 : decode cX6_step 47 = .ok (.ireturn, 1) := by decide +kernel
def ck_wsX6_run : List (List Cond) := [[.code yX6_run cX6_run 1 (some .int)], wsX6_run_r1, wsX6_run_r2, wsX6_run_r3, wsX6_run_r4, wsX6_run_r5, wsX6_run_r6, wsX6_run_r7, wsX6_run_r8]
theorem ck_wsX6_run_m : ∀ c ∈ ck_wsX6_run, ∀ w ∈ c, w ∈ wsX6_run := List.forall_mem_cons.mpr ⟨fun w h => List.mem_cons.mpr (Or.inl (List.mem_singleton.mp h)), List.forall_mem_cons.mpr ⟨fun _ h => (List.mem_cons_of_mem _ (List.mem_append_left _ (List.mem_append_left _ (List.mem_append_left _ (List.mem_append_left _ (List.mem_append_left _ (List.mem_append_left _ h))))))), List.forall_mem_cons.mpr ⟨fun _ h => (List.mem_cons_of_mem _ (List.mem_append_left _ (List.mem_append_left _ (List.mem_append_left _ (List.mem_append_left _ (List.mem_append_left _ (List.mem_append_right _ (List.mem_append_left _ h)))))))), List.forall_mem_cons.mpr ⟨fun _ h => (List.mem_cons_of_mem _ (List.mem_append_left _ (List.mem_append_left _ (List.mem_append_left _ (List.mem_append_left _ (List.mem_append_left _ (List.mem_append_right _ (List.mem_append_right _ (List.mem_append_left _ h))))))))), List.forall_mem_cons.mpr ⟨fun _ h => (List.mem_cons_of_mem _ (List.mem_append_left _ (List.mem_append_left _ (List.mem_append_left _ (List.mem_append_left _ (List.mem_append_left _ (List.mem_append_right _ (List.mem_append_right _ (List.mem_append_right _ (List.mem_append_left _ h)))))))))), List.forall_mem_cons.mpr ⟨fun _ h => (List.mem_cons_of_mem _ (List.mem_append_left _ (List.mem_append_left _ (List.mem_append_left _ (List.mem_append_left _ (List.mem_append_left _ (List.mem_append_right _ (List.mem_append_right _ (List.mem_append_right _ (List.mem_append_right _ (List.mem_append_left _ h))))))))))), List.forall_mem_cons.mpr ⟨fun _ h => (List.mem_cons_of_mem _ (List.mem_append_left _ (List.mem_append_left _ (List.mem_append_left _ (List.mem_append_left _ (List.mem_append_left _ (List.mem_append_right _ (List.mem_append_right _ (List.mem_append_right _ (List.mem_append_right _ (List.mem_append_right _ (List.mem_append_left _ h)))))))))))), List.forall_mem_cons.mpr ⟨fun _ h => (List.mem_cons_of_mem _ (List.mem_append_left _ (List.mem_append_left _ (List.mem_append_left _ (List.mem_append_left _ (List.mem_append_left _ (List.mem_append_right _ (List.mem_append_right _ (List.mem_append_right _ (List.mem_append_right _ (List.mem_append_right _ (List.mem_append_right _ (List.mem_append_left _ h))))))))))))), List.forall_mem_cons.mpr ⟨fun _ h => (List.mem_cons_of_mem _ (List.mem_append_left _ (List.mem_append_left _ (List.mem_append_left _ (List.mem_append_left _ (List.mem_append_left _ (List.mem_append_right _ (List.mem_append_right _ (List.mem_append_right _ (List.mem_append_right _ (List.mem_append_right _ (List.mem_append_right _ (List.mem_append_right _ h))))))))))))), fun _ h => absurd h List.not_mem_nil⟩⟩⟩⟩⟩⟩⟩⟩⟩
set_option maxRecDepth 100000 in
theorem ck_wsX6_run_g : ∀ w ∈ wsX6_run, goodWord w = true := List.all_eq_true.mp (by decide +kernel)
set_option maxRecDepth 100000 in
theorem ggX6_run_X5_canRunToEnd : GoodIn wsX6_run wsX5_canRunToEnd := goodIn_ca (goodIn_ca (goodIn_2 ck_wsX6_run [(1, 6), (1, 7), (1, 8), (1, 9), (1, 10), (1, 11), (1, 12), (1, 5), (1, 13), (1, 14), (1, 15), (1, 16), (1, 17), (1, 18), (1, 19), (1, 20), (1, 21), (1, 22), (1, 23)] ck_wsX6_run_m ck_wsX6_run_g rfl) (goodIn_b (fun _ h => (List.mem_cons_of_mem _ (List.mem_append_left _ (List.mem_append_left _ (List.mem_append_left _ (List.mem_append_right _ h)))))) ck_wsX6_run_g)) (goodIn_b (fun _ h => (List.mem_cons_of_mem _ (List.mem_append_left _ (List.mem_append_left _ (List.mem_append_right _ h))))) ck_wsX6_run_g)
set_option maxRecDepth 20000 in
theorem gX6_run_X5_canRunToEnd : GoodIn wsX6_run (wsV RX6 130 RX5 yX5_canRunToEnd wsX5_canRunToEnd) := goodIn_app (goodIn_of _ (by decide +kernel)) ggX6_run_X5_canRunToEnd
set_option maxRecDepth 100000 in
theorem ggX6_run_X1_remember : GoodIn wsX6_run wsX1_remember := goodIn_ca (goodIn_ca (goodIn_ca (goodIn_ca (goodIn_2 ck_wsX6_run [(2, 4), (2, 5), (2, 6), (2, 7), (2, 8), (2, 9), (2, 3), (2, 10), (2, 11), (2, 12), (2, 13), (2, 14), (2, 15), (2, 16), (2, 17), (2, 18), (1, 5), (2, 19), (2, 20), (1, 7), (2, 21), (2, 22), (1, 19), (2, 23), (3, 0), (3, 1), (3, 2), (3, 3), (1, 9), (1, 14), (3, 4), (3, 5), (3, 6), (3, 7), (3, 8), (3, 9), (3, 10), (3, 11), (3, 12), (3, 13), (3, 14), (3, 15), (3, 16), (3, 17), (3, 18), (3, 19), (3, 20), (3, 21), (3, 22), (3, 23), (4, 0), (4, 1), (4, 2), (4, 3), (4, 4), (4, 5), (4, 6), (4, 7)] ck_wsX6_run_m ck_wsX6_run_g rfl) (goodIn_b (fun _ h => (List.mem_cons_of_mem _ (List.mem_append_left _ (List.mem_append_right _ h)))) ck_wsX6_run_g)) (goodIn_b (fun _ h => (List.mem_cons_of_mem _ (List.mem_append_left _ (List.mem_append_left _ (List.mem_append_left _ (List.mem_append_right _ h)))))) ck_wsX6_run_g)) (goodIn_b (fun _ h => (List.mem_cons_of_mem _ (List.mem_append_right _ h))) ck_wsX6_run_g)) (goodIn_b (fun _ h => (List.mem_cons_of_mem _ (List.mem_append_left _ (List.mem_append_left _ (List.mem_append_right _ h))))) ck_wsX6_run_g)
set_option maxRecDepth 20000 in
theorem gX6_run_X1_remember : GoodIn wsX6_run (wsV RX6 61 RX1 yX1_remember wsX1_remember) := goodIn_app (goodIn_of _ (by decide +kernel)) ggX6_run_X1_remember
set_option maxRecDepth 100000 in
theorem ggX6_run_X5_runToEnd : GoodIn wsX6_run wsX5_runToEnd := goodIn_ca (goodIn_ca (goodIn_ca (goodIn_2 ck_wsX6_run [(4, 11), (4, 12), (4, 13), (4, 14), (1, 5), (4, 15), (2, 22), (4, 16), (4, 17), (4, 18), (4, 19), (1, 9), (2, 20), (3, 8), (4, 20), (4, 21), (4, 22), (4, 23), (5, 0), (5, 1), (5, 2), (5, 3), (2, 23), (5, 4), (5, 5), (5, 6), (3, 15), (5, 7), (3, 17), (5, 8), (5, 9), (5, 10), (5, 11), (5, 12), (5, 13), (5, 14), (5, 15), (3, 20), (5, 16), (5, 17), (5, 18), (5, 19), (3, 11), (1, 7), (5, 20), (5, 21), (5, 22), (4, 1), (5, 23), (4, 7), (4, 3), (4, 5), (4, 6), (6, 0), (6, 1), (6, 2), (6, 3), (1, 10), (1, 11), (1, 12), (1, 13), (1, 14), (1, 8), (6, 4), (6, 5), (6, 6), (6, 7), (2, 21), (3, 7), (3, 6), (3, 5), (6, 8), (6, 9), (6, 10), (6, 11), (6, 12), (6, 13), (6, 14), (6, 15), (6, 16), (6, 17), (6, 18), (6, 19), (6, 20), (6, 21), (6, 22), (6, 23), (7, 0), (7, 1), (7, 2), (7, 3), (7, 4), (7, 5), (7, 6), (7, 7), (4, 4), (3, 1), (3, 2), (3, 3), (7, 8), (7, 9), (7, 10), (7, 11), (7, 12), (7, 13), (7, 14), (7, 15), (3, 19), (7, 16), (7, 17), (7, 18), (7, 19), (7, 20), (7, 21), (7, 22), (7, 23), (1, 15), (1, 16), (1, 17), (1, 18), (1, 19), (1, 20), (1, 21), (1, 22), (1, 23), (8, 0), (8, 1), (8, 2), (8, 3), (3, 4), (3, 9), (8, 4), (8, 5), (8, 6), (8, 7), (8, 8), (8, 9), (8, 10), (8, 11), (8, 12)] ck_wsX6_run_m ck_wsX6_run_g rfl) (goodIn_b (fun _ h => (List.mem_cons_of_mem _ (List.mem_append_left _ (List.mem_append_left _ (List.mem_append_left _ (List.mem_append_right _ h)))))) ck_wsX6_run_g)) (goodIn_b (fun _ h => (List.mem_cons_of_mem _ (List.mem_append_right _ h))) ck_wsX6_run_g)) (goodIn_b (fun _ h => (List.mem_cons_of_mem _ (List.mem_append_left _ (List.mem_append_left _ (List.mem_append_right _ h))))) ck_wsX6_run_g)
set_option maxRecDepth 20000 in
theorem gX6_run_X5_runToEnd : GoodIn wsX6_run (wsV RX6 133 RX5 yX5_runToEnd wsX5_runToEnd) := goodIn_app (goodIn_of _ (by decide +kernel)) ggX6_run_X5_runToEnd
theorem dX6_run_0 : decode cX6_run 0 = .ok (.aload_n 0, 1) := by decide +kernel
theorem dX6_run_1 : decode cX6_run 1 = .ok (.getfield 10, 3) := by decide +kernel
theorem dX6_run_4 : decode cX6_run 4 = .ok (.invokevirtual 130, 3) := by decide +kernel
theorem dX6_run_7 : decode cX6_run 7 = .ok (.ifCond .ne 6, 3) := by decide +kernel
theorem dX6_run_10 : decode cX6_run 10 = .ok (.bipush (-3), 2) := by decide +kernel
theorem dX6_run_12 : decode cX6_run 12 = .ok (.ireturn, 1) := by decide +kernel
theorem dX6_run_13 : decode cX6_run 13 = .ok (.aload_n 0, 1) := by decide +kernel
theorem dX6_run_14 : decode cX6_run 14 = .ok (.getfield 25, 3) := by decide +kernel
theorem dX6_run_17 : decode cX6_run 17 = .ok (.aload_n 0, 1) := by decide +kernel
theorem dX6_run_18 : decode cX6_run 18 = .ok (.getfield 10, 3) := by decide +kernel
theorem dX6_run_21 : decode cX6_run 21 = .ok (.invokevirtual 61, 3) := by decide +kernel
theorem dX6_run_24 : decode cX6_run 24 = .ok (.aload_n 0, 1) := by decide +kernel
theorem dX6_run_25 : decode cX6_run 25 = .ok (.getfield 10, 3) := by decide +kernel
theorem dX6_run_28 : decode cX6_run 28 = .ok (.invokevirtual 133, 3) := by decide +kernel
theorem dX6_run_31 : decode cX6_run 31 = .ok (.ireturn, 1) := by decide +kernel
set_option maxRecDepth 20000 in
theorem ggX6_isMerging_X5_hasMerge : GoodIn wsX6_isMerging wsX5_hasMerge := goodIn_r _ [6, 7, 8, 20, 21, 22, 23, 24, 25, 26, 27, 28, 29, 30, 31, 32, 33, 34, 35, 36, 37, 38, 39] (by decide +kernel) (by decide +kernel)
set_option maxRecDepth 20000 in
theorem gX6_isMerging_X5_hasMerge : GoodIn wsX6_isMerging (wsV RX6 124 RX5 yX5_hasMerge wsX5_hasMerge) := goodIn_app (goodIn_of _ (by decide +kernel)) ggX6_isMerging_X5_hasMerge
set_option maxRecDepth 20000 in
theorem ggX6_isMerging_X6_asNumber : GoodIn wsX6_isMerging wsX6_asNumber := goodIn_r _ [12] (by decide +kernel) (by decide +kernel)
set_option maxRecDepth 20000 in
theorem gX6_isMerging_X6_asNumber : GoodIn wsX6_isMerging (va_wsS RX6 76 yX6_asNumber wsX6_asNumber) := goodIn_app (goodIn_of _ (by decide +kernel)) ggX6_isMerging_X6_asNumber
theorem dX6_isMerging_0 : decode cX6_isMerging 0 = .ok (.aload_n 0, 1) := by decide +kernel
theorem dX6_isMerging_1 : decode cX6_isMerging 1 = .ok (.getfield 10, 3) := by decide +kernel
theorem dX6_isMerging_4 : decode cX6_isMerging 4 = .ok (.invokevirtual 124, 3) := by decide +kernel
theorem dX6_isMerging_7 : decode cX6_isMerging 7 = .ok (.invokestatic 76, 3) := by decide +kernel
theorem dX6_isMerging_10 : decode cX6_isMerging 10 = .ok (.ireturn, 1) := by decide +kernel
set_option maxRecDepth 20000 in
theorem ggX6_isDone_X5_isSorted : GoodIn wsX6_isDone wsX5_isSorted := goodIn_r _ [6, 7, 8, 9, 10, 11, 12, 5, 13, 14, 26, 27, 28, 29, 30, 31, 32, 33, 34, 35, 36, 37, 38, 39, 40, 41, 42, 43, 44, 45] (by decide +kernel) (by decide +kernel)
set_option maxRecDepth 20000 in
theorem gX6_isDone_X5_isSorted : GoodIn wsX6_isDone (wsV RX6 136 RX5 yX5_isSorted wsX5_isSorted) := goodIn_app (goodIn_of _ (by decide +kernel)) ggX6_isDone_X5_isSorted
set_option maxRecDepth 20000 in
theorem ggX6_isDone_X6_asNumber : GoodIn wsX6_isDone wsX6_asNumber := goodIn_r _ [18] (by decide +kernel) (by decide +kernel)
set_option maxRecDepth 20000 in
theorem gX6_isDone_X6_asNumber : GoodIn wsX6_isDone (va_wsS RX6 76 yX6_asNumber wsX6_asNumber) := goodIn_app (goodIn_of _ (by decide +kernel)) ggX6_isDone_X6_asNumber
theorem dX6_isDone_0 : decode cX6_isDone 0 = .ok (.aload_n 0, 1) := by decide +kernel
theorem dX6_isDone_1 : decode cX6_isDone 1 = .ok (.getfield 10, 3) := by decide +kernel
theorem dX6_isDone_4 : decode cX6_isDone 4 = .ok (.invokevirtual 136, 3) := by decide +kernel
theorem dX6_isDone_7 : decode cX6_isDone 7 = .ok (.invokestatic 76, 3) := by decide +kernel
theorem dX6_isDone_10 : decode cX6_isDone 10 = .ok (.ireturn, 1) := by decide +kernel
set_option maxRecDepth 20000 in
theorem ggX6_ofMerge_X5_hasMerge : GoodIn wsX6_ofMerge wsX5_hasMerge := goodIn_r _ [10, 11, 12, 31, 32, 33, 34, 35, 36, 37, 38, 39, 40, 41, 42, 43, 44, 45, 46, 47, 48, 49, 50] (by decide +kernel) (by decide +kernel)
set_option maxRecDepth 20000 in
theorem gX6_ofMerge_X5_hasMerge : GoodIn wsX6_ofMerge (wsV RX6 124 RX5 yX5_hasMerge wsX5_hasMerge) := goodIn_app (goodIn_of _ (by decide +kernel)) ggX6_ofMerge_X5_hasMerge
set_option maxRecDepth 20000 in
theorem ggX6_ofMerge_X4_rowsInAll : GoodIn wsX6_ofMerge wsX4_rowsInAll := goodIn_r _ [17, 18, 19, 20, 21, 16, 22, 23, 47, 48, 49, 50] (by decide +kernel) (by decide +kernel)
set_option maxRecDepth 20000 in
theorem gX6_ofMerge_X4_rowsInAll : GoodIn wsX6_ofMerge (wsV RX6 148 RX4 yX4_rowsInAll wsX4_rowsInAll) := goodIn_app (goodIn_of _ (by decide +kernel)) ggX6_ofMerge_X4_rowsInAll
theorem dX6_ofMerge_0 : decode cX6_ofMerge 0 = .ok (.iload_n 1, 1) := by decide +kernel
theorem dX6_ofMerge_1 : decode cX6_ofMerge 1 = .ok (.ifCond .lt 8, 3) := by decide +kernel
theorem dX6_ofMerge_4 : decode cX6_ofMerge 4 = .ok (.iload_n 1, 1) := by decide +kernel
theorem dX6_ofMerge_5 : decode cX6_ofMerge 5 = .ok (.iconst 3, 1) := by decide +kernel
theorem dX6_ofMerge_6 : decode cX6_ofMerge 6 = .ok (.if_icmp .le 6, 3) := by decide +kernel
theorem dX6_ofMerge_9 : decode cX6_ofMerge 9 = .ok (.bipush (-2), 2) := by decide +kernel
theorem dX6_ofMerge_11 : decode cX6_ofMerge 11 = .ok (.ireturn, 1) := by decide +kernel
theorem dX6_ofMerge_12 : decode cX6_ofMerge 12 = .ok (.aload_n 0, 1) := by decide +kernel
theorem dX6_ofMerge_13 : decode cX6_ofMerge 13 = .ok (.getfield 10, 3) := by decide +kernel
theorem dX6_ofMerge_16 : decode cX6_ofMerge 16 = .ok (.invokevirtual 124, 3) := by decide +kernel
theorem dX6_ofMerge_19 : decode cX6_ofMerge 19 = .ok (.ifCond .ne 6, 3) := by decide +kernel
theorem dX6_ofMerge_22 : decode cX6_ofMerge 22 = .ok (.bipush (-6), 2) := by decide +kernel
theorem dX6_ofMerge_24 : decode cX6_ofMerge 24 = .ok (.ireturn, 1) := by decide +kernel
theorem dX6_ofMerge_25 : decode cX6_ofMerge 25 = .ok (.iload_n 1, 1) := by decide +kernel
theorem dX6_ofMerge_26 : decode cX6_ofMerge 26 = .ok (.tableswitch 53 0 2 #[26, 34, 45], 26) := by decide +kernel
theorem dX6_ofMerge_52 : decode cX6_ofMerge 52 = .ok (.aload_n 0, 1) := by decide +kernel
theorem dX6_ofMerge_53 : decode cX6_ofMerge 53 = .ok (.getfield 10, 3) := by decide +kernel
theorem dX6_ofMerge_56 : decode cX6_ofMerge 56 = .ok (.getfield 139, 3) := by decide +kernel
theorem dX6_ofMerge_59 : decode cX6_ofMerge 59 = .ok (.ireturn, 1) := by decide +kernel
theorem dX6_ofMerge_60 : decode cX6_ofMerge 60 = .ok (.aload_n 0, 1) := by decide +kernel
theorem dX6_ofMerge_61 : decode cX6_ofMerge 61 = .ok (.getfield 10, 3) := by decide +kernel
theorem dX6_ofMerge_64 : decode cX6_ofMerge 64 = .ok (.getfield 142, 3) := by decide +kernel
theorem dX6_ofMerge_67 : decode cX6_ofMerge 67 = .ok (.getfield 91, 3) := by decide +kernel
theorem dX6_ofMerge_70 : decode cX6_ofMerge 70 = .ok (.ireturn, 1) := by decide +kernel
theorem dX6_ofMerge_71 : decode cX6_ofMerge 71 = .ok (.aload_n 0, 1) := by decide +kernel
theorem dX6_ofMerge_72 : decode cX6_ofMerge 72 = .ok (.getfield 10, 3) := by decide +kernel
theorem dX6_ofMerge_75 : decode cX6_ofMerge 75 = .ok (.getfield 145, 3) := by decide +kernel
theorem dX6_ofMerge_78 : decode cX6_ofMerge 78 = .ok (.ireturn, 1) := by decide +kernel
theorem dX6_ofMerge_79 : decode cX6_ofMerge 79 = .ok (.aload_n 0, 1) := by decide +kernel
theorem dX6_ofMerge_80 : decode cX6_ofMerge 80 = .ok (.getfield 10, 3) := by decide +kernel
theorem dX6_ofMerge_83 : decode cX6_ofMerge 83 = .ok (.getfield 142, 3) := by decide +kernel
theorem dX6_ofMerge_86 : decode cX6_ofMerge 86 = .ok (.invokevirtual 148, 3) := by decide +kernel
theorem dX6_ofMerge_89 : decode cX6_ofMerge 89 = .ok (.ireturn, 1) := by decide +kernel
theorem dX6_runs_0 : decode cX6_runs 0 = .ok (.aload_n 0, 1) := by decide +kernel
theorem dX6_runs_1 : decode cX6_runs 1 = .ok (.getfield 10, 3) := by decide +kernel
theorem dX6_runs_4 : decode cX6_runs 4 = .ok (.getfield 87, 3) := by decide +kernel
theorem dX6_runs_7 : decode cX6_runs 7 = .ok (.getfield 91, 3) := by decide +kernel
theorem dX6_runs_10 : decode cX6_runs 10 = .ok (.ireturn, 1) := by decide +kernel
set_option maxRecDepth 20000 in
theorem ggX6_runAt_X4_has : GoodIn wsX6_runAt wsX4_has := goodIn_r _ [7, 8, 37, 38, 39, 40] (by decide +kernel) (by decide +kernel)
set_option maxRecDepth 20000 in
theorem gX6_runAt_X4_has : GoodIn wsX6_runAt (wsV RX6 151 RX4 yX4_has wsX4_has) := goodIn_app (goodIn_of _ (by decide +kernel)) ggX6_runAt_X4_has
set_option maxRecDepth 20000 in
theorem ggX6_runAt_X4_numberAt : GoodIn wsX6_runAt wsX4_numberAt := goodIn_r _ [12, 13, 37, 38, 39, 40] (by decide +kernel) (by decide +kernel)
set_option maxRecDepth 20000 in
theorem gX6_runAt_X4_numberAt : GoodIn wsX6_runAt (wsV RX6 154 RX4 yX4_numberAt wsX4_numberAt) := goodIn_app (goodIn_of _ (by decide +kernel)) ggX6_runAt_X4_numberAt
theorem dX6_runAt_0 : decode cX6_runAt 0 = .ok (.aload_n 0, 1) := by decide +kernel
theorem dX6_runAt_1 : decode cX6_runAt 1 = .ok (.getfield 10, 3) := by decide +kernel
theorem dX6_runAt_4 : decode cX6_runAt 4 = .ok (.getfield 87, 3) := by decide +kernel
theorem dX6_runAt_7 : decode cX6_runAt 7 = .ok (.iload_n 1, 1) := by decide +kernel
theorem dX6_runAt_8 : decode cX6_runAt 8 = .ok (.invokevirtual 151, 3) := by decide +kernel
theorem dX6_runAt_11 : decode cX6_runAt 11 = .ok (.ifCond .ne 5, 3) := by decide +kernel
theorem dX6_runAt_14 : decode cX6_runAt 14 = .ok (.iconst (-1), 1) := by decide +kernel
theorem dX6_runAt_15 : decode cX6_runAt 15 = .ok (.ireturn, 1) := by decide +kernel
theorem dX6_runAt_16 : decode cX6_runAt 16 = .ok (.aload_n 0, 1) := by decide +kernel
theorem dX6_runAt_17 : decode cX6_runAt 17 = .ok (.getfield 10, 3) := by decide +kernel
theorem dX6_runAt_20 : decode cX6_runAt 20 = .ok (.getfield 87, 3) := by decide +kernel
theorem dX6_runAt_23 : decode cX6_runAt 23 = .ok (.iload_n 1, 1) := by decide +kernel
theorem dX6_runAt_24 : decode cX6_runAt 24 = .ok (.invokevirtual 154, 3) := by decide +kernel
theorem dX6_runAt_27 : decode cX6_runAt 27 = .ok (.ireturn, 1) := by decide +kernel
set_option maxRecDepth 20000 in
theorem ggX6_size_X4_placeOf : GoodIn wsX6_size wsX4_placeOf := goodIn_r _ [7, 8, 9, 10, 11, 6, 12, 13, 46, 47, 48, 49] (by decide +kernel) (by decide +kernel)
set_option maxRecDepth 20000 in
theorem gX6_size_X4_placeOf : GoodIn wsX6_size (wsV RX6 157 RX4 yX4_placeOf wsX4_placeOf) := goodIn_app (goodIn_of _ (by decide +kernel)) ggX6_size_X4_placeOf
set_option maxRecDepth 20000 in
theorem ggX6_size_X4_has : GoodIn wsX6_size wsX4_has := goodIn_r _ [17, 8, 46, 47, 48, 49] (by decide +kernel) (by decide +kernel)
set_option maxRecDepth 20000 in
theorem gX6_size_X4_has : GoodIn wsX6_size (wsV RX6 151 RX4 yX4_has wsX4_has) := goodIn_app (goodIn_of _ (by decide +kernel)) ggX6_size_X4_has
set_option maxRecDepth 20000 in
theorem ggX6_size_X4_lengthAt : GoodIn wsX6_size wsX4_lengthAt := goodIn_r _ [21, 22, 46, 47, 48, 49] (by decide +kernel) (by decide +kernel)
set_option maxRecDepth 20000 in
theorem gX6_size_X4_lengthAt : GoodIn wsX6_size (wsV RX6 160 RX4 yX4_lengthAt wsX4_lengthAt) := goodIn_app (goodIn_of _ (by decide +kernel)) ggX6_size_X4_lengthAt
theorem dX6_size_0 : decode cX6_size 0 = .ok (.aload_n 0, 1) := by decide +kernel
theorem dX6_size_1 : decode cX6_size 1 = .ok (.getfield 10, 3) := by decide +kernel
theorem dX6_size_4 : decode cX6_size 4 = .ok (.getfield 87, 3) := by decide +kernel
theorem dX6_size_7 : decode cX6_size 7 = .ok (.iload_n 1, 1) := by decide +kernel
theorem dX6_size_8 : decode cX6_size 8 = .ok (.invokevirtual 157, 3) := by decide +kernel
theorem dX6_size_11 : decode cX6_size 11 = .ok (.istore_n 2, 1) := by decide +kernel
theorem dX6_size_12 : decode cX6_size 12 = .ok (.aload_n 0, 1) := by decide +kernel
theorem dX6_size_13 : decode cX6_size 13 = .ok (.getfield 10, 3) := by decide +kernel
theorem dX6_size_16 : decode cX6_size 16 = .ok (.getfield 87, 3) := by decide +kernel
theorem dX6_size_19 : decode cX6_size 19 = .ok (.iload_n 2, 1) := by decide +kernel
theorem dX6_size_20 : decode cX6_size 20 = .ok (.invokevirtual 151, 3) := by decide +kernel
theorem dX6_size_23 : decode cX6_size 23 = .ok (.ifCond .ne 5, 3) := by decide +kernel
theorem dX6_size_26 : decode cX6_size 26 = .ok (.iconst (-1), 1) := by decide +kernel
theorem dX6_size_27 : decode cX6_size 27 = .ok (.ireturn, 1) := by decide +kernel
theorem dX6_size_28 : decode cX6_size 28 = .ok (.aload_n 0, 1) := by decide +kernel
theorem dX6_size_29 : decode cX6_size 29 = .ok (.getfield 10, 3) := by decide +kernel
theorem dX6_size_32 : decode cX6_size 32 = .ok (.getfield 87, 3) := by decide +kernel
theorem dX6_size_35 : decode cX6_size 35 = .ok (.iload_n 2, 1) := by decide +kernel
theorem dX6_size_36 : decode cX6_size 36 = .ok (.invokevirtual 160, 3) := by decide +kernel
theorem dX6_size_39 : decode cX6_size 39 = .ok (.ireturn, 1) := by decide +kernel
def ck_wsX6_row : List (List Cond) := [[.code yX6_row cX6_row 5 (some .int)], wsX6_row_r1, wsX6_row_r2, wsX6_row_r3]
theorem ck_wsX6_row_m : ∀ c ∈ ck_wsX6_row, ∀ w ∈ c, w ∈ wsX6_row := List.forall_mem_cons.mpr ⟨fun w h => List.mem_cons.mpr (Or.inl (List.mem_singleton.mp h)), List.forall_mem_cons.mpr ⟨fun _ h => (List.mem_cons_of_mem _ (List.mem_append_left _ (List.mem_append_left _ (List.mem_append_left _ (List.mem_append_left _ (List.mem_append_left _ h)))))), List.forall_mem_cons.mpr ⟨fun _ h => (List.mem_cons_of_mem _ (List.mem_append_left _ (List.mem_append_left _ (List.mem_append_left _ (List.mem_append_left _ (List.mem_append_right _ (List.mem_append_left _ h))))))), List.forall_mem_cons.mpr ⟨fun _ h => (List.mem_cons_of_mem _ (List.mem_append_left _ (List.mem_append_left _ (List.mem_append_left _ (List.mem_append_left _ (List.mem_append_right _ (List.mem_append_right _ h))))))), fun _ h => absurd h List.not_mem_nil⟩⟩⟩⟩
set_option maxRecDepth 100000 in
theorem ck_wsX6_row_g : ∀ w ∈ wsX6_row, goodWord w = true := List.all_eq_true.mp (by decide +kernel)
set_option maxRecDepth 100000 in
theorem ggX6_row_X5_rowOfRun : GoodIn wsX6_row wsX5_rowOfRun := goodIn_ca (goodIn_ca (goodIn_ca (goodIn_2 ck_wsX6_row [(1, 6), (1, 7), (1, 8), (1, 9), (1, 10), (1, 11), (1, 12), (1, 13), (1, 14), (1, 15), (1, 16), (1, 17), (1, 18), (1, 19), (1, 20), (1, 21), (1, 22), (1, 23), (2, 0), (2, 1), (2, 2), (2, 3), (2, 4), (2, 5), (2, 6), (2, 7), (2, 8), (2, 9), (2, 10), (2, 11), (2, 12), (2, 13), (2, 14), (2, 15)] ck_wsX6_row_m ck_wsX6_row_g rfl) (goodIn_b (fun _ h => (List.mem_cons_of_mem _ (List.mem_append_left _ (List.mem_append_left _ (List.mem_append_right _ h))))) ck_wsX6_row_g)) (goodIn_b (fun _ h => (List.mem_cons_of_mem _ (List.mem_append_left _ (List.mem_append_right _ h)))) ck_wsX6_row_g)) (goodIn_b (fun _ h => (List.mem_cons_of_mem _ (List.mem_append_right _ h))) ck_wsX6_row_g)
set_option maxRecDepth 20000 in
theorem gX6_row_X5_rowOfRun : GoodIn wsX6_row (wsV RX6 163 RX5 yX5_rowOfRun wsX5_rowOfRun) := goodIn_app (goodIn_of _ (by decide +kernel)) ggX6_row_X5_rowOfRun
set_option maxRecDepth 100000 in
theorem ggX6_row_X3_has : GoodIn wsX6_row wsX3_has := goodIn_ca (goodIn_2 ck_wsX6_row [(2, 19), (2, 20)] ck_wsX6_row_m ck_wsX6_row_g rfl) (goodIn_b (fun _ h => (List.mem_cons_of_mem _ (List.mem_append_right _ h))) ck_wsX6_row_g)
set_option maxRecDepth 20000 in
theorem gX6_row_X3_has : GoodIn wsX6_row (wsV RX6 167 RX3 yX3_has wsX3_has) := goodIn_app (goodIn_of _ (by decide +kernel)) ggX6_row_X3_has
set_option maxRecDepth 100000 in
theorem ggX6_row_X3_keyOf : GoodIn wsX6_row wsX3_keyOf := goodIn_ca (goodIn_2 ck_wsX6_row [(3, 0), (3, 1)] ck_wsX6_row_m ck_wsX6_row_g rfl) (goodIn_b (fun _ h => (List.mem_cons_of_mem _ (List.mem_append_right _ h))) ck_wsX6_row_g)
set_option maxRecDepth 20000 in
theorem gX6_row_X3_keyOf : GoodIn wsX6_row (wsV RX6 115 RX3 yX3_keyOf wsX3_keyOf) := goodIn_app (goodIn_of _ (by decide +kernel)) ggX6_row_X3_keyOf
set_option maxRecDepth 100000 in
theorem ggX6_row_X3_countOf : GoodIn wsX6_row wsX3_countOf := goodIn_ca (goodIn_2 ck_wsX6_row [(3, 5), (3, 6)] ck_wsX6_row_m ck_wsX6_row_g rfl) (goodIn_b (fun _ h => (List.mem_cons_of_mem _ (List.mem_append_right _ h))) ck_wsX6_row_g)
set_option maxRecDepth 20000 in
theorem gX6_row_X3_countOf : GoodIn wsX6_row (wsV RX6 168 RX3 yX3_countOf wsX3_countOf) := goodIn_app (goodIn_of _ (by decide +kernel)) ggX6_row_X3_countOf
theorem dX6_row_0 : decode cX6_row 0 = .ok (.aload_n 0, 1) := by decide +kernel
theorem dX6_row_1 : decode cX6_row 1 = .ok (.getfield 10, 3) := by decide +kernel
theorem dX6_row_4 : decode cX6_row 4 = .ok (.iload_n 1, 1) := by decide +kernel
theorem dX6_row_5 : decode cX6_row 5 = .ok (.iload_n 2, 1) := by decide +kernel
theorem dX6_row_6 : decode cX6_row 6 = .ok (.invokevirtual 163, 3) := by decide +kernel
theorem dX6_row_9 : decode cX6_row 9 = .ok (.istore 4, 2) := by decide +kernel
theorem dX6_row_11 : decode cX6_row 11 = .ok (.aload_n 0, 1) := by decide +kernel
theorem dX6_row_12 : decode cX6_row 12 = .ok (.getfield 10, 3) := by decide +kernel
theorem dX6_row_15 : decode cX6_row 15 = .ok (.getfield 51, 3) := by decide +kernel
theorem dX6_row_18 : decode cX6_row 18 = .ok (.iload 4, 2) := by decide +kernel
theorem dX6_row_20 : decode cX6_row 20 = .ok (.invokevirtual 167, 3) := by decide +kernel
theorem dX6_row_23 : decode cX6_row 23 = .ok (.ifCond .ne 5, 3) := by decide +kernel
theorem dX6_row_26 : decode cX6_row 26 = .ok (.iconst (-1), 1) := by decide +kernel
theorem dX6_row_27 : decode cX6_row 27 = .ok (.ireturn, 1) := by decide +kernel
theorem dX6_row_28 : decode cX6_row 28 = .ok (.iload_n 3, 1) := by decide +kernel
theorem dX6_row_29 : decode cX6_row 29 = .ok (.tableswitch 56 0 2 #[27, 40, 43], 27) := by decide +kernel
theorem dX6_row_56 : decode cX6_row 56 = .ok (.aload_n 0, 1) := by decide +kernel
theorem dX6_row_57 : decode cX6_row 57 = .ok (.getfield 10, 3) := by decide +kernel
theorem dX6_row_60 : decode cX6_row 60 = .ok (.getfield 51, 3) := by decide +kernel
theorem dX6_row_63 : decode cX6_row 63 = .ok (.iload 4, 2) := by decide +kernel
theorem dX6_row_65 : decode cX6_row 65 = .ok (.invokevirtual 115, 3) := by decide +kernel
theorem dX6_row_68 : decode cX6_row 68 = .ok (.ireturn, 1) := by decide +kernel
theorem dX6_row_69 : decode cX6_row 69 = .ok (.iload 4, 2) := by decide +kernel
theorem dX6_row_71 : decode cX6_row 71 = .ok (.ireturn, 1) := by decide +kernel
theorem dX6_row_72 : decode cX6_row 72 = .ok (.aload_n 0, 1) := by decide +kernel
theorem dX6_row_73 : decode cX6_row 73 = .ok (.getfield 10, 3) := by decide +kernel
theorem dX6_row_76 : decode cX6_row 76 = .ok (.getfield 51, 3) := by decide +kernel
theorem dX6_row_79 : decode cX6_row 79 = .ok (.iload 4, 2) := by decide +kernel
theorem dX6_row_81 : decode cX6_row 81 = .ok (.invokevirtual 168, 3) := by decide +kernel
theorem dX6_row_84 : decode cX6_row 84 = .ok (.ireturn, 1) := by decide +kernel
theorem dX6_row_85 : decode cX6_row 85 = .ok (.bipush (-2), 2) := by decide +kernel
theorem dX6_row_87 : decode cX6_row 87 = .ok (.ireturn, 1) := by decide +kernel
def ck_wsX6_count : List (List Cond) := [[.code yX6_count cX6_count 2 (some .int)], wsX6_count_r1, wsX6_count_r2]
theorem ck_wsX6_count_m : ∀ c ∈ ck_wsX6_count, ∀ w ∈ c, w ∈ wsX6_count := List.forall_mem_cons.mpr ⟨fun w h => List.mem_cons.mpr (Or.inl (List.mem_singleton.mp h)), List.forall_mem_cons.mpr ⟨fun _ h => (List.mem_cons_of_mem _ (List.mem_append_left _ (List.mem_append_left _ (List.mem_append_left _ (List.mem_append_left _ h))))), List.forall_mem_cons.mpr ⟨fun _ h => (List.mem_cons_of_mem _ (List.mem_append_left _ (List.mem_append_left _ (List.mem_append_left _ (List.mem_append_right _ h))))), fun _ h => absurd h List.not_mem_nil⟩⟩⟩
set_option maxRecDepth 100000 in
theorem ck_wsX6_count_g : ∀ w ∈ wsX6_count, goodWord w = true := List.all_eq_true.mp (by decide +kernel)
set_option maxRecDepth 100000 in
theorem ggX6_count_X3_rowsKept : GoodIn wsX6_count wsX3_rowsKept := goodIn_ca (goodIn_2 ck_wsX6_count [(1, 11), (1, 12), (1, 13), (1, 14), (1, 15), (1, 10), (1, 16), (1, 17)] ck_wsX6_count_m ck_wsX6_count_g rfl) (goodIn_b (fun _ h => (List.mem_cons_of_mem _ (List.mem_append_right _ h))) ck_wsX6_count_g)
set_option maxRecDepth 20000 in
theorem gX6_count_X3_rowsKept : GoodIn wsX6_count (wsV RX6 171 RX3 yX3_rowsKept wsX3_rowsKept) := goodIn_app (goodIn_of _ (by decide +kernel)) ggX6_count_X3_rowsKept
set_option maxRecDepth 100000 in
theorem ggX6_count_X3_countsBelow : GoodIn wsX6_count wsX3_countsBelow := goodIn_ca (goodIn_2 ck_wsX6_count [(1, 21), (1, 12), (1, 22), (1, 23), (2, 0), (1, 10), (2, 1), (2, 2), (1, 13), (1, 14), (1, 15), (1, 16), (1, 17)] ck_wsX6_count_m ck_wsX6_count_g rfl) (goodIn_b (fun _ h => (List.mem_cons_of_mem _ (List.mem_append_right _ h))) ck_wsX6_count_g)
set_option maxRecDepth 20000 in
theorem gX6_count_X3_countsBelow : GoodIn wsX6_count (wsV RX6 174 RX3 yX3_countsBelow wsX3_countsBelow) := goodIn_app (goodIn_of _ (by decide +kernel)) ggX6_count_X3_countsBelow
theorem dX6_count_0 : decode cX6_count 0 = .ok (.iload_n 1, 1) := by decide +kernel
theorem dX6_count_1 : decode cX6_count 1 = .ok (.tableswitch 111 0 6 #[43, 54, 65, 79, 87, 95, 103], 43) := by decide +kernel
theorem dX6_count_44 : decode cX6_count 44 = .ok (.aload_n 0, 1) := by decide +kernel
theorem dX6_count_45 : decode cX6_count 45 = .ok (.getfield 10, 3) := by decide +kernel
theorem dX6_count_48 : decode cX6_count 48 = .ok (.getfield 51, 3) := by decide +kernel
theorem dX6_count_51 : decode cX6_count 51 = .ok (.getfield 69, 3) := by decide +kernel
theorem dX6_count_54 : decode cX6_count 54 = .ok (.ireturn, 1) := by decide +kernel
theorem dX6_count_55 : decode cX6_count 55 = .ok (.aload_n 0, 1) := by decide +kernel
theorem dX6_count_56 : decode cX6_count 56 = .ok (.getfield 10, 3) := by decide +kernel
theorem dX6_count_59 : decode cX6_count 59 = .ok (.getfield 51, 3) := by decide +kernel
theorem dX6_count_62 : decode cX6_count 62 = .ok (.invokevirtual 171, 3) := by decide +kernel
theorem dX6_count_65 : decode cX6_count 65 = .ok (.ireturn, 1) := by decide +kernel
theorem dX6_count_66 : decode cX6_count 66 = .ok (.aload_n 0, 1) := by decide +kernel
theorem dX6_count_67 : decode cX6_count 67 = .ok (.getfield 10, 3) := by decide +kernel
theorem dX6_count_70 : decode cX6_count 70 = .ok (.getfield 51, 3) := by decide +kernel
theorem dX6_count_73 : decode cX6_count 73 = .ok (.sipush 1000, 3) := by decide +kernel
theorem dX6_count_76 : decode cX6_count 76 = .ok (.invokevirtual 174, 3) := by decide +kernel
theorem dX6_count_79 : decode cX6_count 79 = .ok (.ireturn, 1) := by decide +kernel
theorem dX6_count_80 : decode cX6_count 80 = .ok (.aload_n 0, 1) := by decide +kernel
theorem dX6_count_81 : decode cX6_count 81 = .ok (.getfield 10, 3) := by decide +kernel
theorem dX6_count_84 : decode cX6_count 84 = .ok (.getfield 177, 3) := by decide +kernel
theorem dX6_count_87 : decode cX6_count 87 = .ok (.ireturn, 1) := by decide +kernel
theorem dX6_count_88 : decode cX6_count 88 = .ok (.aload_n 0, 1) := by decide +kernel
theorem dX6_count_89 : decode cX6_count 89 = .ok (.getfield 10, 3) := by decide +kernel
theorem dX6_count_92 : decode cX6_count 92 = .ok (.getfield 180, 3) := by decide +kernel
theorem dX6_count_95 : decode cX6_count 95 = .ok (.ireturn, 1) := by decide +kernel
theorem dX6_count_96 : decode cX6_count 96 = .ok (.aload_n 0, 1) := by decide +kernel
theorem dX6_count_97 : decode cX6_count 97 = .ok (.getfield 10, 3) := by decide +kernel
theorem dX6_count_100 : decode cX6_count 100 = .ok (.getfield 183, 3) := by decide +kernel
theorem dX6_count_103 : decode cX6_count 103 = .ok (.ireturn, 1) := by decide +kernel
theorem dX6_count_104 : decode cX6_count 104 = .ok (.aload_n 0, 1) := by decide +kernel
theorem dX6_count_105 : decode cX6_count 105 = .ok (.getfield 10, 3) := by decide +kernel
theorem dX6_count_108 : decode cX6_count 108 = .ok (.getfield 186, 3) := by decide +kernel
theorem dX6_count_111 : decode cX6_count 111 = .ok (.ireturn, 1) := by decide +kernel
theorem dX6_count_112 : decode cX6_count 112 = .ok (.bipush (-2), 2) := by decide +kernel
theorem dX6_count_114 : decode cX6_count 114 = .ok (.ireturn, 1) := by decide +kernel
set_option maxRecDepth 20000 in
theorem ggX6_rank_X6_isKey : GoodIn wsX6_rank wsX6_isKey := goodIn_r _ [6] (by decide +kernel) (by decide +kernel)
set_option maxRecDepth 20000 in
theorem gX6_rank_X6_isKey : GoodIn wsX6_rank (va_wsS RX6 43 yX6_isKey wsX6_isKey) := goodIn_app (goodIn_of _ (by decide +kernel)) ggX6_rank_X6_isKey
set_option maxRecDepth 20000 in
theorem ggX6_rank_X3_countsBelow : GoodIn wsX6_rank wsX3_countsBelow := goodIn_r _ [11, 12, 13, 14, 15, 10, 16, 17, 18, 19, 20, 21, 22, 46, 47, 48, 49] (by decide +kernel) (by decide +kernel)
set_option maxRecDepth 20000 in
theorem gX6_rank_X3_countsBelow : GoodIn wsX6_rank (wsV RX6 174 RX3 yX3_countsBelow wsX3_countsBelow) := goodIn_app (goodIn_of _ (by decide +kernel)) ggX6_rank_X3_countsBelow
theorem dX6_rank_0 : decode cX6_rank 0 = .ok (.iload_n 1, 1) := by decide +kernel
theorem dX6_rank_1 : decode cX6_rank 1 = .ok (.invokestatic 43, 3) := by decide +kernel
theorem dX6_rank_4 : decode cX6_rank 4 = .ok (.ifCond .ne 6, 3) := by decide +kernel
theorem dX6_rank_7 : decode cX6_rank 7 = .ok (.bipush (-2), 2) := by decide +kernel
theorem dX6_rank_9 : decode cX6_rank 9 = .ok (.ireturn, 1) := by decide +kernel
theorem dX6_rank_10 : decode cX6_rank 10 = .ok (.aload_n 0, 1) := by decide +kernel
theorem dX6_rank_11 : decode cX6_rank 11 = .ok (.getfield 10, 3) := by decide +kernel
theorem dX6_rank_14 : decode cX6_rank 14 = .ok (.getfield 51, 3) := by decide +kernel
theorem dX6_rank_17 : decode cX6_rank 17 = .ok (.iload_n 1, 1) := by decide +kernel
theorem dX6_rank_18 : decode cX6_rank 18 = .ok (.invokevirtual 174, 3) := by decide +kernel
theorem dX6_rank_21 : decode cX6_rank 21 = .ok (.ireturn, 1) := by decide +kernel
def ck_wsX6_costsWith : List (List Cond) := [[.code yX6_costsWith cX6_costsWith 2 (some .int)], wsX6_costsWith_r1, wsX6_costsWith_r2, wsX6_costsWith_r3, wsX6_costsWith_r4, wsX6_costsWith_r5, wsX6_costsWith_r6, wsX6_costsWith_r7, wsX6_costsWith_r8]
theorem ck_wsX6_costsWith_m : ∀ c ∈ ck_wsX6_costsWith, ∀ w ∈ c, w ∈ wsX6_costsWith := List.forall_mem_cons.mpr ⟨fun w h => List.mem_cons.mpr (Or.inl (List.mem_singleton.mp h)), List.forall_mem_cons.mpr ⟨fun _ h => (List.mem_cons_of_mem _ (List.mem_append_left _ (List.mem_append_left _ (List.mem_append_left _ (List.mem_append_left _ (List.mem_append_left _ h)))))), List.forall_mem_cons.mpr ⟨fun _ h => (List.mem_cons_of_mem _ (List.mem_append_left _ (List.mem_append_left _ (List.mem_append_left _ (List.mem_append_left _ (List.mem_append_right _ (List.mem_append_left _ h))))))), List.forall_mem_cons.mpr ⟨fun _ h => (List.mem_cons_of_mem _ (List.mem_append_left _ (List.mem_append_left _ (List.mem_append_left _ (List.mem_append_left _ (List.mem_append_right _ (List.mem_append_right _ (List.mem_append_left _ h)))))))), List.forall_mem_cons.mpr ⟨fun _ h => (List.mem_cons_of_mem _ (List.mem_append_left _ (List.mem_append_left _ (List.mem_append_left _ (List.mem_append_left _ (List.mem_append_right _ (List.mem_append_right _ (List.mem_append_right _ (List.mem_append_left _ h))))))))), List.forall_mem_cons.mpr ⟨fun _ h => (List.mem_cons_of_mem _ (List.mem_append_left _ (List.mem_append_left _ (List.mem_append_left _ (List.mem_append_left _ (List.mem_append_right _ (List.mem_append_right _ (List.mem_append_right _ (List.mem_append_right _ (List.mem_append_left _ h)))))))))), List.forall_mem_cons.mpr ⟨fun _ h => (List.mem_cons_of_mem _ (List.mem_append_left _ (List.mem_append_left _ (List.mem_append_left _ (List.mem_append_left _ (List.mem_append_right _ (List.mem_append_right _ (List.mem_append_right _ (List.mem_append_right _ (List.mem_append_right _ (List.mem_append_left _ h))))))))))), List.forall_mem_cons.mpr ⟨fun _ h => (List.mem_cons_of_mem _ (List.mem_append_left _ (List.mem_append_left _ (List.mem_append_left _ (List.mem_append_left _ (List.mem_append_right _ (List.mem_append_right _ (List.mem_append_right _ (List.mem_append_right _ (List.mem_append_right _ (List.mem_append_right _ (List.mem_append_left _ h)))))))))))), List.forall_mem_cons.mpr ⟨fun _ h => (List.mem_cons_of_mem _ (List.mem_append_left _ (List.mem_append_left _ (List.mem_append_left _ (List.mem_append_left _ (List.mem_append_right _ (List.mem_append_right _ (List.mem_append_right _ (List.mem_append_right _ (List.mem_append_right _ (List.mem_append_right _ (List.mem_append_right _ h)))))))))))), fun _ h => absurd h List.not_mem_nil⟩⟩⟩⟩⟩⟩⟩⟩⟩
set_option maxRecDepth 100000 in
theorem ck_wsX6_costsWith_g : ∀ w ∈ wsX6_costsWith, goodWord w = true := List.all_eq_true.mp (by decide +kernel)
set_option maxRecDepth 100000 in
theorem ggX6_costsWith_X6_isMemorySize : GoodIn wsX6_costsWith wsX6_isMemorySize := goodIn_2 ck_wsX6_costsWith [(1, 6)] ck_wsX6_costsWith_m ck_wsX6_costsWith_g rfl
set_option maxRecDepth 20000 in
theorem gX6_costsWith_X6_isMemorySize : GoodIn wsX6_costsWith (va_wsS RX6 94 yX6_isMemorySize wsX6_isMemorySize) := goodIn_app (goodIn_of _ (by decide +kernel)) ggX6_costsWith_X6_isMemorySize
set_option maxRecDepth 100000 in
theorem ggX6_costsWith_X6_foretell : GoodIn wsX6_costsWith wsX6_foretell := goodIn_ca (goodIn_ca (goodIn_ca (goodIn_ca (goodIn_2 ck_wsX6_costsWith [(1, 10), (1, 0), (1, 2), (1, 11), (1, 12), (1, 13), (1, 14), (1, 15), (1, 16), (1, 17), (1, 18), (1, 19), (1, 20), (1, 21), (1, 22), (1, 23), (2, 0), (2, 1), (2, 2), (2, 3), (2, 4), (2, 5), (2, 6), (2, 7), (2, 8), (2, 9), (2, 10), (2, 11), (2, 12), (2, 13), (2, 14), (2, 15), (2, 16), (2, 17), (2, 18), (2, 19), (2, 20), (2, 21), (2, 22), (2, 23), (3, 0), (3, 1), (3, 2), (3, 3), (3, 4), (3, 5), (3, 6), (3, 7), (3, 8), (3, 9), (3, 10), (3, 11), (3, 12), (3, 13), (3, 14), (3, 15), (3, 16), (3, 17), (3, 18), (3, 19), (3, 20), (3, 21), (3, 22), (3, 23), (4, 0), (4, 1), (4, 2), (4, 3), (4, 4), (4, 5), (4, 6), (4, 7), (4, 8), (4, 9), (4, 10), (4, 11), (4, 12), (4, 13), (4, 14), (4, 15), (4, 16), (4, 17), (4, 18), (4, 19), (4, 20), (4, 21), (4, 22), (4, 23), (5, 0), (5, 1), (5, 2), (5, 3), (5, 4), (5, 5), (5, 6), (5, 7), (5, 8), (5, 9), (5, 10), (5, 11), (5, 12), (5, 13), (5, 14), (5, 15), (5, 16), (5, 17), (5, 18), (5, 19), (5, 20), (5, 21), (5, 22), (5, 23), (6, 0), (6, 1), (6, 2), (6, 3), (6, 4), (6, 5), (6, 6), (6, 7), (6, 8), (6, 9), (6, 10), (6, 11), (6, 12), (6, 13), (6, 14), (6, 15), (6, 16), (6, 17), (6, 18), (6, 19), (6, 20), (6, 21), (6, 22), (6, 23), (7, 0), (7, 1), (7, 2), (7, 3), (7, 4), (7, 5), (7, 6), (7, 7), (7, 8), (7, 9), (7, 10), (7, 11), (7, 12), (7, 13), (7, 14), (7, 15), (7, 16), (7, 17), (7, 18), (7, 19), (7, 20), (7, 21), (7, 22), (7, 23), (8, 0), (8, 1), (8, 2), (8, 3), (8, 4), (8, 5), (8, 6), (8, 7), (8, 8), (8, 9), (8, 10), (8, 11), (8, 12), (8, 13), (8, 14), (8, 15), (8, 16), (8, 17)] ck_wsX6_costsWith_m ck_wsX6_costsWith_g rfl) (goodIn_b (fun _ h => (List.mem_cons_of_mem _ (List.mem_append_left _ (List.mem_append_left _ (List.mem_append_left _ (List.mem_append_right _ h)))))) ck_wsX6_costsWith_g)) (goodIn_b (fun _ h => (List.mem_cons_of_mem _ (List.mem_append_left _ (List.mem_append_left _ (List.mem_append_right _ h))))) ck_wsX6_costsWith_g)) (goodIn_b (fun _ h => (List.mem_cons_of_mem _ (List.mem_append_left _ (List.mem_append_right _ h)))) ck_wsX6_costsWith_g)) (goodIn_b (fun _ h => (List.mem_cons_of_mem _ (List.mem_append_right _ h))) ck_wsX6_costsWith_g)
set_option maxRecDepth 20000 in
theorem gX6_costsWith_X6_foretell : GoodIn wsX6_costsWith (wsV RX6 189 RX6 yX6_foretell wsX6_foretell) := goodIn_app (goodIn_of _ (by decide +kernel)) ggX6_costsWith_X6_foretell
theorem dX6_costsWith_0 : decode cX6_costsWith 0 = .ok (.iload_n 1, 1) := by decide +kernel
theorem dX6_costsWith_1 : decode cX6_costsWith 1 = .ok (.invokestatic 94, 3) := by decide +kernel
theorem dX6_costsWith_4 : decode cX6_costsWith 4 = .ok (.ifCond .ne 6, 3) := by decide +kernel
theorem dX6_costsWith_7 : decode cX6_costsWith 7 = .ok (.bipush (-2), 2) := by decide +kernel
theorem dX6_costsWith_9 : decode cX6_costsWith 9 = .ok (.ireturn, 1) := by decide +kernel
theorem dX6_costsWith_10 : decode cX6_costsWith 10 = .ok (.aload_n 0, 1) := by decide +kernel
theorem dX6_costsWith_11 : decode cX6_costsWith 11 = .ok (.iload_n 1, 1) := by decide +kernel
theorem dX6_costsWith_12 : decode cX6_costsWith 12 = .ok (.invokevirtual 189, 3) := by decide +kernel
theorem dX6_costsWith_15 : decode cX6_costsWith 15 = .ok (.ifCond .ne 6, 3) := by decide +kernel
theorem dX6_costsWith_18 : decode cX6_costsWith 18 = .ok (.bipush (-3), 2) := by decide +kernel
theorem dX6_costsWith_20 : decode cX6_costsWith 20 = .ok (.ireturn, 1) := by decide +kernel
theorem dX6_costsWith_21 : decode cX6_costsWith 21 = .ok (.aload_n 0, 1) := by decide +kernel
theorem dX6_costsWith_22 : decode cX6_costsWith 22 = .ok (.getfield 16, 3) := by decide +kernel
theorem dX6_costsWith_25 : decode cX6_costsWith 25 = .ok (.getfield 177, 3) := by decide +kernel
theorem dX6_costsWith_28 : decode cX6_costsWith 28 = .ok (.aload_n 0, 1) := by decide +kernel
theorem dX6_costsWith_29 : decode cX6_costsWith 29 = .ok (.getfield 10, 3) := by decide +kernel
theorem dX6_costsWith_32 : decode cX6_costsWith 32 = .ok (.getfield 177, 3) := by decide +kernel
theorem dX6_costsWith_35 : decode cX6_costsWith 35 = .ok (.isub, 1) := by decide +kernel
theorem dX6_costsWith_36 : decode cX6_costsWith 36 = .ok (.ireturn, 1) := by decide +kernel
def ck_wsX6_mergesWith : List (List Cond) := [[.code yX6_mergesWith cX6_mergesWith 2 (some .int)], wsX6_mergesWith_r1, wsX6_mergesWith_r2, wsX6_mergesWith_r3, wsX6_mergesWith_r4, wsX6_mergesWith_r5, wsX6_mergesWith_r6, wsX6_mergesWith_r7, wsX6_mergesWith_r8]
theorem ck_wsX6_mergesWith_m : ∀ c ∈ ck_wsX6_mergesWith, ∀ w ∈ c, w ∈ wsX6_mergesWith := List.forall_mem_cons.mpr ⟨fun w h => List.mem_cons.mpr (Or.inl (List.mem_singleton.mp h)), List.forall_mem_cons.mpr ⟨fun _ h => (List.mem_cons_of_mem _ (List.mem_append_left _ (List.mem_append_left _ (List.mem_append_left _ (List.mem_append_left _ (List.mem_append_left _ h)))))), List.forall_mem_cons.mpr ⟨fun _ h => (List.mem_cons_of_mem _ (List.mem_append_left _ (List.mem_append_left _ (List.mem_append_left _ (List.mem_append_left _ (List.mem_append_right _ (List.mem_append_left _ h))))))), List.forall_mem_cons.mpr ⟨fun _ h => (List.mem_cons_of_mem _ (List.mem_append_left _ (List.mem_append_left _ (List.mem_append_left _ (List.mem_append_left _ (List.mem_append_right _ (List.mem_append_right _ (List.mem_append_left _ h)))))))), List.forall_mem_cons.mpr ⟨fun _ h => (List.mem_cons_of_mem _ (List.mem_append_left _ (List.mem_append_left _ (List.mem_append_left _ (List.mem_append_left _ (List.mem_append_right _ (List.mem_append_right _ (List.mem_append_right _ (List.mem_append_left _ h))))))))), List.forall_mem_cons.mpr ⟨fun _ h => (List.mem_cons_of_mem _ (List.mem_append_left _ (List.mem_append_left _ (List.mem_append_left _ (List.mem_append_left _ (List.mem_append_right _ (List.mem_append_right _ (List.mem_append_right _ (List.mem_append_right _ (List.mem_append_left _ h)))))))))), List.forall_mem_cons.mpr ⟨fun _ h => (List.mem_cons_of_mem _ (List.mem_append_left _ (List.mem_append_left _ (List.mem_append_left _ (List.mem_append_left _ (List.mem_append_right _ (List.mem_append_right _ (List.mem_append_right _ (List.mem_append_right _ (List.mem_append_right _ (List.mem_append_left _ h))))))))))), List.forall_mem_cons.mpr ⟨fun _ h => (List.mem_cons_of_mem _ (List.mem_append_left _ (List.mem_append_left _ (List.mem_append_left _ (List.mem_append_left _ (List.mem_append_right _ (List.mem_append_right _ (List.mem_append_right _ (List.mem_append_right _ (List.mem_append_right _ (List.mem_append_right _ (List.mem_append_left _ h)))))))))))), List.forall_mem_cons.mpr ⟨fun _ h => (List.mem_cons_of_mem _ (List.mem_append_left _ (List.mem_append_left _ (List.mem_append_left _ (List.mem_append_left _ (List.mem_append_right _ (List.mem_append_right _ (List.mem_append_right _ (List.mem_append_right _ (List.mem_append_right _ (List.mem_append_right _ (List.mem_append_right _ h)))))))))))), fun _ h => absurd h List.not_mem_nil⟩⟩⟩⟩⟩⟩⟩⟩⟩
set_option maxRecDepth 100000 in
theorem ck_wsX6_mergesWith_g : ∀ w ∈ wsX6_mergesWith, goodWord w = true := List.all_eq_true.mp (by decide +kernel)
set_option maxRecDepth 100000 in
theorem ggX6_mergesWith_X6_isMemorySize : GoodIn wsX6_mergesWith wsX6_isMemorySize := goodIn_2 ck_wsX6_mergesWith [(1, 6)] ck_wsX6_mergesWith_m ck_wsX6_mergesWith_g rfl
set_option maxRecDepth 20000 in
theorem gX6_mergesWith_X6_isMemorySize : GoodIn wsX6_mergesWith (va_wsS RX6 94 yX6_isMemorySize wsX6_isMemorySize) := goodIn_app (goodIn_of _ (by decide +kernel)) ggX6_mergesWith_X6_isMemorySize
set_option maxRecDepth 100000 in
theorem ggX6_mergesWith_X6_foretell : GoodIn wsX6_mergesWith wsX6_foretell := goodIn_ca (goodIn_ca (goodIn_ca (goodIn_ca (goodIn_2 ck_wsX6_mergesWith [(1, 10), (1, 0), (1, 2), (1, 11), (1, 12), (1, 13), (1, 14), (1, 15), (1, 16), (1, 17), (1, 18), (1, 19), (1, 20), (1, 21), (1, 22), (1, 23), (2, 0), (2, 1), (2, 2), (2, 3), (2, 4), (2, 5), (2, 6), (2, 7), (2, 8), (2, 9), (2, 10), (2, 11), (2, 12), (2, 13), (2, 14), (2, 15), (2, 16), (2, 17), (2, 18), (2, 19), (2, 20), (2, 21), (2, 22), (2, 23), (3, 0), (3, 1), (3, 2), (3, 3), (3, 4), (3, 5), (3, 6), (3, 7), (3, 8), (3, 9), (3, 10), (3, 11), (3, 12), (3, 13), (3, 14), (3, 15), (3, 16), (3, 17), (3, 18), (3, 19), (3, 20), (3, 21), (3, 22), (3, 23), (4, 0), (4, 1), (4, 2), (4, 3), (4, 4), (4, 5), (4, 6), (4, 7), (4, 8), (4, 9), (4, 10), (4, 11), (4, 12), (4, 13), (4, 14), (4, 15), (4, 16), (4, 17), (4, 18), (4, 19), (4, 20), (4, 21), (4, 22), (4, 23), (5, 0), (5, 1), (5, 2), (5, 3), (5, 4), (5, 5), (5, 6), (5, 7), (5, 8), (5, 9), (5, 10), (5, 11), (5, 12), (5, 13), (5, 14), (5, 15), (5, 16), (5, 17), (5, 18), (5, 19), (5, 20), (5, 21), (5, 22), (5, 23), (6, 0), (6, 1), (6, 2), (6, 3), (6, 4), (6, 5), (6, 6), (6, 7), (6, 8), (6, 9), (6, 10), (6, 11), (6, 12), (6, 13), (6, 14), (6, 15), (6, 16), (6, 17), (6, 18), (6, 19), (6, 20), (6, 21), (6, 22), (6, 23), (7, 0), (7, 1), (7, 2), (7, 3), (7, 4), (7, 5), (7, 6), (7, 7), (7, 8), (7, 9), (7, 10), (7, 11), (7, 12), (7, 13), (7, 14), (7, 15), (7, 16), (7, 17), (7, 18), (7, 19), (7, 20), (7, 21), (7, 22), (7, 23), (8, 0), (8, 1), (8, 2), (8, 3), (8, 4), (8, 5), (8, 6), (8, 7), (8, 8), (8, 9), (8, 10), (8, 11), (8, 12), (8, 13), (8, 14), (8, 15), (8, 16), (8, 17)] ck_wsX6_mergesWith_m ck_wsX6_mergesWith_g rfl) (goodIn_b (fun _ h => (List.mem_cons_of_mem _ (List.mem_append_left _ (List.mem_append_left _ (List.mem_append_left _ (List.mem_append_right _ h)))))) ck_wsX6_mergesWith_g)) (goodIn_b (fun _ h => (List.mem_cons_of_mem _ (List.mem_append_left _ (List.mem_append_left _ (List.mem_append_right _ h))))) ck_wsX6_mergesWith_g)) (goodIn_b (fun _ h => (List.mem_cons_of_mem _ (List.mem_append_left _ (List.mem_append_right _ h)))) ck_wsX6_mergesWith_g)) (goodIn_b (fun _ h => (List.mem_cons_of_mem _ (List.mem_append_right _ h))) ck_wsX6_mergesWith_g)
set_option maxRecDepth 20000 in
theorem gX6_mergesWith_X6_foretell : GoodIn wsX6_mergesWith (wsV RX6 189 RX6 yX6_foretell wsX6_foretell) := goodIn_app (goodIn_of _ (by decide +kernel)) ggX6_mergesWith_X6_foretell
theorem dX6_mergesWith_0 : decode cX6_mergesWith 0 = .ok (.iload_n 1, 1) := by decide +kernel
theorem dX6_mergesWith_1 : decode cX6_mergesWith 1 = .ok (.invokestatic 94, 3) := by decide +kernel
theorem dX6_mergesWith_4 : decode cX6_mergesWith 4 = .ok (.ifCond .ne 6, 3) := by decide +kernel
theorem dX6_mergesWith_7 : decode cX6_mergesWith 7 = .ok (.bipush (-2), 2) := by decide +kernel
theorem dX6_mergesWith_9 : decode cX6_mergesWith 9 = .ok (.ireturn, 1) := by decide +kernel
theorem dX6_mergesWith_10 : decode cX6_mergesWith 10 = .ok (.aload_n 0, 1) := by decide +kernel
theorem dX6_mergesWith_11 : decode cX6_mergesWith 11 = .ok (.iload_n 1, 1) := by decide +kernel
theorem dX6_mergesWith_12 : decode cX6_mergesWith 12 = .ok (.invokevirtual 189, 3) := by decide +kernel
theorem dX6_mergesWith_15 : decode cX6_mergesWith 15 = .ok (.ifCond .ne 6, 3) := by decide +kernel
theorem dX6_mergesWith_18 : decode cX6_mergesWith 18 = .ok (.bipush (-3), 2) := by decide +kernel
theorem dX6_mergesWith_20 : decode cX6_mergesWith 20 = .ok (.ireturn, 1) := by decide +kernel
theorem dX6_mergesWith_21 : decode cX6_mergesWith 21 = .ok (.aload_n 0, 1) := by decide +kernel
theorem dX6_mergesWith_22 : decode cX6_mergesWith 22 = .ok (.getfield 16, 3) := by decide +kernel
theorem dX6_mergesWith_25 : decode cX6_mergesWith 25 = .ok (.getfield 180, 3) := by decide +kernel
theorem dX6_mergesWith_28 : decode cX6_mergesWith 28 = .ok (.aload_n 0, 1) := by decide +kernel
theorem dX6_mergesWith_29 : decode cX6_mergesWith 29 = .ok (.getfield 10, 3) := by decide +kernel
theorem dX6_mergesWith_32 : decode cX6_mergesWith 32 = .ok (.getfield 180, 3) := by decide +kernel
theorem dX6_mergesWith_35 : decode cX6_mergesWith 35 = .ok (.isub, 1) := by decide +kernel
theorem dX6_mergesWith_36 : decode cX6_mergesWith 36 = .ok (.ireturn, 1) := by decide +kernel
def ck_wsX6_bestSize : List (List Cond) := [[.code yX6_bestSize cX6_bestSize 4 (some .int)], wsX6_bestSize_r1, wsX6_bestSize_r2, wsX6_bestSize_r3, wsX6_bestSize_r4, wsX6_bestSize_r5, wsX6_bestSize_r6, wsX6_bestSize_r7, wsX6_bestSize_r8]
theorem ck_wsX6_bestSize_m : ∀ c ∈ ck_wsX6_bestSize, ∀ w ∈ c, w ∈ wsX6_bestSize := List.forall_mem_cons.mpr ⟨fun w h => List.mem_cons.mpr (Or.inl (List.mem_singleton.mp h)), List.forall_mem_cons.mpr ⟨fun _ h => (List.mem_cons_of_mem _ (List.mem_append_left _ (List.mem_append_left _ (List.mem_append_left _ (List.mem_append_left _ (List.mem_append_left _ h)))))), List.forall_mem_cons.mpr ⟨fun _ h => (List.mem_cons_of_mem _ (List.mem_append_left _ (List.mem_append_left _ (List.mem_append_left _ (List.mem_append_left _ (List.mem_append_right _ (List.mem_append_left _ h))))))), List.forall_mem_cons.mpr ⟨fun _ h => (List.mem_cons_of_mem _ (List.mem_append_left _ (List.mem_append_left _ (List.mem_append_left _ (List.mem_append_left _ (List.mem_append_right _ (List.mem_append_right _ (List.mem_append_left _ h)))))))), List.forall_mem_cons.mpr ⟨fun _ h => (List.mem_cons_of_mem _ (List.mem_append_left _ (List.mem_append_left _ (List.mem_append_left _ (List.mem_append_left _ (List.mem_append_right _ (List.mem_append_right _ (List.mem_append_right _ (List.mem_append_left _ h))))))))), List.forall_mem_cons.mpr ⟨fun _ h => (List.mem_cons_of_mem _ (List.mem_append_left _ (List.mem_append_left _ (List.mem_append_left _ (List.mem_append_left _ (List.mem_append_right _ (List.mem_append_right _ (List.mem_append_right _ (List.mem_append_right _ (List.mem_append_left _ h)))))))))), List.forall_mem_cons.mpr ⟨fun _ h => (List.mem_cons_of_mem _ (List.mem_append_left _ (List.mem_append_left _ (List.mem_append_left _ (List.mem_append_left _ (List.mem_append_right _ (List.mem_append_right _ (List.mem_append_right _ (List.mem_append_right _ (List.mem_append_right _ (List.mem_append_left _ h))))))))))), List.forall_mem_cons.mpr ⟨fun _ h => (List.mem_cons_of_mem _ (List.mem_append_left _ (List.mem_append_left _ (List.mem_append_left _ (List.mem_append_left _ (List.mem_append_right _ (List.mem_append_right _ (List.mem_append_right _ (List.mem_append_right _ (List.mem_append_right _ (List.mem_append_right _ (List.mem_append_left _ h)))))))))))), List.forall_mem_cons.mpr ⟨fun _ h => (List.mem_cons_of_mem _ (List.mem_append_left _ (List.mem_append_left _ (List.mem_append_left _ (List.mem_append_left _ (List.mem_append_right _ (List.mem_append_right _ (List.mem_append_right _ (List.mem_append_right _ (List.mem_append_right _ (List.mem_append_right _ (List.mem_append_right _ h)))))))))))), fun _ h => absurd h List.not_mem_nil⟩⟩⟩⟩⟩⟩⟩⟩⟩
set_option maxRecDepth 100000 in
theorem ck_wsX6_bestSize_g : ∀ w ∈ wsX6_bestSize, goodWord w = true := List.all_eq_true.mp (by decide +kernel)
set_option maxRecDepth 100000 in
theorem ggX6_bestSize_X6_foretell : GoodIn wsX6_bestSize wsX6_foretell := goodIn_ca (goodIn_ca (goodIn_ca (goodIn_ca (goodIn_2 ck_wsX6_bestSize [(1, 6), (1, 0), (1, 7), (1, 8), (1, 9), (1, 10), (1, 11), (1, 12), (1, 13), (1, 14), (1, 15), (1, 16), (1, 17), (1, 18), (1, 19), (1, 20), (1, 21), (1, 22), (1, 23), (2, 0), (2, 1), (2, 2), (2, 3), (2, 4), (2, 5), (2, 6), (2, 7), (2, 8), (2, 9), (2, 10), (2, 11), (2, 12), (2, 13), (2, 14), (2, 15), (2, 16), (2, 17), (2, 18), (2, 19), (2, 20), (2, 21), (2, 22), (2, 23), (3, 0), (3, 1), (3, 2), (3, 3), (3, 4), (3, 5), (3, 6), (3, 7), (3, 8), (3, 9), (3, 10), (3, 11), (3, 12), (3, 13), (3, 14), (3, 15), (3, 16), (3, 17), (3, 18), (3, 19), (3, 20), (3, 21), (3, 22), (3, 23), (4, 0), (4, 1), (4, 2), (4, 3), (4, 4), (4, 5), (4, 6), (4, 7), (4, 8), (4, 9), (4, 10), (4, 11), (4, 12), (4, 13), (4, 14), (4, 15), (4, 16), (4, 17), (4, 18), (4, 19), (4, 20), (4, 21), (4, 22), (4, 23), (5, 0), (5, 1), (5, 2), (5, 3), (5, 4), (5, 5), (5, 6), (5, 7), (5, 8), (5, 9), (5, 10), (5, 11), (5, 12), (5, 13), (5, 14), (5, 15), (5, 16), (5, 17), (5, 18), (5, 19), (5, 20), (5, 21), (5, 22), (5, 23), (6, 0), (6, 1), (6, 2), (6, 3), (6, 4), (6, 5), (6, 6), (6, 7), (6, 8), (6, 9), (6, 10), (6, 11), (6, 12), (6, 13), (6, 14), (6, 15), (6, 16), (6, 17), (6, 18), (6, 19), (6, 20), (6, 21), (6, 22), (6, 23), (7, 0), (7, 1), (7, 2), (7, 3), (7, 4), (7, 5), (7, 6), (7, 7), (7, 8), (7, 9), (7, 10), (7, 11), (7, 12), (7, 13), (7, 14), (7, 15), (7, 16), (7, 17), (7, 18), (7, 19), (7, 20), (7, 21), (7, 22), (7, 23), (8, 0), (8, 1), (8, 2), (8, 3), (8, 4), (8, 5), (8, 6), (8, 7), (8, 8), (8, 9), (8, 10), (8, 11), (8, 12), (8, 13), (8, 14)] ck_wsX6_bestSize_m ck_wsX6_bestSize_g rfl) (goodIn_b (fun _ h => (List.mem_cons_of_mem _ (List.mem_append_left _ (List.mem_append_left _ (List.mem_append_left _ (List.mem_append_right _ h)))))) ck_wsX6_bestSize_g)) (goodIn_b (fun _ h => (List.mem_cons_of_mem _ (List.mem_append_left _ (List.mem_append_left _ (List.mem_append_right _ h))))) ck_wsX6_bestSize_g)) (goodIn_b (fun _ h => (List.mem_cons_of_mem _ (List.mem_append_left _ (List.mem_append_right _ h)))) ck_wsX6_bestSize_g)) (goodIn_b (fun _ h => (List.mem_cons_of_mem _ (List.mem_append_right _ h))) ck_wsX6_bestSize_g)
set_option maxRecDepth 20000 in
theorem gX6_bestSize_X6_foretell : GoodIn wsX6_bestSize (wsV RX6 189 RX6 yX6_foretell wsX6_foretell) := goodIn_app (goodIn_of _ (by decide +kernel)) ggX6_bestSize_X6_foretell
theorem dX6_bestSize_0 : decode cX6_bestSize 0 = .ok (.bipush (-6), 2) := by decide +kernel
theorem dX6_bestSize_2 : decode cX6_bestSize 2 = .ok (.istore_n 1, 1) := by decide +kernel
theorem dX6_bestSize_3 : decode cX6_bestSize 3 = .ok (.iconst 0, 1) := by decide +kernel
theorem dX6_bestSize_4 : decode cX6_bestSize 4 = .ok (.istore_n 2, 1) := by decide +kernel
theorem dX6_bestSize_5 : decode cX6_bestSize 5 = .ok (.iconst 2, 1) := by decide +kernel
theorem dX6_bestSize_6 : decode cX6_bestSize 6 = .ok (.istore_n 3, 1) := by decide +kernel
theorem dX6_bestSize_7 : decode cX6_bestSize 7 = .ok (.iload_n 3, 1) := by decide +kernel
theorem dX6_bestSize_8 : decode cX6_bestSize 8 = .ok (.bipush 9, 2) := by decide +kernel
theorem dX6_bestSize_10 : decode cX6_bestSize 10 = .ok (.if_icmp .gt 44, 3) := by decide +kernel
theorem dX6_bestSize_13 : decode cX6_bestSize 13 = .ok (.aload_n 0, 1) := by decide +kernel
theorem dX6_bestSize_14 : decode cX6_bestSize 14 = .ok (.iload_n 3, 1) := by decide +kernel
theorem dX6_bestSize_15 : decode cX6_bestSize 15 = .ok (.invokevirtual 189, 3) := by decide +kernel
theorem dX6_bestSize_18 : decode cX6_bestSize 18 = .ok (.ifCond .eq 30, 3) := by decide +kernel
theorem dX6_bestSize_21 : decode cX6_bestSize 21 = .ok (.iload_n 1, 1) := by decide +kernel
theorem dX6_bestSize_22 : decode cX6_bestSize 22 = .ok (.bipush (-6), 2) := by decide +kernel
theorem dX6_bestSize_24 : decode cX6_bestSize 24 = .ok (.if_icmp .eq 14, 3) := by decide +kernel
theorem dX6_bestSize_27 : decode cX6_bestSize 27 = .ok (.aload_n 0, 1) := by decide +kernel
theorem dX6_bestSize_28 : decode cX6_bestSize 28 = .ok (.getfield 16, 3) := by decide +kernel
theorem dX6_bestSize_31 : decode cX6_bestSize 31 = .ok (.getfield 177, 3) := by decide +kernel
theorem dX6_bestSize_34 : decode cX6_bestSize 34 = .ok (.iload_n 2, 1) := by decide +kernel
theorem dX6_bestSize_35 : decode cX6_bestSize 35 = .ok (.if_icmp .ge 13, 3) := by decide +kernel
theorem dX6_bestSize_38 : decode cX6_bestSize 38 = .ok (.iload_n 3, 1) := by decide +kernel
theorem dX6_bestSize_39 : decode cX6_bestSize 39 = .ok (.istore_n 1, 1) := by decide +kernel
theorem dX6_bestSize_40 : decode cX6_bestSize 40 = .ok (.aload_n 0, 1) := by decide +kernel
theorem dX6_bestSize_41 : decode cX6_bestSize 41 = .ok (.getfield 16, 3) := by decide +kernel
theorem dX6_bestSize_44 : decode cX6_bestSize 44 = .ok (.getfield 177, 3) := by decide +kernel
theorem dX6_bestSize_47 : decode cX6_bestSize 47 = .ok (.istore_n 2, 1) := by decide +kernel
theorem dX6_bestSize_48 : decode cX6_bestSize 48 = .ok (.iinc 3 1, 3) := by decide +kernel
theorem dX6_bestSize_51 : decode cX6_bestSize 51 = .ok (.goto (-44), 3) := by decide +kernel
theorem dX6_bestSize_54 : decode cX6_bestSize 54 = .ok (.iload_n 1, 1) := by decide +kernel
theorem dX6_bestSize_55 : decode cX6_bestSize 55 = .ok (.ireturn, 1) := by decide +kernel
theorem dX6_isKey_0 : decode cX6_isKey 0 = .ok (.iload_n 0, 1) := by decide +kernel
theorem dX6_isKey_1 : decode cX6_isKey 1 = .ok (.ifCond .lt 14, 3) := by decide +kernel
theorem dX6_isKey_4 : decode cX6_isKey 4 = .ok (.iload_n 0, 1) := by decide +kernel
theorem dX6_isKey_5 : decode cX6_isKey 5 = .ok (.sipush 999, 3) := by decide +kernel
theorem dX6_isKey_8 : decode cX6_isKey 8 = .ok (.if_icmp .gt 7, 3) := by decide +kernel
theorem dX6_isKey_11 : decode cX6_isKey 11 = .ok (.iconst 1, 1) := by decide +kernel
theorem dX6_isKey_12 : decode cX6_isKey 12 = .ok (.goto 4, 3) := by decide +kernel
theorem dX6_isKey_15 : decode cX6_isKey 15 = .ok (.iconst 0, 1) := by decide +kernel
theorem dX6_isKey_16 : decode cX6_isKey 16 = .ok (.ireturn, 1) := by decide +kernel
theorem dX6_isMemorySize_0 : decode cX6_isMemorySize 0 = .ok (.iload_n 0, 1) := by decide +kernel
theorem dX6_isMemorySize_1 : decode cX6_isMemorySize 1 = .ok (.iconst 2, 1) := by decide +kernel
theorem dX6_isMemorySize_2 : decode cX6_isMemorySize 2 = .ok (.if_icmp .lt 13, 3) := by decide +kernel
theorem dX6_isMemorySize_5 : decode cX6_isMemorySize 5 = .ok (.iload_n 0, 1) := by decide +kernel
theorem dX6_isMemorySize_6 : decode cX6_isMemorySize 6 = .ok (.bipush 20, 2) := by decide +kernel
theorem dX6_isMemorySize_8 : decode cX6_isMemorySize 8 = .ok (.if_icmp .gt 7, 3) := by decide +kernel
theorem dX6_isMemorySize_11 : decode cX6_isMemorySize 11 = .ok (.iconst 1, 1) := by decide +kernel
theorem dX6_isMemorySize_12 : decode cX6_isMemorySize 12 = .ok (.goto 4, 3) := by decide +kernel
theorem dX6_isMemorySize_15 : decode cX6_isMemorySize 15 = .ok (.iconst 0, 1) := by decide +kernel
theorem dX6_isMemorySize_16 : decode cX6_isMemorySize 16 = .ok (.ireturn, 1) := by decide +kernel
theorem dX6_asNumber_0 : decode cX6_asNumber 0 = .ok (.iload_n 0, 1) := by decide +kernel
theorem dX6_asNumber_1 : decode cX6_asNumber 1 = .ok (.ifCond .eq 7, 3) := by decide +kernel
theorem dX6_asNumber_4 : decode cX6_asNumber 4 = .ok (.iconst 1, 1) := by decide +kernel
theorem dX6_asNumber_5 : decode cX6_asNumber 5 = .ok (.goto 4, 3) := by decide +kernel
theorem dX6_asNumber_8 : decode cX6_asNumber 8 = .ok (.iconst 0, 1) := by decide +kernel
theorem dX6_asNumber_9 : decode cX6_asNumber 9 = .ok (.ireturn, 1) := by decide +kernel
def ck_wsX6_foretell : List (List Cond) := [[.code yX6_foretell cX6_foretell 2 (some .boolean)], wsX6_foretell_r1, wsX6_foretell_r2, wsX6_foretell_r3, wsX6_foretell_r4, wsX6_foretell_r5, wsX6_foretell_r6, wsX6_foretell_r7, wsX6_foretell_r8]
theorem ck_wsX6_foretell_m : ∀ c ∈ ck_wsX6_foretell, ∀ w ∈ c, w ∈ wsX6_foretell := List.forall_mem_cons.mpr ⟨fun w h => List.mem_cons.mpr (Or.inl (List.mem_singleton.mp h)), List.forall_mem_cons.mpr ⟨fun _ h => (List.mem_cons_of_mem _ (List.mem_append_left _ (List.mem_append_left _ (List.mem_append_left _ (List.mem_append_left _ (List.mem_append_left _ h)))))), List.forall_mem_cons.mpr ⟨fun _ h => (List.mem_cons_of_mem _ (List.mem_append_left _ (List.mem_append_left _ (List.mem_append_left _ (List.mem_append_left _ (List.mem_append_right _ (List.mem_append_left _ h))))))), List.forall_mem_cons.mpr ⟨fun _ h => (List.mem_cons_of_mem _ (List.mem_append_left _ (List.mem_append_left _ (List.mem_append_left _ (List.mem_append_left _ (List.mem_append_right _ (List.mem_append_right _ (List.mem_append_left _ h)))))))), List.forall_mem_cons.mpr ⟨fun _ h => (List.mem_cons_of_mem _ (List.mem_append_left _ (List.mem_append_left _ (List.mem_append_left _ (List.mem_append_left _ (List.mem_append_right _ (List.mem_append_right _ (List.mem_append_right _ (List.mem_append_left _ h))))))))), List.forall_mem_cons.mpr ⟨fun _ h => (List.mem_cons_of_mem _ (List.mem_append_left _ (List.mem_append_left _ (List.mem_append_left _ (List.mem_append_left _ (List.mem_append_right _ (List.mem_append_right _ (List.mem_append_right _ (List.mem_append_right _ (List.mem_append_left _ h)))))))))), List.forall_mem_cons.mpr ⟨fun _ h => (List.mem_cons_of_mem _ (List.mem_append_left _ (List.mem_append_left _ (List.mem_append_left _ (List.mem_append_left _ (List.mem_append_right _ (List.mem_append_right _ (List.mem_append_right _ (List.mem_append_right _ (List.mem_append_right _ (List.mem_append_left _ h))))))))))), List.forall_mem_cons.mpr ⟨fun _ h => (List.mem_cons_of_mem _ (List.mem_append_left _ (List.mem_append_left _ (List.mem_append_left _ (List.mem_append_left _ (List.mem_append_right _ (List.mem_append_right _ (List.mem_append_right _ (List.mem_append_right _ (List.mem_append_right _ (List.mem_append_right _ (List.mem_append_left _ h)))))))))))), List.forall_mem_cons.mpr ⟨fun _ h => (List.mem_cons_of_mem _ (List.mem_append_left _ (List.mem_append_left _ (List.mem_append_left _ (List.mem_append_left _ (List.mem_append_right _ (List.mem_append_right _ (List.mem_append_right _ (List.mem_append_right _ (List.mem_append_right _ (List.mem_append_right _ (List.mem_append_right _ h)))))))))))), fun _ h => absurd h List.not_mem_nil⟩⟩⟩⟩⟩⟩⟩⟩⟩
set_option maxRecDepth 100000 in
theorem ck_wsX6_foretell_g : ∀ w ∈ wsX6_foretell, goodWord w = true := List.all_eq_true.mp (by decide +kernel)
set_option maxRecDepth 100000 in
theorem ggX6_foretell_X5_copyFrom : GoodIn wsX6_foretell wsX5_copyFrom := goodIn_ca (goodIn_ca (goodIn_ca (goodIn_2 ck_wsX6_foretell [(1, 6), (1, 7), (1, 8), (1, 9), (1, 10), (1, 11), (1, 12), (1, 13), (1, 14), (1, 15), (1, 16), (1, 17), (1, 18), (1, 19), (1, 20), (1, 21), (1, 22), (1, 23), (2, 0), (2, 1), (2, 2), (2, 3), (2, 4), (2, 5), (2, 6), (2, 7), (2, 8), (2, 9), (2, 10), (2, 11), (2, 12), (2, 13), (2, 14), (2, 15), (2, 16), (2, 17), (2, 18), (2, 19), (2, 20), (2, 21), (2, 22)] ck_wsX6_foretell_m ck_wsX6_foretell_g rfl) (goodIn_b (fun _ h => (List.mem_cons_of_mem _ (List.mem_append_left _ (List.mem_append_left _ (List.mem_append_right _ h))))) ck_wsX6_foretell_g)) (goodIn_b (fun _ h => (List.mem_cons_of_mem _ (List.mem_append_left _ (List.mem_append_right _ h)))) ck_wsX6_foretell_g)) (goodIn_b (fun _ h => (List.mem_cons_of_mem _ (List.mem_append_right _ h))) ck_wsX6_foretell_g)
set_option maxRecDepth 20000 in
theorem gX6_foretell_X5_copyFrom : GoodIn wsX6_foretell (wsV RX6 224 RX5 yX5_copyFrom wsX5_copyFrom) := goodIn_app (goodIn_of _ (by decide +kernel)) ggX6_foretell_X5_copyFrom
set_option maxRecDepth 100000 in
theorem ggX6_foretell_X5_resize : GoodIn wsX6_foretell wsX5_resize := goodIn_ca (goodIn_ca (goodIn_ca (goodIn_2 ck_wsX6_foretell [(3, 2), (1, 11), (1, 10), (1, 17), (1, 18), (3, 3), (3, 4), (3, 5), (3, 6), (1, 5), (3, 7), (1, 7), (1, 23), (3, 8), (3, 9), (3, 10), (3, 11), (3, 12), (3, 13), (3, 14), (3, 15), (1, 12), (3, 16), (3, 17), (3, 18), (2, 6), (3, 19), (2, 8), (3, 20), (3, 21), (3, 22), (3, 23), (4, 0), (4, 1), (4, 2), (4, 3), (2, 11), (4, 4), (4, 5), (4, 6), (4, 7), (2, 2), (1, 8), (4, 8), (4, 9), (4, 10), (2, 16), (4, 11), (2, 22), (2, 18), (2, 20), (2, 21), (4, 12), (4, 13), (4, 14), (4, 15), (4, 16), (4, 17), (4, 18), (4, 19), (4, 20), (4, 21), (4, 22), (4, 23), (2, 1), (5, 0), (5, 1), (5, 2), (5, 3), (1, 22), (1, 20), (5, 4), (5, 5), (5, 6), (5, 7), (5, 8), (5, 9), (5, 10), (5, 11), (5, 12), (5, 13), (5, 14), (5, 15)] ck_wsX6_foretell_m ck_wsX6_foretell_g rfl) (goodIn_b (fun _ h => (List.mem_cons_of_mem _ (List.mem_append_left _ (List.mem_append_left _ (List.mem_append_right _ h))))) ck_wsX6_foretell_g)) (goodIn_b (fun _ h => (List.mem_cons_of_mem _ (List.mem_append_right _ h))) ck_wsX6_foretell_g)) (goodIn_b (fun _ h => (List.mem_cons_of_mem _ (List.mem_append_left _ (List.mem_append_right _ h)))) ck_wsX6_foretell_g)
set_option maxRecDepth 20000 in
theorem gX6_foretell_X5_resize : GoodIn wsX6_foretell (wsV RX6 97 RX5 yX5_resize wsX5_resize) := goodIn_app (goodIn_of _ (by decide +kernel)) ggX6_foretell_X5_resize
set_option maxRecDepth 100000 in
theorem ggX6_foretell_X5_canRunToEnd : GoodIn wsX6_foretell wsX5_canRunToEnd := goodIn_ca (goodIn_ca (goodIn_2 ck_wsX6_foretell [(5, 19), (1, 8), (3, 3), (1, 17), (5, 20), (5, 21), (5, 22), (1, 5), (5, 23), (1, 18), (4, 12), (4, 13), (4, 14), (4, 15), (1, 11), (4, 16), (4, 17), (4, 18), (4, 19)] ck_wsX6_foretell_m ck_wsX6_foretell_g rfl) (goodIn_b (fun _ h => (List.mem_cons_of_mem _ (List.mem_append_left _ (List.mem_append_left _ (List.mem_append_right _ h))))) ck_wsX6_foretell_g)) (goodIn_b (fun _ h => (List.mem_cons_of_mem _ (List.mem_append_right _ h))) ck_wsX6_foretell_g)
set_option maxRecDepth 20000 in
theorem gX6_foretell_X5_canRunToEnd : GoodIn wsX6_foretell (wsV RX6 130 RX5 yX5_canRunToEnd wsX5_canRunToEnd) := goodIn_app (goodIn_of _ (by decide +kernel)) ggX6_foretell_X5_canRunToEnd
set_option maxRecDepth 100000 in
theorem ggX6_foretell_X5_runToEnd : GoodIn wsX6_foretell wsX5_runToEnd := goodIn_ca (goodIn_ca (goodIn_ca (goodIn_2 ck_wsX6_foretell [(6, 3), (6, 4), (6, 5), (6, 6), (1, 5), (6, 7), (1, 10), (3, 4), (3, 5), (3, 6), (3, 7), (1, 17), (1, 7), (1, 23), (3, 8), (3, 9), (3, 10), (3, 11), (3, 12), (3, 13), (3, 14), (3, 15), (1, 12), (3, 16), (3, 17), (3, 18), (2, 6), (3, 19), (2, 8), (3, 20), (3, 21), (3, 22), (3, 23), (4, 0), (4, 1), (4, 2), (4, 3), (2, 11), (4, 4), (4, 5), (4, 6), (4, 7), (2, 2), (1, 8), (4, 8), (4, 9), (4, 10), (2, 16), (4, 11), (2, 22), (2, 18), (2, 20), (2, 21), (6, 8), (6, 9), (6, 10), (6, 11), (5, 20), (5, 21), (5, 22), (5, 23), (1, 18), (3, 3), (6, 12), (6, 13), (6, 14), (6, 15), (1, 9), (1, 22), (1, 21), (1, 20), (6, 16), (6, 17), (6, 18), (6, 19), (5, 4), (5, 5), (5, 6), (5, 7), (5, 8), (5, 9), (5, 10), (5, 11), (6, 20), (6, 21), (6, 22), (6, 23), (7, 0), (7, 1), (7, 2), (7, 3), (7, 4), (7, 5), (7, 6), (7, 7), (2, 19), (1, 14), (1, 15), (1, 16), (7, 8), (7, 9), (7, 10), (7, 11), (7, 12), (7, 13), (7, 14), (7, 15), (2, 10), (5, 0), (5, 1), (5, 2), (5, 3), (7, 16), (7, 17), (7, 18), (7, 19), (4, 12), (4, 13), (4, 14), (4, 15), (1, 11), (4, 16), (4, 17), (4, 18), (4, 19), (7, 20), (7, 21), (7, 22), (7, 23), (1, 19), (2, 0), (8, 0), (8, 1), (8, 2), (8, 3), (8, 4), (8, 5), (8, 6), (8, 7), (8, 8)] ck_wsX6_foretell_m ck_wsX6_foretell_g rfl) (goodIn_b (fun _ h => (List.mem_cons_of_mem _ (List.mem_append_left _ (List.mem_append_left _ (List.mem_append_right _ h))))) ck_wsX6_foretell_g)) (goodIn_b (fun _ h => (List.mem_cons_of_mem _ (List.mem_append_left _ (List.mem_append_right _ h)))) ck_wsX6_foretell_g)) (goodIn_b (fun _ h => (List.mem_cons_of_mem _ (List.mem_append_right _ h))) ck_wsX6_foretell_g)
set_option maxRecDepth 20000 in
theorem gX6_foretell_X5_runToEnd : GoodIn wsX6_foretell (wsV RX6 133 RX5 yX5_runToEnd wsX5_runToEnd) := goodIn_app (goodIn_of _ (by decide +kernel)) ggX6_foretell_X5_runToEnd
theorem dX6_foretell_0 : decode cX6_foretell 0 = .ok (.aload_n 0, 1) := by decide +kernel
theorem dX6_foretell_1 : decode cX6_foretell 1 = .ok (.getfield 16, 3) := by decide +kernel
theorem dX6_foretell_4 : decode cX6_foretell 4 = .ok (.aload_n 0, 1) := by decide +kernel
theorem dX6_foretell_5 : decode cX6_foretell 5 = .ok (.getfield 10, 3) := by decide +kernel
theorem dX6_foretell_8 : decode cX6_foretell 8 = .ok (.invokevirtual 224, 3) := by decide +kernel
theorem dX6_foretell_11 : decode cX6_foretell 11 = .ok (.aload_n 0, 1) := by decide +kernel
theorem dX6_foretell_12 : decode cX6_foretell 12 = .ok (.getfield 16, 3) := by decide +kernel
theorem dX6_foretell_15 : decode cX6_foretell 15 = .ok (.iload_n 1, 1) := by decide +kernel
theorem dX6_foretell_16 : decode cX6_foretell 16 = .ok (.invokevirtual 97, 3) := by decide +kernel
theorem dX6_foretell_19 : decode cX6_foretell 19 = .ok (.pop, 1) := by decide +kernel
theorem dX6_foretell_20 : decode cX6_foretell 20 = .ok (.aload_n 0, 1) := by decide +kernel
theorem dX6_foretell_21 : decode cX6_foretell 21 = .ok (.getfield 16, 3) := by decide +kernel
theorem dX6_foretell_24 : decode cX6_foretell 24 = .ok (.invokevirtual 130, 3) := by decide +kernel
theorem dX6_foretell_27 : decode cX6_foretell 27 = .ok (.ifCond .ne 5, 3) := by decide +kernel
theorem dX6_foretell_30 : decode cX6_foretell 30 = .ok (.iconst 0, 1) := by decide +kernel
theorem dX6_foretell_31 : decode cX6_foretell 31 = .ok (.ireturn, 1) := by decide +kernel
theorem dX6_foretell_32 : decode cX6_foretell 32 = .ok (.aload_n 0, 1) := by decide +kernel
theorem dX6_foretell_33 : decode cX6_foretell 33 = .ok (.getfield 16, 3) := by decide +kernel
theorem dX6_foretell_36 : decode cX6_foretell 36 = .ok (.invokevirtual 133, 3) := by decide +kernel
theorem dX6_foretell_39 : decode cX6_foretell 39 = .ok (.pop, 1) := by decide +kernel
theorem dX6_foretell_40 : decode cX6_foretell 40 = .ok (.iconst 1, 1) := by decide +kernel
theorem dX6_foretell_41 : decode cX6_foretell 41 = .ok (.ireturn, 1) := by decide +kernel
theorem dJ9_floorMod_7cf53_0 : decode cJ9_floorMod_7cf53 0 = .ok (.iload_n 0, 1) := by decide +kernel
theorem dJ9_floorMod_7cf53_1 : decode cJ9_floorMod_7cf53 1 = .ok (.iload_n 1, 1) := by decide +kernel
theorem dJ9_floorMod_7cf53_2 : decode cJ9_floorMod_7cf53 2 = .ok (.irem, 1) := by decide +kernel
theorem dJ9_floorMod_7cf53_3 : decode cJ9_floorMod_7cf53 3 = .ok (.istore_n 2, 1) := by decide +kernel
theorem dJ9_floorMod_7cf53_4 : decode cJ9_floorMod_7cf53 4 = .ok (.iload_n 0, 1) := by decide +kernel
theorem dJ9_floorMod_7cf53_5 : decode cJ9_floorMod_7cf53 5 = .ok (.iload_n 1, 1) := by decide +kernel
theorem dJ9_floorMod_7cf53_6 : decode cJ9_floorMod_7cf53 6 = .ok (.ixor, 1) := by decide +kernel
theorem dJ9_floorMod_7cf53_7 : decode cJ9_floorMod_7cf53 7 = .ok (.ifCond .ge 11, 3) := by decide +kernel
theorem dJ9_floorMod_7cf53_10 : decode cJ9_floorMod_7cf53 10 = .ok (.iload_n 2, 1) := by decide +kernel
theorem dJ9_floorMod_7cf53_11 : decode cJ9_floorMod_7cf53 11 = .ok (.ifCond .eq 7, 3) := by decide +kernel
theorem dJ9_floorMod_7cf53_14 : decode cJ9_floorMod_7cf53 14 = .ok (.iload_n 2, 1) := by decide +kernel
theorem dJ9_floorMod_7cf53_15 : decode cJ9_floorMod_7cf53 15 = .ok (.iload_n 1, 1) := by decide +kernel
theorem dJ9_floorMod_7cf53_16 : decode cJ9_floorMod_7cf53 16 = .ok (.iadd, 1) := by decide +kernel
theorem dJ9_floorMod_7cf53_17 : decode cJ9_floorMod_7cf53 17 = .ok (.ireturn, 1) := by decide +kernel
theorem dJ9_floorMod_7cf53_18 : decode cJ9_floorMod_7cf53 18 = .ok (.iload_n 2, 1) := by decide +kernel
theorem dJ9_floorMod_7cf53_19 : decode cJ9_floorMod_7cf53 19 = .ok (.ireturn, 1) := by decide +kernel
theorem dJ9_min_7cf53_0 : decode cJ9_min_7cf53 0 = .ok (.iload_n 0, 1) := by decide +kernel
theorem dJ9_min_7cf53_1 : decode cJ9_min_7cf53 1 = .ok (.iload_n 1, 1) := by decide +kernel
theorem dJ9_min_7cf53_2 : decode cJ9_min_7cf53 2 = .ok (.if_icmp .gt 7, 3) := by decide +kernel
theorem dJ9_min_7cf53_5 : decode cJ9_min_7cf53 5 = .ok (.iload_n 0, 1) := by decide +kernel
theorem dJ9_min_7cf53_6 : decode cJ9_min_7cf53 6 = .ok (.goto 4, 3) := by decide +kernel
theorem dJ9_min_7cf53_9 : decode cJ9_min_7cf53 9 = .ok (.iload_n 1, 1) := by decide +kernel
theorem dJ9_min_7cf53_10 : decode cJ9_min_7cf53 10 = .ok (.ireturn, 1) := by decide +kernel
theorem dL_cell_0 : decode cL_cell 0 = .ok (.iload_n 1, 1) := by decide +kernel
theorem dL_cell_1 : decode cL_cell 1 = .ok (.aload_n 0, 1) := by decide +kernel
theorem dL_cell_2 : decode cL_cell 2 = .ok (.arraylength, 1) := by decide +kernel
theorem dL_cell_3 : decode cL_cell 3 = .ok (.if_icmp .ge 9, 3) := by decide +kernel
theorem dL_cell_6 : decode cL_cell 6 = .ok (.aload_n 0, 1) := by decide +kernel
theorem dL_cell_7 : decode cL_cell 7 = .ok (.iload_n 1, 1) := by decide +kernel
theorem dL_cell_8 : decode cL_cell 8 = .ok (.iaload, 1) := by decide +kernel
theorem dL_cell_9 : decode cL_cell 9 = .ok (.goto 10, 3) := by decide +kernel
theorem dL_cell_12 : decode cL_cell 12 = .ok (.ldc 7, 2) := by decide +kernel
theorem dL_cell_14 : decode cL_cell 14 = .ok (.iload_n 1, 1) := by decide +kernel
theorem dL_cell_15 : decode cL_cell 15 = .ok (.imul, 1) := by decide +kernel
theorem dL_cell_16 : decode cL_cell 16 = .ok (.ldc 8, 2) := by decide +kernel
theorem dL_cell_18 : decode cL_cell 18 = .ok (.iadd, 1) := by decide +kernel
theorem dL_cell_19 : decode cL_cell 19 = .ok (.ireturn, 1) := by decide +kernel
theorem dL_low_0 : decode cL_low 0 = .ok (.iload_n 0, 1) := by decide +kernel
theorem dL_low_1 : decode cL_low 1 = .ok (.ldc 9, 2) := by decide +kernel
theorem dL_low_3 : decode cL_low 3 = .ok (.iand, 1) := by decide +kernel
theorem dL_low_4 : decode cL_low 4 = .ok (.iload_n 1, 1) := by decide +kernel
theorem dL_low_5 : decode cL_low 5 = .ok (.irem, 1) := by decide +kernel
theorem dL_low_6 : decode cL_low 6 = .ok (.ireturn, 1) := by decide +kernel
theorem dL_comes_0 : decode cL_comes 0 = .ok (.aload_n 0, 1) := by decide +kernel
theorem dL_comes_1 : decode cL_comes 1 = .ok (.iload_n 1, 1) := by decide +kernel
theorem dL_comes_2 : decode cL_comes 2 = .ok (.iaload, 1) := by decide +kernel
theorem dL_comes_3 : decode cL_comes 3 = .ok (.aload_n 0, 1) := by decide +kernel
theorem dL_comes_4 : decode cL_comes 4 = .ok (.iload_n 2, 1) := by decide +kernel
theorem dL_comes_5 : decode cL_comes 5 = .ok (.iaload, 1) := by decide +kernel
theorem dL_comes_6 : decode cL_comes 6 = .ok (.if_icmp .lt 17, 3) := by decide +kernel
theorem dL_comes_9 : decode cL_comes 9 = .ok (.aload_n 0, 1) := by decide +kernel
theorem dL_comes_10 : decode cL_comes 10 = .ok (.iload_n 1, 1) := by decide +kernel
theorem dL_comes_11 : decode cL_comes 11 = .ok (.iaload, 1) := by decide +kernel
theorem dL_comes_12 : decode cL_comes 12 = .ok (.aload_n 0, 1) := by decide +kernel
theorem dL_comes_13 : decode cL_comes 13 = .ok (.iload_n 2, 1) := by decide +kernel
theorem dL_comes_14 : decode cL_comes 14 = .ok (.iaload, 1) := by decide +kernel
theorem dL_comes_15 : decode cL_comes 15 = .ok (.if_icmp .ne 12, 3) := by decide +kernel
theorem dL_comes_18 : decode cL_comes 18 = .ok (.iload_n 1, 1) := by decide +kernel
theorem dL_comes_19 : decode cL_comes 19 = .ok (.iload_n 2, 1) := by decide +kernel
theorem dL_comes_20 : decode cL_comes 20 = .ok (.if_icmp .ge 7, 3) := by decide +kernel
theorem dL_comes_23 : decode cL_comes 23 = .ok (.iconst 1, 1) := by decide +kernel
theorem dL_comes_24 : decode cL_comes 24 = .ok (.goto 4, 3) := by decide +kernel
theorem dL_comes_27 : decode cL_comes 27 = .ok (.iconst 0, 1) := by decide +kernel
theorem dL_comes_28 : decode cL_comes 28 = .ok (.ireturn, 1) := by decide +kernel
theorem dL_start_0 : decode cL_start 0 = .ok (.iconst 0, 1) := by decide +kernel
theorem dL_start_1 : decode cL_start 1 = .ok (.istore_n 2, 1) := by decide +kernel
theorem dL_start_2 : decode cL_start 2 = .ok (.iconst 0, 1) := by decide +kernel
theorem dL_start_3 : decode cL_start 3 = .ok (.istore_n 3, 1) := by decide +kernel
theorem dL_start_4 : decode cL_start 4 = .ok (.iload_n 3, 1) := by decide +kernel
theorem dL_start_5 : decode cL_start 5 = .ok (.iload_n 1, 1) := by decide +kernel
theorem dL_start_6 : decode cL_start 6 = .ok (.if_icmp .ge 15, 3) := by decide +kernel
theorem dL_start_9 : decode cL_start 9 = .ok (.iload_n 2, 1) := by decide +kernel
theorem dL_start_10 : decode cL_start 10 = .ok (.aload_n 0, 1) := by decide +kernel
theorem dL_start_11 : decode cL_start 11 = .ok (.iload_n 3, 1) := by decide +kernel
theorem dL_start_12 : decode cL_start 12 = .ok (.iaload, 1) := by decide +kernel
theorem dL_start_13 : decode cL_start 13 = .ok (.iadd, 1) := by decide +kernel
theorem dL_start_14 : decode cL_start 14 = .ok (.istore_n 2, 1) := by decide +kernel
theorem dL_start_15 : decode cL_start 15 = .ok (.iinc 3 1, 3) := by decide +kernel
theorem dL_start_18 : decode cL_start 18 = .ok (.goto (-14), 3) := by decide +kernel
theorem dL_start_21 : decode cL_start 21 = .ok (.iload_n 2, 1) := by decide +kernel
theorem dL_start_22 : decode cL_start 22 = .ok (.ireturn, 1) := by decide +kernel
theorem dL_ways_0 : decode cL_ways 0 = .ok (.iload_n 0, 1) := by decide +kernel
theorem dL_ways_1 : decode cL_ways 1 = .ok (.bipush 9, 2) := by decide +kernel
theorem dL_ways_3 : decode cL_ways 3 = .ok (.if_icmp .le 8, 3) := by decide +kernel
theorem dL_ways_6 : decode cL_ways 6 = .ok (.bipush 8, 2) := by decide +kernel
theorem dL_ways_8 : decode cL_ways 8 = .ok (.goto 6, 3) := by decide +kernel
theorem dL_ways_11 : decode cL_ways 11 = .ok (.iload_n 0, 1) := by decide +kernel
theorem dL_ways_12 : decode cL_ways 12 = .ok (.iconst 1, 1) := by decide +kernel
theorem dL_ways_13 : decode cL_ways 13 = .ok (.isub, 1) := by decide +kernel
theorem dL_ways_14 : decode cL_ways 14 = .ok (.ireturn, 1) := by decide +kernel
theorem dL_kinds_0 : decode cL_kinds 0 = .ok (.iconst 0, 1) := by decide +kernel
theorem dL_kinds_1 : decode cL_kinds 1 = .ok (.istore 5, 2) := by decide +kernel
theorem dL_kinds_3 : decode cL_kinds 3 = .ok (.iconst 0, 1) := by decide +kernel
theorem dL_kinds_4 : decode cL_kinds 4 = .ok (.istore 6, 2) := by decide +kernel
theorem dL_kinds_6 : decode cL_kinds 6 = .ok (.iload 6, 2) := by decide +kernel
theorem dL_kinds_8 : decode cL_kinds 8 = .ok (.aload_n 2, 1) := by decide +kernel
theorem dL_kinds_9 : decode cL_kinds 9 = .ok (.bipush 10, 2) := by decide +kernel
theorem dL_kinds_11 : decode cL_kinds 11 = .ok (.iaload, 1) := by decide +kernel
theorem dL_kinds_12 : decode cL_kinds 12 = .ok (.if_icmp .ge 39, 3) := by decide +kernel
theorem dL_kinds_15 : decode cL_kinds 15 = .ok (.iload 5, 2) := by decide +kernel
theorem dL_kinds_17 : decode cL_kinds 17 = .ok (.aload_n 1, 1) := by decide +kernel
theorem dL_kinds_18 : decode cL_kinds 18 = .ok (.iload 6, 2) := by decide +kernel
theorem dL_kinds_20 : decode cL_kinds 20 = .ok (.iaload, 1) := by decide +kernel
theorem dL_kinds_21 : decode cL_kinds 21 = .ok (.iload_n 3, 1) := by decide +kernel
theorem dL_kinds_22 : decode cL_kinds 22 = .ok (.if_icmp .ne 19, 3) := by decide +kernel
theorem dL_kinds_25 : decode cL_kinds 25 = .ok (.iload 4, 2) := by decide +kernel
theorem dL_kinds_27 : decode cL_kinds 27 = .ok (.ifCond .eq 10, 3) := by decide +kernel
theorem dL_kinds_30 : decode cL_kinds 30 = .ok (.aload_n 0, 1) := by decide +kernel
theorem dL_kinds_31 : decode cL_kinds 31 = .ok (.iload 6, 2) := by decide +kernel
theorem dL_kinds_33 : decode cL_kinds 33 = .ok (.iaload, 1) := by decide +kernel
theorem dL_kinds_34 : decode cL_kinds 34 = .ok (.ifCond .le 7, 3) := by decide +kernel
theorem dL_kinds_37 : decode cL_kinds 37 = .ok (.iconst 1, 1) := by decide +kernel
theorem dL_kinds_38 : decode cL_kinds 38 = .ok (.goto 4, 3) := by decide +kernel
theorem dL_kinds_41 : decode cL_kinds 41 = .ok (.iconst 0, 1) := by decide +kernel
theorem dL_kinds_42 : decode cL_kinds 42 = .ok (.iadd, 1) := by decide +kernel
theorem dL_kinds_43 : decode cL_kinds 43 = .ok (.istore 5, 2) := by decide +kernel
theorem dL_kinds_45 : decode cL_kinds 45 = .ok (.iinc 6 1, 3) := by decide +kernel
theorem dL_kinds_48 : decode cL_kinds 48 = .ok (.goto (-42), 3) := by decide +kernel
theorem dL_kinds_51 : decode cL_kinds 51 = .ok (.iload 5, 2) := by decide +kernel
theorem dL_kinds_53 : decode cL_kinds 53 = .ok (.ireturn, 1) := by decide +kernel
set_option maxRecDepth 20000 in
theorem ggL_write_L_start : GoodIn wsL_write wsL_start := goodIn_r _ [4] (by decide +kernel) (by decide +kernel)
set_option maxRecDepth 20000 in
theorem gL_write_L_start : GoodIn wsL_write (va_wsS RL 12 yL_start wsL_start) := goodIn_app (goodIn_of _ (by decide +kernel)) ggL_write_L_start
set_option maxRecDepth 20000 in
theorem ggL_write_L_comes : GoodIn wsL_write wsL_comes := goodIn_r _ [7] (by decide +kernel) (by decide +kernel)
set_option maxRecDepth 20000 in
theorem gL_write_L_comes : GoodIn wsL_write (va_wsS RL 18 yL_comes wsL_comes) := goodIn_app (goodIn_of _ (by decide +kernel)) ggL_write_L_comes
theorem dL_write_0 : decode cL_write 0 = .ok (.aload 6, 2) := by decide +kernel
theorem dL_write_2 : decode cL_write 2 = .ok (.bipush 11, 2) := by decide +kernel
theorem dL_write_4 : decode cL_write 4 = .ok (.iaload, 1) := by decide +kernel
theorem dL_write_5 : decode cL_write 5 = .ok (.ifCond .ne 6, 3) := by decide +kernel
theorem dL_write_8 : decode cL_write 8 = .ok (.bipush (-6), 2) := by decide +kernel
theorem dL_write_10 : decode cL_write 10 = .ok (.ireturn, 1) := by decide +kernel
theorem dL_write_11 : decode cL_write 11 = .ok (.aload_n 2, 1) := by decide +kernel
theorem dL_write_12 : decode cL_write 12 = .ok (.aload 6, 2) := by decide +kernel
theorem dL_write_14 : decode cL_write 14 = .ok (.bipush 10, 2) := by decide +kernel
theorem dL_write_16 : decode cL_write 16 = .ok (.iaload, 1) := by decide +kernel
theorem dL_write_17 : decode cL_write 17 = .ok (.invokestatic 12, 3) := by decide +kernel
theorem dL_write_20 : decode cL_write 20 = .ok (.istore 7, 2) := by decide +kernel
theorem dL_write_22 : decode cL_write 22 = .ok (.iconst 0, 1) := by decide +kernel
theorem dL_write_23 : decode cL_write 23 = .ok (.istore 8, 2) := by decide +kernel
theorem dL_write_25 : decode cL_write 25 = .ok (.iload 8, 2) := by decide +kernel
theorem dL_write_27 : decode cL_write 27 = .ok (.aload 6, 2) := by decide +kernel
theorem dL_write_29 : decode cL_write 29 = .ok (.bipush 11, 2) := by decide +kernel
theorem dL_write_31 : decode cL_write 31 = .ok (.iaload, 1) := by decide +kernel
theorem dL_write_32 : decode cL_write 32 = .ok (.if_icmp .ge 67, 3) := by decide +kernel
theorem dL_write_35 : decode cL_write 35 = .ok (.iload 7, 2) := by decide +kernel
theorem dL_write_37 : decode cL_write 37 = .ok (.iload 8, 2) := by decide +kernel
theorem dL_write_39 : decode cL_write 39 = .ok (.iadd, 1) := by decide +kernel
theorem dL_write_40 : decode cL_write 40 = .ok (.istore 9, 2) := by decide +kernel
theorem dL_write_42 : decode cL_write 42 = .ok (.iload 9, 2) := by decide +kernel
theorem dL_write_44 : decode cL_write 44 = .ok (.iload 7, 2) := by decide +kernel
theorem dL_write_46 : decode cL_write 46 = .ok (.if_icmp .le 38, 3) := by decide +kernel
theorem dL_write_49 : decode cL_write 49 = .ok (.aload 5, 2) := by decide +kernel
theorem dL_write_51 : decode cL_write 51 = .ok (.aload 4, 2) := by decide +kernel
theorem dL_write_53 : decode cL_write 53 = .ok (.iload 8, 2) := by decide +kernel
theorem dL_write_55 : decode cL_write 55 = .ok (.iaload, 1) := by decide +kernel
theorem dL_write_56 : decode cL_write 56 = .ok (.aload_n 0, 1) := by decide +kernel
theorem dL_write_57 : decode cL_write 57 = .ok (.iload 9, 2) := by decide +kernel
theorem dL_write_59 : decode cL_write 59 = .ok (.iconst 1, 1) := by decide +kernel
theorem dL_write_60 : decode cL_write 60 = .ok (.isub, 1) := by decide +kernel
theorem dL_write_61 : decode cL_write 61 = .ok (.iaload, 1) := by decide +kernel
theorem dL_write_62 : decode cL_write 62 = .ok (.invokestatic 18, 3) := by decide +kernel
theorem dL_write_65 : decode cL_write 65 = .ok (.ifCond .eq 19, 3) := by decide +kernel
theorem dL_write_68 : decode cL_write 68 = .ok (.aload_n 0, 1) := by decide +kernel
theorem dL_write_69 : decode cL_write 69 = .ok (.iload 9, 2) := by decide +kernel
theorem dL_write_71 : decode cL_write 71 = .ok (.aload_n 0, 1) := by decide +kernel
theorem dL_write_72 : decode cL_write 72 = .ok (.iload 9, 2) := by decide +kernel
theorem dL_write_74 : decode cL_write 74 = .ok (.iconst 1, 1) := by decide +kernel
theorem dL_write_75 : decode cL_write 75 = .ok (.isub, 1) := by decide +kernel
theorem dL_write_76 : decode cL_write 76 = .ok (.iaload, 1) := by decide +kernel
theorem dL_write_77 : decode cL_write 77 = .ok (.iastore, 1) := by decide +kernel
theorem dL_write_78 : decode cL_write 78 = .ok (.iinc 9 (-1), 3) := by decide +kernel
theorem dL_write_81 : decode cL_write 81 = .ok (.goto (-39), 3) := by decide +kernel
theorem dL_write_84 : decode cL_write 84 = .ok (.aload_n 0, 1) := by decide +kernel
theorem dL_write_85 : decode cL_write 85 = .ok (.iload 9, 2) := by decide +kernel
theorem dL_write_87 : decode cL_write 87 = .ok (.aload 4, 2) := by decide +kernel
theorem dL_write_89 : decode cL_write 89 = .ok (.iload 8, 2) := by decide +kernel
theorem dL_write_91 : decode cL_write 91 = .ok (.iaload, 1) := by decide +kernel
theorem dL_write_92 : decode cL_write 92 = .ok (.iastore, 1) := by decide +kernel
theorem dL_write_93 : decode cL_write 93 = .ok (.iinc 8 1, 3) := by decide +kernel
theorem dL_write_96 : decode cL_write 96 = .ok (.goto (-71), 3) := by decide +kernel
theorem dL_write_99 : decode cL_write 99 = .ok (.aload_n 1, 1) := by decide +kernel
theorem dL_write_100 : decode cL_write 100 = .ok (.aload 6, 2) := by decide +kernel
theorem dL_write_102 : decode cL_write 102 = .ok (.bipush 10, 2) := by decide +kernel
theorem dL_write_104 : decode cL_write 104 = .ok (.iaload, 1) := by decide +kernel
theorem dL_write_105 : decode cL_write 105 = .ok (.aload 6, 2) := by decide +kernel
theorem dL_write_107 : decode cL_write 107 = .ok (.iconst 4, 1) := by decide +kernel
theorem dL_write_108 : decode cL_write 108 = .ok (.iaload, 1) := by decide +kernel
theorem dL_write_109 : decode cL_write 109 = .ok (.iastore, 1) := by decide +kernel
theorem dL_write_110 : decode cL_write 110 = .ok (.aload_n 2, 1) := by decide +kernel
theorem dL_write_111 : decode cL_write 111 = .ok (.aload 6, 2) := by decide +kernel
theorem dL_write_113 : decode cL_write 113 = .ok (.bipush 10, 2) := by decide +kernel
theorem dL_write_115 : decode cL_write 115 = .ok (.iaload, 1) := by decide +kernel
theorem dL_write_116 : decode cL_write 116 = .ok (.aload 6, 2) := by decide +kernel
theorem dL_write_118 : decode cL_write 118 = .ok (.bipush 11, 2) := by decide +kernel
theorem dL_write_120 : decode cL_write 120 = .ok (.iaload, 1) := by decide +kernel
theorem dL_write_121 : decode cL_write 121 = .ok (.iastore, 1) := by decide +kernel
theorem dL_write_122 : decode cL_write 122 = .ok (.aload_n 3, 1) := by decide +kernel
theorem dL_write_123 : decode cL_write 123 = .ok (.aload 6, 2) := by decide +kernel
theorem dL_write_125 : decode cL_write 125 = .ok (.bipush 10, 2) := by decide +kernel
theorem dL_write_127 : decode cL_write 127 = .ok (.iaload, 1) := by decide +kernel
theorem dL_write_128 : decode cL_write 128 = .ok (.iconst 0, 1) := by decide +kernel
theorem dL_write_129 : decode cL_write 129 = .ok (.iastore, 1) := by decide +kernel
theorem dL_write_130 : decode cL_write 130 = .ok (.aload 6, 2) := by decide +kernel
theorem dL_write_132 : decode cL_write 132 = .ok (.bipush 10, 2) := by decide +kernel
theorem dL_write_134 : decode cL_write 134 = .ok (.dup2, 1) := by decide +kernel
theorem dL_write_135 : decode cL_write 135 = .ok (.iaload, 1) := by decide +kernel
theorem dL_write_136 : decode cL_write 136 = .ok (.iconst 1, 1) := by decide +kernel
theorem dL_write_137 : decode cL_write 137 = .ok (.iadd, 1) := by decide +kernel
theorem dL_write_138 : decode cL_write 138 = .ok (.iastore, 1) := by decide +kernel
theorem dL_write_139 : decode cL_write 139 = .ok (.aload 6, 2) := by decide +kernel
theorem dL_write_141 : decode cL_write 141 = .ok (.iconst 4, 1) := by decide +kernel
theorem dL_write_142 : decode cL_write 142 = .ok (.dup2, 1) := by decide +kernel
theorem dL_write_143 : decode cL_write 143 = .ok (.iaload, 1) := by decide +kernel
theorem dL_write_144 : decode cL_write 144 = .ok (.iconst 1, 1) := by decide +kernel
theorem dL_write_145 : decode cL_write 145 = .ok (.iadd, 1) := by decide +kernel
theorem dL_write_146 : decode cL_write 146 = .ok (.iastore, 1) := by decide +kernel
theorem dL_write_147 : decode cL_write 147 = .ok (.aload 6, 2) := by decide +kernel
theorem dL_write_149 : decode cL_write 149 = .ok (.bipush 7, 2) := by decide +kernel
theorem dL_write_151 : decode cL_write 151 = .ok (.dup2, 1) := by decide +kernel
theorem dL_write_152 : decode cL_write 152 = .ok (.iaload, 1) := by decide +kernel
theorem dL_write_153 : decode cL_write 153 = .ok (.aload 6, 2) := by decide +kernel
theorem dL_write_155 : decode cL_write 155 = .ok (.bipush 11, 2) := by decide +kernel
theorem dL_write_157 : decode cL_write 157 = .ok (.iaload, 1) := by decide +kernel
theorem dL_write_158 : decode cL_write 158 = .ok (.iadd, 1) := by decide +kernel
theorem dL_write_159 : decode cL_write 159 = .ok (.iastore, 1) := by decide +kernel
theorem dL_write_160 : decode cL_write 160 = .ok (.aload 6, 2) := by decide +kernel
theorem dL_write_162 : decode cL_write 162 = .ok (.bipush 11, 2) := by decide +kernel
theorem dL_write_164 : decode cL_write 164 = .ok (.iconst 0, 1) := by decide +kernel
theorem dL_write_165 : decode cL_write 165 = .ok (.iastore, 1) := by decide +kernel
theorem dL_write_166 : decode cL_write 166 = .ok (.aload 6, 2) := by decide +kernel
theorem dL_write_168 : decode cL_write 168 = .ok (.iconst 4, 1) := by decide +kernel
theorem dL_write_169 : decode cL_write 169 = .ok (.iaload, 1) := by decide +kernel
theorem dL_write_170 : decode cL_write 170 = .ok (.iconst 1, 1) := by decide +kernel
theorem dL_write_171 : decode cL_write 171 = .ok (.isub, 1) := by decide +kernel
theorem dL_write_172 : decode cL_write 172 = .ok (.ireturn, 1) := by decide +kernel
set_option maxRecDepth 20000 in
theorem ggL_add_L_write : GoodIn wsL_add wsL_write := goodIn_r _ [4, 5, 6, 3, 7, 8, 9, 10] (by decide +kernel) (by decide +kernel)
set_option maxRecDepth 20000 in
theorem gL_add_L_write : GoodIn wsL_add (va_wsS RL 22 yL_write wsL_write) := goodIn_app (goodIn_of _ (by decide +kernel)) ggL_add_L_write
theorem dL_add_0 : decode cL_add 0 = .ok (.aload 7, 2) := by decide +kernel
theorem dL_add_2 : decode cL_add 2 = .ok (.iconst 3, 1) := by decide +kernel
theorem dL_add_3 : decode cL_add 3 = .ok (.iaload, 1) := by decide +kernel
theorem dL_add_4 : decode cL_add 4 = .ok (.istore 9, 2) := by decide +kernel
theorem dL_add_6 : decode cL_add 6 = .ok (.aload 7, 2) := by decide +kernel
theorem dL_add_8 : decode cL_add 8 = .ok (.iconst 3, 1) := by decide +kernel
theorem dL_add_9 : decode cL_add 9 = .ok (.dup2, 1) := by decide +kernel
theorem dL_add_10 : decode cL_add 10 = .ok (.iaload, 1) := by decide +kernel
theorem dL_add_11 : decode cL_add 11 = .ok (.iconst 1, 1) := by decide +kernel
theorem dL_add_12 : decode cL_add 12 = .ok (.iadd, 1) := by decide +kernel
theorem dL_add_13 : decode cL_add 13 = .ok (.iastore, 1) := by decide +kernel
theorem dL_add_14 : decode cL_add 14 = .ok (.aload 5, 2) := by decide +kernel
theorem dL_add_16 : decode cL_add 16 = .ok (.iload 9, 2) := by decide +kernel
theorem dL_add_18 : decode cL_add 18 = .ok (.iload 8, 2) := by decide +kernel
theorem dL_add_20 : decode cL_add 20 = .ok (.iastore, 1) := by decide +kernel
theorem dL_add_21 : decode cL_add 21 = .ok (.iconst 0, 1) := by decide +kernel
theorem dL_add_22 : decode cL_add 22 = .ok (.istore 10, 2) := by decide +kernel
theorem dL_add_24 : decode cL_add 24 = .ok (.iload 10, 2) := by decide +kernel
theorem dL_add_26 : decode cL_add 26 = .ok (.aload 7, 2) := by decide +kernel
theorem dL_add_28 : decode cL_add 28 = .ok (.bipush 11, 2) := by decide +kernel
theorem dL_add_30 : decode cL_add 30 = .ok (.iaload, 1) := by decide +kernel
theorem dL_add_31 : decode cL_add 31 = .ok (.if_icmp .ge 49, 3) := by decide +kernel
theorem dL_add_34 : decode cL_add 34 = .ok (.aload 7, 2) := by decide +kernel
theorem dL_add_36 : decode cL_add 36 = .ok (.iconst 1, 1) := by decide +kernel
theorem dL_add_37 : decode cL_add 37 = .ok (.iaload, 1) := by decide +kernel
theorem dL_add_38 : decode cL_add 38 = .ok (.iconst 1, 1) := by decide +kernel
theorem dL_add_39 : decode cL_add 39 = .ok (.if_icmp .ne 41, 3) := by decide +kernel
theorem dL_add_42 : decode cL_add 42 = .ok (.aload 5, 2) := by decide +kernel
theorem dL_add_44 : decode cL_add 44 = .ok (.aload 4, 2) := by decide +kernel
theorem dL_add_46 : decode cL_add 46 = .ok (.iload 10, 2) := by decide +kernel
theorem dL_add_48 : decode cL_add 48 = .ok (.iaload, 1) := by decide +kernel
theorem dL_add_49 : decode cL_add 49 = .ok (.iaload, 1) := by decide +kernel
theorem dL_add_50 : decode cL_add 50 = .ok (.iload 8, 2) := by decide +kernel
theorem dL_add_52 : decode cL_add 52 = .ok (.if_icmp .ne 22, 3) := by decide +kernel
theorem dL_add_55 : decode cL_add 55 = .ok (.aload 6, 2) := by decide +kernel
theorem dL_add_57 : decode cL_add 57 = .ok (.aload 4, 2) := by decide +kernel
theorem dL_add_59 : decode cL_add 59 = .ok (.iload 10, 2) := by decide +kernel
theorem dL_add_61 : decode cL_add 61 = .ok (.iaload, 1) := by decide +kernel
theorem dL_add_62 : decode cL_add 62 = .ok (.dup2, 1) := by decide +kernel
theorem dL_add_63 : decode cL_add 63 = .ok (.iaload, 1) := by decide +kernel
theorem dL_add_64 : decode cL_add 64 = .ok (.iconst 1, 1) := by decide +kernel
theorem dL_add_65 : decode cL_add 65 = .ok (.iadd, 1) := by decide +kernel
theorem dL_add_66 : decode cL_add 66 = .ok (.iastore, 1) := by decide +kernel
theorem dL_add_67 : decode cL_add 67 = .ok (.aload 6, 2) := by decide +kernel
theorem dL_add_69 : decode cL_add 69 = .ok (.iload 9, 2) := by decide +kernel
theorem dL_add_71 : decode cL_add 71 = .ok (.iconst 0, 1) := by decide +kernel
theorem dL_add_72 : decode cL_add 72 = .ok (.iastore, 1) := by decide +kernel
theorem dL_add_73 : decode cL_add 73 = .ok (.return_, 1) := by decide +kernel
theorem dL_add_74 : decode cL_add 74 = .ok (.iinc 10 1, 3) := by decide +kernel
theorem dL_add_77 : decode cL_add 77 = .ok (.goto (-53), 3) := by decide +kernel
theorem dL_add_80 : decode cL_add 80 = .ok (.aload 7, 2) := by decide +kernel
theorem dL_add_82 : decode cL_add 82 = .ok (.bipush 11, 2) := by decide +kernel
theorem dL_add_84 : decode cL_add 84 = .ok (.iaload, 1) := by decide +kernel
theorem dL_add_85 : decode cL_add 85 = .ok (.aload 7, 2) := by decide +kernel
theorem dL_add_87 : decode cL_add 87 = .ok (.iconst 0, 1) := by decide +kernel
theorem dL_add_88 : decode cL_add 88 = .ok (.iaload, 1) := by decide +kernel
theorem dL_add_89 : decode cL_add 89 = .ok (.if_icmp .ne 17, 3) := by decide +kernel
theorem dL_add_92 : decode cL_add 92 = .ok (.aload_n 0, 1) := by decide +kernel
theorem dL_add_93 : decode cL_add 93 = .ok (.aload_n 1, 1) := by decide +kernel
theorem dL_add_94 : decode cL_add 94 = .ok (.aload_n 2, 1) := by decide +kernel
theorem dL_add_95 : decode cL_add 95 = .ok (.aload_n 3, 1) := by decide +kernel
theorem dL_add_96 : decode cL_add 96 = .ok (.aload 4, 2) := by decide +kernel
theorem dL_add_98 : decode cL_add 98 = .ok (.aload 5, 2) := by decide +kernel
theorem dL_add_100 : decode cL_add 100 = .ok (.aload 7, 2) := by decide +kernel
theorem dL_add_102 : decode cL_add 102 = .ok (.invokestatic 22, 3) := by decide +kernel
theorem dL_add_105 : decode cL_add 105 = .ok (.pop, 1) := by decide +kernel
theorem dL_add_106 : decode cL_add 106 = .ok (.aload 6, 2) := by decide +kernel
theorem dL_add_108 : decode cL_add 108 = .ok (.iload 9, 2) := by decide +kernel
theorem dL_add_110 : decode cL_add 110 = .ok (.iconst 1, 1) := by decide +kernel
theorem dL_add_111 : decode cL_add 111 = .ok (.iastore, 1) := by decide +kernel
theorem dL_add_112 : decode cL_add 112 = .ok (.aload 4, 2) := by decide +kernel
theorem dL_add_114 : decode cL_add 114 = .ok (.aload 7, 2) := by decide +kernel
theorem dL_add_116 : decode cL_add 116 = .ok (.bipush 11, 2) := by decide +kernel
theorem dL_add_118 : decode cL_add 118 = .ok (.iaload, 1) := by decide +kernel
theorem dL_add_119 : decode cL_add 119 = .ok (.iload 9, 2) := by decide +kernel
theorem dL_add_121 : decode cL_add 121 = .ok (.iastore, 1) := by decide +kernel
theorem dL_add_122 : decode cL_add 122 = .ok (.aload 7, 2) := by decide +kernel
theorem dL_add_124 : decode cL_add 124 = .ok (.bipush 11, 2) := by decide +kernel
theorem dL_add_126 : decode cL_add 126 = .ok (.dup2, 1) := by decide +kernel
theorem dL_add_127 : decode cL_add 127 = .ok (.iaload, 1) := by decide +kernel
theorem dL_add_128 : decode cL_add 128 = .ok (.iconst 1, 1) := by decide +kernel
theorem dL_add_129 : decode cL_add 129 = .ok (.iadd, 1) := by decide +kernel
theorem dL_add_130 : decode cL_add 130 = .ok (.iastore, 1) := by decide +kernel
theorem dL_add_131 : decode cL_add 131 = .ok (.return_, 1) := by decide +kernel
set_option maxRecDepth 20000 in
theorem ggL_begin_L_kinds : GoodIn wsL_begin wsL_kinds := goodIn_r _ [4] (by decide +kernel) (by decide +kernel)
set_option maxRecDepth 20000 in
theorem gL_begin_L_kinds : GoodIn wsL_begin (va_wsS RL 26 yL_kinds wsL_kinds) := goodIn_app (goodIn_of _ (by decide +kernel)) ggL_begin_L_kinds
set_option maxRecDepth 20000 in
theorem ggL_begin_L_ways : GoodIn wsL_begin wsL_ways := goodIn_r _ [7] (by decide +kernel) (by decide +kernel)
set_option maxRecDepth 20000 in
theorem gL_begin_L_ways : GoodIn wsL_begin (va_wsS RL 30 yL_ways wsL_ways) := goodIn_app (goodIn_of _ (by decide +kernel)) ggL_begin_L_ways
theorem dL_begin_0 : decode cL_begin 0 = .ok (.aload_n 1, 1) := by decide +kernel
theorem dL_begin_1 : decode cL_begin 1 = .ok (.aload_n 2, 1) := by decide +kernel
theorem dL_begin_2 : decode cL_begin 2 = .ok (.aload_n 3, 1) := by decide +kernel
theorem dL_begin_3 : decode cL_begin 3 = .ok (.iconst 0, 1) := by decide +kernel
theorem dL_begin_4 : decode cL_begin 4 = .ok (.iconst 1, 1) := by decide +kernel
theorem dL_begin_5 : decode cL_begin 5 = .ok (.invokestatic 26, 3) := by decide +kernel
theorem dL_begin_8 : decode cL_begin 8 = .ok (.istore 4, 2) := by decide +kernel
theorem dL_begin_10 : decode cL_begin 10 = .ok (.aload_n 3, 1) := by decide +kernel
theorem dL_begin_11 : decode cL_begin 11 = .ok (.bipush 6, 2) := by decide +kernel
theorem dL_begin_13 : decode cL_begin 13 = .ok (.iload 4, 2) := by decide +kernel
theorem dL_begin_15 : decode cL_begin 15 = .ok (.aload_n 3, 1) := by decide +kernel
theorem dL_begin_16 : decode cL_begin 16 = .ok (.iconst 0, 1) := by decide +kernel
theorem dL_begin_17 : decode cL_begin 17 = .ok (.iaload, 1) := by decide +kernel
theorem dL_begin_18 : decode cL_begin 18 = .ok (.invokestatic 30, 3) := by decide +kernel
theorem dL_begin_21 : decode cL_begin 21 = .ok (.if_icmp .le 12, 3) := by decide +kernel
theorem dL_begin_24 : decode cL_begin 24 = .ok (.aload_n 3, 1) := by decide +kernel
theorem dL_begin_25 : decode cL_begin 25 = .ok (.iconst 0, 1) := by decide +kernel
theorem dL_begin_26 : decode cL_begin 26 = .ok (.iaload, 1) := by decide +kernel
theorem dL_begin_27 : decode cL_begin 27 = .ok (.invokestatic 30, 3) := by decide +kernel
theorem dL_begin_30 : decode cL_begin 30 = .ok (.goto 5, 3) := by decide +kernel
theorem dL_begin_33 : decode cL_begin 33 = .ok (.iload 4, 2) := by decide +kernel
theorem dL_begin_35 : decode cL_begin 35 = .ok (.iastore, 1) := by decide +kernel
theorem dL_begin_36 : decode cL_begin 36 = .ok (.iconst 0, 1) := by decide +kernel
theorem dL_begin_37 : decode cL_begin 37 = .ok (.istore 5, 2) := by decide +kernel
theorem dL_begin_39 : decode cL_begin 39 = .ok (.iload 5, 2) := by decide +kernel
theorem dL_begin_41 : decode cL_begin 41 = .ok (.aload_n 3, 1) := by decide +kernel
theorem dL_begin_42 : decode cL_begin 42 = .ok (.bipush 6, 2) := by decide +kernel
theorem dL_begin_44 : decode cL_begin 44 = .ok (.iaload, 1) := by decide +kernel
theorem dL_begin_45 : decode cL_begin 45 = .ok (.if_icmp .ge 101, 3) := by decide +kernel
theorem dL_begin_48 : decode cL_begin 48 = .ok (.iconst (-1), 1) := by decide +kernel
theorem dL_begin_49 : decode cL_begin 49 = .ok (.istore 6, 2) := by decide +kernel
theorem dL_begin_51 : decode cL_begin 51 = .ok (.iconst 0, 1) := by decide +kernel
theorem dL_begin_52 : decode cL_begin 52 = .ok (.istore 7, 2) := by decide +kernel
theorem dL_begin_54 : decode cL_begin 54 = .ok (.iload 7, 2) := by decide +kernel
theorem dL_begin_56 : decode cL_begin 56 = .ok (.aload_n 3, 1) := by decide +kernel
theorem dL_begin_57 : decode cL_begin 57 = .ok (.bipush 10, 2) := by decide +kernel
theorem dL_begin_59 : decode cL_begin 59 = .ok (.iaload, 1) := by decide +kernel
theorem dL_begin_60 : decode cL_begin 60 = .ok (.if_icmp .ge 75, 3) := by decide +kernel
theorem dL_begin_63 : decode cL_begin 63 = .ok (.aload_n 2, 1) := by decide +kernel
theorem dL_begin_64 : decode cL_begin 64 = .ok (.iload 7, 2) := by decide +kernel
theorem dL_begin_66 : decode cL_begin 66 = .ok (.iaload, 1) := by decide +kernel
theorem dL_begin_67 : decode cL_begin 67 = .ok (.ifCond .ne 45, 3) := by decide +kernel
theorem dL_begin_70 : decode cL_begin 70 = .ok (.iload 6, 2) := by decide +kernel
theorem dL_begin_72 : decode cL_begin 72 = .ok (.ifCond .lt 36, 3) := by decide +kernel
theorem dL_begin_75 : decode cL_begin 75 = .ok (.aload_n 1, 1) := by decide +kernel
theorem dL_begin_76 : decode cL_begin 76 = .ok (.iload 7, 2) := by decide +kernel
theorem dL_begin_78 : decode cL_begin 78 = .ok (.iaload, 1) := by decide +kernel
theorem dL_begin_79 : decode cL_begin 79 = .ok (.aload_n 1, 1) := by decide +kernel
theorem dL_begin_80 : decode cL_begin 80 = .ok (.iload 6, 2) := by decide +kernel
theorem dL_begin_82 : decode cL_begin 82 = .ok (.iaload, 1) := by decide +kernel
theorem dL_begin_83 : decode cL_begin 83 = .ok (.if_icmp .lt 25, 3) := by decide +kernel
theorem dL_begin_86 : decode cL_begin 86 = .ok (.aload_n 1, 1) := by decide +kernel
theorem dL_begin_87 : decode cL_begin 87 = .ok (.iload 7, 2) := by decide +kernel
theorem dL_begin_89 : decode cL_begin 89 = .ok (.iaload, 1) := by decide +kernel
theorem dL_begin_90 : decode cL_begin 90 = .ok (.aload_n 1, 1) := by decide +kernel
theorem dL_begin_91 : decode cL_begin 91 = .ok (.iload 6, 2) := by decide +kernel
theorem dL_begin_93 : decode cL_begin 93 = .ok (.iaload, 1) := by decide +kernel
theorem dL_begin_94 : decode cL_begin 94 = .ok (.if_icmp .ne 18, 3) := by decide +kernel
theorem dL_begin_97 : decode cL_begin 97 = .ok (.aload_n 0, 1) := by decide +kernel
theorem dL_begin_98 : decode cL_begin 98 = .ok (.iload 7, 2) := by decide +kernel
theorem dL_begin_100 : decode cL_begin 100 = .ok (.iaload, 1) := by decide +kernel
theorem dL_begin_101 : decode cL_begin 101 = .ok (.aload_n 0, 1) := by decide +kernel
theorem dL_begin_102 : decode cL_begin 102 = .ok (.iload 6, 2) := by decide +kernel
theorem dL_begin_104 : decode cL_begin 104 = .ok (.iaload, 1) := by decide +kernel
theorem dL_begin_105 : decode cL_begin 105 = .ok (.if_icmp .ge 7, 3) := by decide +kernel
theorem dL_begin_108 : decode cL_begin 108 = .ok (.iconst 1, 1) := by decide +kernel
theorem dL_begin_109 : decode cL_begin 109 = .ok (.goto 4, 3) := by decide +kernel
theorem dL_begin_112 : decode cL_begin 112 = .ok (.iconst 0, 1) := by decide +kernel
theorem dL_begin_113 : decode cL_begin 113 = .ok (.istore 8, 2) := by decide +kernel
theorem dL_begin_115 : decode cL_begin 115 = .ok (.iload 8, 2) := by decide +kernel
theorem dL_begin_117 : decode cL_begin 117 = .ok (.ifCond .eq 8, 3) := by decide +kernel
theorem dL_begin_120 : decode cL_begin 120 = .ok (.iload 7, 2) := by decide +kernel
theorem dL_begin_122 : decode cL_begin 122 = .ok (.goto 5, 3) := by decide +kernel
theorem dL_begin_125 : decode cL_begin 125 = .ok (.iload 6, 2) := by decide +kernel
theorem dL_begin_127 : decode cL_begin 127 = .ok (.istore 6, 2) := by decide +kernel
theorem dL_begin_129 : decode cL_begin 129 = .ok (.iinc 7 1, 3) := by decide +kernel
theorem dL_begin_132 : decode cL_begin 132 = .ok (.goto (-78), 3) := by decide +kernel
theorem dL_begin_135 : decode cL_begin 135 = .ok (.aload_n 2, 1) := by decide +kernel
theorem dL_begin_136 : decode cL_begin 136 = .ok (.iload 6, 2) := by decide +kernel
theorem dL_begin_138 : decode cL_begin 138 = .ok (.iconst 1, 1) := by decide +kernel
theorem dL_begin_139 : decode cL_begin 139 = .ok (.iastore, 1) := by decide +kernel
theorem dL_begin_140 : decode cL_begin 140 = .ok (.iinc 5 1, 3) := by decide +kernel
theorem dL_begin_143 : decode cL_begin 143 = .ok (.goto (-104), 3) := by decide +kernel
theorem dL_begin_146 : decode cL_begin 146 = .ok (.aload_n 0, 1) := by decide +kernel
theorem dL_begin_147 : decode cL_begin 147 = .ok (.aload_n 3, 1) := by decide +kernel
theorem dL_begin_148 : decode cL_begin 148 = .ok (.bipush 10, 2) := by decide +kernel
theorem dL_begin_150 : decode cL_begin 150 = .ok (.iaload, 1) := by decide +kernel
theorem dL_begin_151 : decode cL_begin 151 = .ok (.iconst (-1), 1) := by decide +kernel
theorem dL_begin_152 : decode cL_begin 152 = .ok (.iastore, 1) := by decide +kernel
theorem dL_begin_153 : decode cL_begin 153 = .ok (.aload_n 1, 1) := by decide +kernel
theorem dL_begin_154 : decode cL_begin 154 = .ok (.aload_n 3, 1) := by decide +kernel
theorem dL_begin_155 : decode cL_begin 155 = .ok (.bipush 10, 2) := by decide +kernel
theorem dL_begin_157 : decode cL_begin 157 = .ok (.iaload, 1) := by decide +kernel
theorem dL_begin_158 : decode cL_begin 158 = .ok (.iconst 0, 1) := by decide +kernel
theorem dL_begin_159 : decode cL_begin 159 = .ok (.iastore, 1) := by decide +kernel
theorem dL_begin_160 : decode cL_begin 160 = .ok (.aload_n 2, 1) := by decide +kernel
theorem dL_begin_161 : decode cL_begin 161 = .ok (.aload_n 3, 1) := by decide +kernel
theorem dL_begin_162 : decode cL_begin 162 = .ok (.bipush 10, 2) := by decide +kernel
theorem dL_begin_164 : decode cL_begin 164 = .ok (.iaload, 1) := by decide +kernel
theorem dL_begin_165 : decode cL_begin 165 = .ok (.iconst 2, 1) := by decide +kernel
theorem dL_begin_166 : decode cL_begin 166 = .ok (.iastore, 1) := by decide +kernel
theorem dL_begin_167 : decode cL_begin 167 = .ok (.aload_n 3, 1) := by decide +kernel
theorem dL_begin_168 : decode cL_begin 168 = .ok (.bipush 10, 2) := by decide +kernel
theorem dL_begin_170 : decode cL_begin 170 = .ok (.dup2, 1) := by decide +kernel
theorem dL_begin_171 : decode cL_begin 171 = .ok (.iaload, 1) := by decide +kernel
theorem dL_begin_172 : decode cL_begin 172 = .ok (.iconst 1, 1) := by decide +kernel
theorem dL_begin_173 : decode cL_begin 173 = .ok (.iadd, 1) := by decide +kernel
theorem dL_begin_174 : decode cL_begin 174 = .ok (.iastore, 1) := by decide +kernel
theorem dL_begin_175 : decode cL_begin 175 = .ok (.aload_n 3, 1) := by decide +kernel
theorem dL_begin_176 : decode cL_begin 176 = .ok (.iconst 5, 1) := by decide +kernel
theorem dL_begin_177 : decode cL_begin 177 = .ok (.iconst 1, 1) := by decide +kernel
theorem dL_begin_178 : decode cL_begin 178 = .ok (.iastore, 1) := by decide +kernel
theorem dL_begin_179 : decode cL_begin 179 = .ok (.aload_n 3, 1) := by decide +kernel
theorem dL_begin_180 : decode cL_begin 180 = .ok (.bipush 8, 2) := by decide +kernel
theorem dL_begin_182 : decode cL_begin 182 = .ok (.dup2, 1) := by decide +kernel
theorem dL_begin_183 : decode cL_begin 183 = .ok (.iaload, 1) := by decide +kernel
theorem dL_begin_184 : decode cL_begin 184 = .ok (.iconst 1, 1) := by decide +kernel
theorem dL_begin_185 : decode cL_begin 185 = .ok (.iadd, 1) := by decide +kernel
theorem dL_begin_186 : decode cL_begin 186 = .ok (.iastore, 1) := by decide +kernel
theorem dL_begin_187 : decode cL_begin 187 = .ok (.return_, 1) := by decide +kernel
theorem dL_clean_0 : decode cL_clean 0 = .ok (.iconst 0, 1) := by decide +kernel
theorem dL_clean_1 : decode cL_clean 1 = .ok (.istore 4, 2) := by decide +kernel
theorem dL_clean_3 : decode cL_clean 3 = .ok (.iconst 0, 1) := by decide +kernel
theorem dL_clean_4 : decode cL_clean 4 = .ok (.istore 5, 2) := by decide +kernel
theorem dL_clean_6 : decode cL_clean 6 = .ok (.iload 5, 2) := by decide +kernel
theorem dL_clean_8 : decode cL_clean 8 = .ok (.aload_n 3, 1) := by decide +kernel
theorem dL_clean_9 : decode cL_clean 9 = .ok (.bipush 10, 2) := by decide +kernel
theorem dL_clean_11 : decode cL_clean 11 = .ok (.iaload, 1) := by decide +kernel
theorem dL_clean_12 : decode cL_clean 12 = .ok (.if_icmp .ge 43, 3) := by decide +kernel
theorem dL_clean_15 : decode cL_clean 15 = .ok (.aload_n 1, 1) := by decide +kernel
theorem dL_clean_16 : decode cL_clean 16 = .ok (.iload 5, 2) := by decide +kernel
theorem dL_clean_18 : decode cL_clean 18 = .ok (.iaload, 1) := by decide +kernel
theorem dL_clean_19 : decode cL_clean 19 = .ok (.ifCond .le 30, 3) := by decide +kernel
theorem dL_clean_22 : decode cL_clean 22 = .ok (.aload_n 0, 1) := by decide +kernel
theorem dL_clean_23 : decode cL_clean 23 = .ok (.iload 4, 2) := by decide +kernel
theorem dL_clean_25 : decode cL_clean 25 = .ok (.aload_n 0, 1) := by decide +kernel
theorem dL_clean_26 : decode cL_clean 26 = .ok (.iload 5, 2) := by decide +kernel
theorem dL_clean_28 : decode cL_clean 28 = .ok (.iaload, 1) := by decide +kernel
theorem dL_clean_29 : decode cL_clean 29 = .ok (.iastore, 1) := by decide +kernel
theorem dL_clean_30 : decode cL_clean 30 = .ok (.aload_n 1, 1) := by decide +kernel
theorem dL_clean_31 : decode cL_clean 31 = .ok (.iload 4, 2) := by decide +kernel
theorem dL_clean_33 : decode cL_clean 33 = .ok (.aload_n 1, 1) := by decide +kernel
theorem dL_clean_34 : decode cL_clean 34 = .ok (.iload 5, 2) := by decide +kernel
theorem dL_clean_36 : decode cL_clean 36 = .ok (.iaload, 1) := by decide +kernel
theorem dL_clean_37 : decode cL_clean 37 = .ok (.iastore, 1) := by decide +kernel
theorem dL_clean_38 : decode cL_clean 38 = .ok (.aload_n 2, 1) := by decide +kernel
theorem dL_clean_39 : decode cL_clean 39 = .ok (.iload 4, 2) := by decide +kernel
theorem dL_clean_41 : decode cL_clean 41 = .ok (.aload_n 2, 1) := by decide +kernel
theorem dL_clean_42 : decode cL_clean 42 = .ok (.iload 5, 2) := by decide +kernel
theorem dL_clean_44 : decode cL_clean 44 = .ok (.iaload, 1) := by decide +kernel
theorem dL_clean_45 : decode cL_clean 45 = .ok (.iastore, 1) := by decide +kernel
theorem dL_clean_46 : decode cL_clean 46 = .ok (.iinc 4 1, 3) := by decide +kernel
theorem dL_clean_49 : decode cL_clean 49 = .ok (.iinc 5 1, 3) := by decide +kernel
theorem dL_clean_52 : decode cL_clean 52 = .ok (.goto (-46), 3) := by decide +kernel
theorem dL_clean_55 : decode cL_clean 55 = .ok (.aload_n 3, 1) := by decide +kernel
theorem dL_clean_56 : decode cL_clean 56 = .ok (.bipush 10, 2) := by decide +kernel
theorem dL_clean_58 : decode cL_clean 58 = .ok (.iload 4, 2) := by decide +kernel
theorem dL_clean_60 : decode cL_clean 60 = .ok (.iastore, 1) := by decide +kernel
theorem dL_clean_61 : decode cL_clean 61 = .ok (.return_, 1) := by decide +kernel
set_option maxRecDepth 20000 in
theorem ggL_step_L_start : GoodIn wsL_step wsL_start := goodIn_r _ [4] (by decide +kernel) (by decide +kernel)
set_option maxRecDepth 20000 in
theorem gL_step_L_start : GoodIn wsL_step (va_wsS RL 12 yL_start wsL_start) := goodIn_app (goodIn_of _ (by decide +kernel)) ggL_step_L_start
set_option maxRecDepth 20000 in
theorem ggL_step_L_comes : GoodIn wsL_step wsL_comes := goodIn_r _ [7] (by decide +kernel) (by decide +kernel)
set_option maxRecDepth 20000 in
theorem gL_step_L_comes : GoodIn wsL_step (va_wsS RL 18 yL_comes wsL_comes) := goodIn_app (goodIn_of _ (by decide +kernel)) ggL_step_L_comes
set_option maxRecDepth 20000 in
theorem ggL_step_L_kinds : GoodIn wsL_step wsL_kinds := goodIn_r _ [10] (by decide +kernel) (by decide +kernel)
set_option maxRecDepth 20000 in
theorem gL_step_L_kinds : GoodIn wsL_step (va_wsS RL 26 yL_kinds wsL_kinds) := goodIn_app (goodIn_of _ (by decide +kernel)) ggL_step_L_kinds
set_option maxRecDepth 20000 in
theorem ggL_step_L_clean : GoodIn wsL_step wsL_clean := goodIn_r _ [13] (by decide +kernel) (by decide +kernel)
set_option maxRecDepth 20000 in
theorem gL_step_L_clean : GoodIn wsL_step (va_wsS RL 34 yL_clean wsL_clean) := goodIn_app (goodIn_of _ (by decide +kernel)) ggL_step_L_clean
theorem dL_step_0 : decode cL_step 0 = .ok (.iconst (-1), 1) := by decide +kernel
theorem dL_step_1 : decode cL_step 1 = .ok (.istore 7, 2) := by decide +kernel
theorem dL_step_3 : decode cL_step 3 = .ok (.iconst 0, 1) := by decide +kernel
theorem dL_step_4 : decode cL_step 4 = .ok (.istore 8, 2) := by decide +kernel
theorem dL_step_6 : decode cL_step 6 = .ok (.iload 8, 2) := by decide +kernel
theorem dL_step_8 : decode cL_step 8 = .ok (.aload 6, 2) := by decide +kernel
theorem dL_step_10 : decode cL_step 10 = .ok (.bipush 10, 2) := by decide +kernel
theorem dL_step_12 : decode cL_step 12 = .ok (.iaload, 1) := by decide +kernel
theorem dL_step_13 : decode cL_step 13 = .ok (.if_icmp .ge 62, 3) := by decide +kernel
theorem dL_step_16 : decode cL_step 16 = .ok (.aload_n 3, 1) := by decide +kernel
theorem dL_step_17 : decode cL_step 17 = .ok (.iload 8, 2) := by decide +kernel
theorem dL_step_19 : decode cL_step 19 = .ok (.iaload, 1) := by decide +kernel
theorem dL_step_20 : decode cL_step 20 = .ok (.iconst 1, 1) := by decide +kernel
theorem dL_step_21 : decode cL_step 21 = .ok (.if_icmp .ne 44, 3) := by decide +kernel
theorem dL_step_24 : decode cL_step 24 = .ok (.aload_n 2, 1) := by decide +kernel
theorem dL_step_25 : decode cL_step 25 = .ok (.iload 8, 2) := by decide +kernel
theorem dL_step_27 : decode cL_step 27 = .ok (.iaload, 1) := by decide +kernel
theorem dL_step_28 : decode cL_step 28 = .ok (.ifCond .le 37, 3) := by decide +kernel
theorem dL_step_31 : decode cL_step 31 = .ok (.iload 7, 2) := by decide +kernel
theorem dL_step_33 : decode cL_step 33 = .ok (.ifCond .lt 27, 3) := by decide +kernel
theorem dL_step_36 : decode cL_step 36 = .ok (.aload 4, 2) := by decide +kernel
theorem dL_step_38 : decode cL_step 38 = .ok (.aload_n 0, 1) := by decide +kernel
theorem dL_step_39 : decode cL_step 39 = .ok (.aload_n 2, 1) := by decide +kernel
theorem dL_step_40 : decode cL_step 40 = .ok (.iload 8, 2) := by decide +kernel
theorem dL_step_42 : decode cL_step 42 = .ok (.invokestatic 12, 3) := by decide +kernel
theorem dL_step_45 : decode cL_step 45 = .ok (.iaload, 1) := by decide +kernel
theorem dL_step_46 : decode cL_step 46 = .ok (.aload_n 0, 1) := by decide +kernel
theorem dL_step_47 : decode cL_step 47 = .ok (.aload_n 2, 1) := by decide +kernel
theorem dL_step_48 : decode cL_step 48 = .ok (.iload 7, 2) := by decide +kernel
theorem dL_step_50 : decode cL_step 50 = .ok (.invokestatic 12, 3) := by decide +kernel
theorem dL_step_53 : decode cL_step 53 = .ok (.iaload, 1) := by decide +kernel
theorem dL_step_54 : decode cL_step 54 = .ok (.invokestatic 18, 3) := by decide +kernel
theorem dL_step_57 : decode cL_step 57 = .ok (.ifCond .eq 8, 3) := by decide +kernel
theorem dL_step_60 : decode cL_step 60 = .ok (.iload 8, 2) := by decide +kernel
theorem dL_step_62 : decode cL_step 62 = .ok (.goto 5, 3) := by decide +kernel
theorem dL_step_65 : decode cL_step 65 = .ok (.iload 7, 2) := by decide +kernel
theorem dL_step_67 : decode cL_step 67 = .ok (.istore 7, 2) := by decide +kernel
theorem dL_step_69 : decode cL_step 69 = .ok (.iinc 8 1, 3) := by decide +kernel
theorem dL_step_72 : decode cL_step 72 = .ok (.goto (-66), 3) := by decide +kernel
theorem dL_step_75 : decode cL_step 75 = .ok (.aload_n 2, 1) := by decide +kernel
theorem dL_step_76 : decode cL_step 76 = .ok (.aload 6, 2) := by decide +kernel
theorem dL_step_78 : decode cL_step 78 = .ok (.bipush 10, 2) := by decide +kernel
theorem dL_step_80 : decode cL_step 80 = .ok (.iaload, 1) := by decide +kernel
theorem dL_step_81 : decode cL_step 81 = .ok (.invokestatic 12, 3) := by decide +kernel
theorem dL_step_84 : decode cL_step 84 = .ok (.istore 8, 2) := by decide +kernel
theorem dL_step_86 : decode cL_step 86 = .ok (.aload_n 2, 1) := by decide +kernel
theorem dL_step_87 : decode cL_step 87 = .ok (.iload 7, 2) := by decide +kernel
theorem dL_step_89 : decode cL_step 89 = .ok (.invokestatic 12, 3) := by decide +kernel
theorem dL_step_92 : decode cL_step 92 = .ok (.istore 9, 2) := by decide +kernel
theorem dL_step_94 : decode cL_step 94 = .ok (.aload_n 0, 1) := by decide +kernel
theorem dL_step_95 : decode cL_step 95 = .ok (.iload 9, 2) := by decide +kernel
theorem dL_step_97 : decode cL_step 97 = .ok (.iaload, 1) := by decide +kernel
theorem dL_step_98 : decode cL_step 98 = .ok (.istore 10, 2) := by decide +kernel
theorem dL_step_100 : decode cL_step 100 = .ok (.iload 9, 2) := by decide +kernel
theorem dL_step_102 : decode cL_step 102 = .ok (.istore 11, 2) := by decide +kernel
theorem dL_step_104 : decode cL_step 104 = .ok (.iload 11, 2) := by decide +kernel
theorem dL_step_106 : decode cL_step 106 = .ok (.iload 8, 2) := by decide +kernel
theorem dL_step_108 : decode cL_step 108 = .ok (.iconst 1, 1) := by decide +kernel
theorem dL_step_109 : decode cL_step 109 = .ok (.isub, 1) := by decide +kernel
theorem dL_step_110 : decode cL_step 110 = .ok (.if_icmp .ge 19, 3) := by decide +kernel
theorem dL_step_113 : decode cL_step 113 = .ok (.aload_n 0, 1) := by decide +kernel
theorem dL_step_114 : decode cL_step 114 = .ok (.iload 11, 2) := by decide +kernel
theorem dL_step_116 : decode cL_step 116 = .ok (.aload_n 0, 1) := by decide +kernel
theorem dL_step_117 : decode cL_step 117 = .ok (.iload 11, 2) := by decide +kernel
theorem dL_step_119 : decode cL_step 119 = .ok (.iconst 1, 1) := by decide +kernel
theorem dL_step_120 : decode cL_step 120 = .ok (.iadd, 1) := by decide +kernel
theorem dL_step_121 : decode cL_step 121 = .ok (.iaload, 1) := by decide +kernel
theorem dL_step_122 : decode cL_step 122 = .ok (.iastore, 1) := by decide +kernel
theorem dL_step_123 : decode cL_step 123 = .ok (.iinc 11 1, 3) := by decide +kernel
theorem dL_step_126 : decode cL_step 126 = .ok (.goto (-22), 3) := by decide +kernel
theorem dL_step_129 : decode cL_step 129 = .ok (.aload_n 2, 1) := by decide +kernel
theorem dL_step_130 : decode cL_step 130 = .ok (.iload 7, 2) := by decide +kernel
theorem dL_step_132 : decode cL_step 132 = .ok (.dup2, 1) := by decide +kernel
theorem dL_step_133 : decode cL_step 133 = .ok (.iaload, 1) := by decide +kernel
theorem dL_step_134 : decode cL_step 134 = .ok (.iconst 1, 1) := by decide +kernel
theorem dL_step_135 : decode cL_step 135 = .ok (.isub, 1) := by decide +kernel
theorem dL_step_136 : decode cL_step 136 = .ok (.iastore, 1) := by decide +kernel
theorem dL_step_137 : decode cL_step 137 = .ok (.aload 6, 2) := by decide +kernel
theorem dL_step_139 : decode cL_step 139 = .ok (.bipush 10, 2) := by decide +kernel
theorem dL_step_141 : decode cL_step 141 = .ok (.iaload, 1) := by decide +kernel
theorem dL_step_142 : decode cL_step 142 = .ok (.iconst 1, 1) := by decide +kernel
theorem dL_step_143 : decode cL_step 143 = .ok (.isub, 1) := by decide +kernel
theorem dL_step_144 : decode cL_step 144 = .ok (.istore 11, 2) := by decide +kernel
theorem dL_step_146 : decode cL_step 146 = .ok (.aload 6, 2) := by decide +kernel
theorem dL_step_148 : decode cL_step 148 = .ok (.iconst 1, 1) := by decide +kernel
theorem dL_step_149 : decode cL_step 149 = .ok (.iaload, 1) := by decide +kernel
theorem dL_step_150 : decode cL_step 150 = .ok (.iconst 1, 1) := by decide +kernel
theorem dL_step_151 : decode cL_step 151 = .ok (.if_icmp .ne 31, 3) := by decide +kernel
theorem dL_step_154 : decode cL_step 154 = .ok (.aload_n 2, 1) := by decide +kernel
theorem dL_step_155 : decode cL_step 155 = .ok (.iload 11, 2) := by decide +kernel
theorem dL_step_157 : decode cL_step 157 = .ok (.iaload, 1) := by decide +kernel
theorem dL_step_158 : decode cL_step 158 = .ok (.ifCond .le 24, 3) := by decide +kernel
theorem dL_step_161 : decode cL_step 161 = .ok (.aload 4, 2) := by decide +kernel
theorem dL_step_163 : decode cL_step 163 = .ok (.aload_n 0, 1) := by decide +kernel
theorem dL_step_164 : decode cL_step 164 = .ok (.iload 8, 2) := by decide +kernel
theorem dL_step_166 : decode cL_step 166 = .ok (.iconst 2, 1) := by decide +kernel
theorem dL_step_167 : decode cL_step 167 = .ok (.isub, 1) := by decide +kernel
theorem dL_step_168 : decode cL_step 168 = .ok (.iaload, 1) := by decide +kernel
theorem dL_step_169 : decode cL_step 169 = .ok (.iaload, 1) := by decide +kernel
theorem dL_step_170 : decode cL_step 170 = .ok (.aload 4, 2) := by decide +kernel
theorem dL_step_172 : decode cL_step 172 = .ok (.iload 10, 2) := by decide +kernel
theorem dL_step_174 : decode cL_step 174 = .ok (.iaload, 1) := by decide +kernel
theorem dL_step_175 : decode cL_step 175 = .ok (.if_icmp .ne 7, 3) := by decide +kernel
theorem dL_step_178 : decode cL_step 178 = .ok (.iconst 1, 1) := by decide +kernel
theorem dL_step_179 : decode cL_step 179 = .ok (.goto 4, 3) := by decide +kernel
theorem dL_step_182 : decode cL_step 182 = .ok (.iconst 0, 1) := by decide +kernel
theorem dL_step_183 : decode cL_step 183 = .ok (.istore 12, 2) := by decide +kernel
theorem dL_step_185 : decode cL_step 185 = .ok (.iload 12, 2) := by decide +kernel
theorem dL_step_187 : decode cL_step 187 = .ok (.ifCond .eq 29, 3) := by decide +kernel
theorem dL_step_190 : decode cL_step 190 = .ok (.aload 5, 2) := by decide +kernel
theorem dL_step_192 : decode cL_step 192 = .ok (.aload_n 0, 1) := by decide +kernel
theorem dL_step_193 : decode cL_step 193 = .ok (.iload 8, 2) := by decide +kernel
theorem dL_step_195 : decode cL_step 195 = .ok (.iconst 2, 1) := by decide +kernel
theorem dL_step_196 : decode cL_step 196 = .ok (.isub, 1) := by decide +kernel
theorem dL_step_197 : decode cL_step 197 = .ok (.iaload, 1) := by decide +kernel
theorem dL_step_198 : decode cL_step 198 = .ok (.dup2, 1) := by decide +kernel
theorem dL_step_199 : decode cL_step 199 = .ok (.iaload, 1) := by decide +kernel
theorem dL_step_200 : decode cL_step 200 = .ok (.aload 5, 2) := by decide +kernel
theorem dL_step_202 : decode cL_step 202 = .ok (.iload 10, 2) := by decide +kernel
theorem dL_step_204 : decode cL_step 204 = .ok (.iaload, 1) := by decide +kernel
theorem dL_step_205 : decode cL_step 205 = .ok (.iadd, 1) := by decide +kernel
theorem dL_step_206 : decode cL_step 206 = .ok (.iastore, 1) := by decide +kernel
theorem dL_step_207 : decode cL_step 207 = .ok (.aload 5, 2) := by decide +kernel
theorem dL_step_209 : decode cL_step 209 = .ok (.iload 10, 2) := by decide +kernel
theorem dL_step_211 : decode cL_step 211 = .ok (.iconst 0, 1) := by decide +kernel
theorem dL_step_212 : decode cL_step 212 = .ok (.iastore, 1) := by decide +kernel
theorem dL_step_213 : decode cL_step 213 = .ok (.goto 19, 3) := by decide +kernel
theorem dL_step_216 : decode cL_step 216 = .ok (.aload_n 0, 1) := by decide +kernel
theorem dL_step_217 : decode cL_step 217 = .ok (.iload 8, 2) := by decide +kernel
theorem dL_step_219 : decode cL_step 219 = .ok (.iconst 1, 1) := by decide +kernel
theorem dL_step_220 : decode cL_step 220 = .ok (.isub, 1) := by decide +kernel
theorem dL_step_221 : decode cL_step 221 = .ok (.iload 10, 2) := by decide +kernel
theorem dL_step_223 : decode cL_step 223 = .ok (.iastore, 1) := by decide +kernel
theorem dL_step_224 : decode cL_step 224 = .ok (.aload_n 2, 1) := by decide +kernel
theorem dL_step_225 : decode cL_step 225 = .ok (.iload 11, 2) := by decide +kernel
theorem dL_step_227 : decode cL_step 227 = .ok (.dup2, 1) := by decide +kernel
theorem dL_step_228 : decode cL_step 228 = .ok (.iaload, 1) := by decide +kernel
theorem dL_step_229 : decode cL_step 229 = .ok (.iconst 1, 1) := by decide +kernel
theorem dL_step_230 : decode cL_step 230 = .ok (.iadd, 1) := by decide +kernel
theorem dL_step_231 : decode cL_step 231 = .ok (.iastore, 1) := by decide +kernel
theorem dL_step_232 : decode cL_step 232 = .ok (.aload 6, 2) := by decide +kernel
theorem dL_step_234 : decode cL_step 234 = .ok (.bipush 7, 2) := by decide +kernel
theorem dL_step_236 : decode cL_step 236 = .ok (.dup2, 1) := by decide +kernel
theorem dL_step_237 : decode cL_step 237 = .ok (.iaload, 1) := by decide +kernel
theorem dL_step_238 : decode cL_step 238 = .ok (.iload 12, 2) := by decide +kernel
theorem dL_step_240 : decode cL_step 240 = .ok (.ifCond .eq 7, 3) := by decide +kernel
theorem dL_step_243 : decode cL_step 243 = .ok (.iconst 1, 1) := by decide +kernel
theorem dL_step_244 : decode cL_step 244 = .ok (.goto 4, 3) := by decide +kernel
theorem dL_step_247 : decode cL_step 247 = .ok (.iconst 2, 1) := by decide +kernel
theorem dL_step_248 : decode cL_step 248 = .ok (.iadd, 1) := by decide +kernel
theorem dL_step_249 : decode cL_step 249 = .ok (.iastore, 1) := by decide +kernel
theorem dL_step_250 : decode cL_step 250 = .ok (.aload_n 2, 1) := by decide +kernel
theorem dL_step_251 : decode cL_step 251 = .ok (.aload_n 3, 1) := by decide +kernel
theorem dL_step_252 : decode cL_step 252 = .ok (.aload 6, 2) := by decide +kernel
theorem dL_step_254 : decode cL_step 254 = .ok (.iconst 1, 1) := by decide +kernel
theorem dL_step_255 : decode cL_step 255 = .ok (.iconst 1, 1) := by decide +kernel
theorem dL_step_256 : decode cL_step 256 = .ok (.invokestatic 26, 3) := by decide +kernel
theorem dL_step_259 : decode cL_step 259 = .ok (.ifCond .ne 37, 3) := by decide +kernel
theorem dL_step_262 : decode cL_step 262 = .ok (.aload_n 1, 1) := by decide +kernel
theorem dL_step_263 : decode cL_step 263 = .ok (.iload 11, 2) := by decide +kernel
theorem dL_step_265 : decode cL_step 265 = .ok (.aload 6, 2) := by decide +kernel
theorem dL_step_267 : decode cL_step 267 = .ok (.iconst 4, 1) := by decide +kernel
theorem dL_step_268 : decode cL_step 268 = .ok (.iaload, 1) := by decide +kernel
theorem dL_step_269 : decode cL_step 269 = .ok (.iastore, 1) := by decide +kernel
theorem dL_step_270 : decode cL_step 270 = .ok (.aload_n 3, 1) := by decide +kernel
theorem dL_step_271 : decode cL_step 271 = .ok (.iload 11, 2) := by decide +kernel
theorem dL_step_273 : decode cL_step 273 = .ok (.iconst 0, 1) := by decide +kernel
theorem dL_step_274 : decode cL_step 274 = .ok (.iastore, 1) := by decide +kernel
theorem dL_step_275 : decode cL_step 275 = .ok (.aload 6, 2) := by decide +kernel
theorem dL_step_277 : decode cL_step 277 = .ok (.iconst 4, 1) := by decide +kernel
theorem dL_step_278 : decode cL_step 278 = .ok (.dup2, 1) := by decide +kernel
theorem dL_step_279 : decode cL_step 279 = .ok (.iaload, 1) := by decide +kernel
theorem dL_step_280 : decode cL_step 280 = .ok (.iconst 1, 1) := by decide +kernel
theorem dL_step_281 : decode cL_step 281 = .ok (.iadd, 1) := by decide +kernel
theorem dL_step_282 : decode cL_step 282 = .ok (.iastore, 1) := by decide +kernel
theorem dL_step_283 : decode cL_step 283 = .ok (.aload 6, 2) := by decide +kernel
theorem dL_step_285 : decode cL_step 285 = .ok (.iconst 5, 1) := by decide +kernel
theorem dL_step_286 : decode cL_step 286 = .ok (.iconst 0, 1) := by decide +kernel
theorem dL_step_287 : decode cL_step 287 = .ok (.iastore, 1) := by decide +kernel
theorem dL_step_288 : decode cL_step 288 = .ok (.aload_n 1, 1) := by decide +kernel
theorem dL_step_289 : decode cL_step 289 = .ok (.aload_n 2, 1) := by decide +kernel
theorem dL_step_290 : decode cL_step 290 = .ok (.aload_n 3, 1) := by decide +kernel
theorem dL_step_291 : decode cL_step 291 = .ok (.aload 6, 2) := by decide +kernel
theorem dL_step_293 : decode cL_step 293 = .ok (.invokestatic 34, 3) := by decide +kernel
theorem dL_step_296 : decode cL_step 296 = .ok (.return_, 1) := by decide +kernel
set_option maxRecDepth 20000 in
theorem ggL_grant_L_write : GoodIn wsL_grant wsL_write := goodIn_r _ [4, 5, 6, 3, 7, 8, 9, 10] (by decide +kernel) (by decide +kernel)
set_option maxRecDepth 20000 in
theorem gL_grant_L_write : GoodIn wsL_grant (va_wsS RL 22 yL_write wsL_write) := goodIn_app (goodIn_of _ (by decide +kernel)) ggL_grant_L_write
set_option maxRecDepth 20000 in
theorem ggL_grant_L_kinds : GoodIn wsL_grant wsL_kinds := goodIn_r _ [13] (by decide +kernel) (by decide +kernel)
set_option maxRecDepth 20000 in
theorem gL_grant_L_kinds : GoodIn wsL_grant (va_wsS RL 26 yL_kinds wsL_kinds) := goodIn_app (goodIn_of _ (by decide +kernel)) ggL_grant_L_kinds
set_option maxRecDepth 20000 in
theorem ggL_grant_L_ways : GoodIn wsL_grant wsL_ways := goodIn_r _ [16] (by decide +kernel) (by decide +kernel)
set_option maxRecDepth 20000 in
theorem gL_grant_L_ways : GoodIn wsL_grant (va_wsS RL 30 yL_ways wsL_ways) := goodIn_app (goodIn_of _ (by decide +kernel)) ggL_grant_L_ways
set_option maxRecDepth 20000 in
theorem ggL_grant_L_clean : GoodIn wsL_grant wsL_clean := goodIn_r _ [19] (by decide +kernel) (by decide +kernel)
set_option maxRecDepth 20000 in
theorem gL_grant_L_clean : GoodIn wsL_grant (va_wsS RL 34 yL_clean wsL_clean) := goodIn_app (goodIn_of _ (by decide +kernel)) ggL_grant_L_clean
