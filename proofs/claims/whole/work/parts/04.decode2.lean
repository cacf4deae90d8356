theorem dX6_flush_0 : decode cX6_flush 0 = .ok (.aload_n 0, 1) := by decide +kernel
theorem dX6_flush_1 : decode cX6_flush 1 = .ok (.getfield 10, 3) := by decide +kernel
theorem dX6_flush_4 : decode cX6_flush 4 = .ok (.getfield 47, 3) := by decide +kernel
theorem dX6_flush_7 : decode cX6_flush 7 = .ok (.ifCond .ne 6, 3) := by decide +kernel
theorem dX6_flush_10 : decode cX6_flush 10 = .ok (.bipush (-3), 2) := by decide +kernel
theorem dX6_flush_12 : decode cX6_flush 12 = .ok (.ireturn, 1) := by decide +kernel
theorem dX6_flush_13 : decode cX6_flush 13 = .ok (.aload_n 0, 1) := by decide +kernel
theorem dX6_flush_14 : decode cX6_flush 14 = .ok (.getfield 25, 3) := by decide +kernel
theorem dX6_flush_17 : decode cX6_flush 17 = .ok (.aload_n 0, 1) := by decide +kernel
theorem dX6_flush_18 : decode cX6_flush 18 = .ok (.getfield 10, 3) := by decide +kernel
theorem dX6_flush_21 : decode cX6_flush 21 = .ok (.invokevirtual 61, 3) := by decide +kernel
theorem dX6_flush_24 : decode cX6_flush 24 = .ok (.aload_n 0, 1) := by decide +kernel
theorem dX6_flush_25 : decode cX6_flush 25 = .ok (.getfield 10, 3) := by decide +kernel
theorem dX6_flush_28 : decode cX6_flush 28 = .ok (.invokevirtual 80, 3) := by decide +kernel
theorem dX6_flush_31 : decode cX6_flush 31 = .ok (.ireturn, 1) := by decide +kernel
def ck_wsX6_finish : List (List Cond) := [[.code yX6_finish cX6_finish 1 (some .int)], wsX6_finish_r1, wsX6_finish_r2, wsX6_finish_r3, wsX6_finish_r4, wsX6_finish_r5]
theorem ck_wsX6_finish_m : ∀ c ∈ ck_wsX6_finish, ∀ w ∈ c, w ∈ wsX6_finish := List.forall_mem_cons.mpr ⟨fun w h => List.mem_cons.mpr (Or.inl (List.mem_singleton.mp h)), List.forall_mem_cons.mpr ⟨fun _ h => (List.mem_cons_of_mem _ (List.mem_append_left _ (List.mem_append_left _ (List.mem_append_left _ (List.mem_append_left _ (List.mem_append_left _ (List.mem_append_left _ h))))))), List.forall_mem_cons.mpr ⟨fun _ h => (List.mem_cons_of_mem _ (List.mem_append_left _ (List.mem_append_left _ (List.mem_append_left _ (List.mem_append_left _ (List.mem_append_left _ (List.mem_append_right _ (List.mem_append_left _ h)))))))), List.forall_mem_cons.mpr ⟨fun _ h => (List.mem_cons_of_mem _ (List.mem_append_left _ (List.mem_append_left _ (List.mem_append_left _ (List.mem_append_left _ (List.mem_append_left _ (List.mem_append_right _ (List.mem_append_right _ (List.mem_append_left _ h))))))))), List.forall_mem_cons.mpr ⟨fun _ h => (List.mem_cons_of_mem _ (List.mem_append_left _ (List.mem_append_left _ (List.mem_append_left _ (List.mem_append_left _ (List.mem_append_left _ (List.mem_append_right _ (List.mem_append_right _ (List.mem_append_right _ (List.mem_append_left _ h)))))))))), List.forall_mem_cons.mpr ⟨fun _ h => (List.mem_cons_of_mem _ (List.mem_append_left _ (List.mem_append_left _ (List.mem_append_left _ (List.mem_append_left _ (List.mem_append_left _ (List.mem_append_right _ (List.mem_append_right _ (List.mem_append_right _ (List.mem_append_right _ h)))))))))), fun _ h => absurd h List.not_mem_nil⟩⟩⟩⟩⟩⟩
set_option maxRecDepth 100000 in
theorem ck_wsX6_finish_g : ∀ w ∈ wsX6_finish, goodWord w = true := List.all_eq_true.mp (by decide +kernel)
set_option maxRecDepth 100000 in
theorem ggX6_finish_X1_remember : GoodIn wsX6_finish wsX1_remember := goodIn_ca (goodIn_ca (goodIn_ca (goodIn_ca (goodIn_2 ck_wsX6_finish [(1, 9), (1, 10), (1, 11), (1, 12), (1, 13), (1, 14), (1, 8), (1, 15), (1, 16), (1, 17), (1, 18), (1, 19), (1, 20), (1, 21), (1, 22), (1, 23), (2, 0), (2, 1), (2, 2), (2, 3), (2, 4), (2, 5), (2, 6), (2, 7), (2, 8), (2, 9), (2, 10), (2, 11), (2, 12), (2, 13), (2, 14), (2, 15), (2, 16), (2, 17), (2, 18), (2, 19), (2, 20), (2, 21), (2, 22), (2, 23), (3, 0), (3, 1), (3, 2), (3, 3), (3, 4), (3, 5), (3, 6), (3, 7), (3, 8), (3, 9), (3, 10), (3, 11), (3, 12), (3, 13), (3, 14), (3, 15), (3, 16), (3, 17)] ck_wsX6_finish_m ck_wsX6_finish_g rfl) (goodIn_b (fun _ h => (List.mem_cons_of_mem _ (List.mem_append_left _ (List.mem_append_right _ h)))) ck_wsX6_finish_g)) (goodIn_b (fun _ h => (List.mem_cons_of_mem _ (List.mem_append_left _ (List.mem_append_left _ (List.mem_append_left _ (List.mem_append_right _ h)))))) ck_wsX6_finish_g)) (goodIn_b (fun _ h => (List.mem_cons_of_mem _ (List.mem_append_right _ h))) ck_wsX6_finish_g)) (goodIn_b (fun _ h => (List.mem_cons_of_mem _ (List.mem_append_left _ (List.mem_append_left _ (List.mem_append_right _ h))))) ck_wsX6_finish_g)
set_option maxRecDepth 20000 in
theorem gX6_finish_X1_remember : GoodIn wsX6_finish (wsV RX6 61 RX1 yX1_remember wsX1_remember) := goodIn_app (goodIn_of _ (by decide +kernel)) ggX6_finish_X1_remember
set_option maxRecDepth 100000 in
theorem ggX6_finish_X5_endCollecting : GoodIn wsX6_finish wsX5_endCollecting := goodIn_ca (goodIn_ca (goodIn_ca (goodIn_2 ck_wsX6_finish [(3, 21), (2, 5), (3, 22), (3, 23), (4, 0), (2, 0), (4, 1), (2, 12), (2, 2), (2, 18), (4, 2), (4, 3), (4, 4), (4, 5), (4, 6), (4, 7), (4, 8), (4, 9), (2, 7), (4, 10), (4, 11), (4, 12), (3, 1), (4, 13), (3, 3), (4, 14), (4, 15), (4, 16), (4, 17), (4, 18), (4, 19), (4, 20), (4, 21), (3, 6), (4, 22), (4, 23), (5, 0), (5, 1), (2, 21), (2, 3), (5, 2), (5, 3), (5, 4), (3, 11), (5, 5), (3, 17), (3, 13), (3, 15), (3, 16)] ck_wsX6_finish_m ck_wsX6_finish_g rfl) (goodIn_b (fun _ h => (List.mem_cons_of_mem _ (List.mem_append_left _ (List.mem_append_left _ (List.mem_append_left _ (List.mem_append_right _ h)))))) ck_wsX6_finish_g)) (goodIn_b (fun _ h => (List.mem_cons_of_mem _ (List.mem_append_right _ h))) ck_wsX6_finish_g)) (goodIn_b (fun _ h => (List.mem_cons_of_mem _ (List.mem_append_left _ (List.mem_append_left _ (List.mem_append_right _ h))))) ck_wsX6_finish_g)
set_option maxRecDepth 20000 in
theorem gX6_finish_X5_endCollecting : GoodIn wsX6_finish (wsV RX6 84 RX5 yX5_endCollecting wsX5_endCollecting) := goodIn_app (goodIn_of _ (by decide +kernel)) ggX6_finish_X5_endCollecting
theorem dX6_finish_0 : decode cX6_finish 0 = .ok (.aload_n 0, 1) := by decide +kernel
theorem dX6_finish_1 : decode cX6_finish 1 = .ok (.getfield 10, 3) := by decide +kernel
theorem dX6_finish_4 : decode cX6_finish 4 = .ok (.getfield 47, 3) := by decide +kernel
theorem dX6_finish_7 : decode cX6_finish 7 = .ok (.ifCond .ne 6, 3) := by decide +kernel
theorem dX6_finish_10 : decode cX6_finish 10 = .ok (.bipush (-3), 2) := by decide +kernel
theorem dX6_finish_12 : decode cX6_finish 12 = .ok (.ireturn, 1) := by decide +kernel
theorem dX6_finish_13 : decode cX6_finish 13 = .ok (.aload_n 0, 1) := by decide +kernel
theorem dX6_finish_14 : decode cX6_finish 14 = .ok (.getfield 25, 3) := by decide +kernel
theorem dX6_finish_17 : decode cX6_finish 17 = .ok (.aload_n 0, 1) := by decide +kernel
theorem dX6_finish_18 : decode cX6_finish 18 = .ok (.getfield 10, 3) := by decide +kernel
theorem dX6_finish_21 : decode cX6_finish 21 = .ok (.invokevirtual 61, 3) := by decide +kernel
theorem dX6_finish_24 : decode cX6_finish 24 = .ok (.aload_n 0, 1) := by decide +kernel
theorem dX6_finish_25 : decode cX6_finish 25 = .ok (.getfield 10, 3) := by decide +kernel
theorem dX6_finish_28 : decode cX6_finish 28 = .ok (.invokevirtual 84, 3) := by decide +kernel
theorem dX6_finish_31 : decode cX6_finish 31 = .ok (.aload_n 0, 1) := by decide +kernel
theorem dX6_finish_32 : decode cX6_finish 32 = .ok (.getfield 10, 3) := by decide +kernel
theorem dX6_finish_35 : decode cX6_finish 35 = .ok (.getfield 87, 3) := by decide +kernel
theorem dX6_finish_38 : decode cX6_finish 38 = .ok (.getfield 91, 3) := by decide +kernel
theorem dX6_finish_41 : decode cX6_finish 41 = .ok (.ireturn, 1) := by decide +kernel
set_option maxRecDepth 20000 in
theorem ggX6_isCollecting_X6_asNumber : GoodIn wsX6_isCollecting wsX6_asNumber := goodIn_r _ [6] (by decide +kernel) (by decide +kernel)
set_option maxRecDepth 20000 in
theorem gX6_isCollecting_X6_asNumber : GoodIn wsX6_isCollecting (va_wsS RX6 76 yX6_asNumber wsX6_asNumber) := goodIn_app (goodIn_of _ (by decide +kernel)) ggX6_isCollecting_X6_asNumber
theorem dX6_isCollecting_0 : decode cX6_isCollecting 0 = .ok (.aload_n 0, 1) := by decide +kernel
theorem dX6_isCollecting_1 : decode cX6_isCollecting 1 = .ok (.getfield 10, 3) := by decide +kernel
theorem dX6_isCollecting_4 : decode cX6_isCollecting 4 = .ok (.getfield 47, 3) := by decide +kernel
theorem dX6_isCollecting_7 : decode cX6_isCollecting 7 = .ok (.invokestatic 76, 3) := by decide +kernel
theorem dX6_isCollecting_10 : decode cX6_isCollecting 10 = .ok (.ireturn, 1) := by decide +kernel
def ck_wsX6_grant : List (List Cond) := [[.code yX6_grant cX6_grant 2 (some .int)], wsX6_grant_r1, wsX6_grant_r2, wsX6_grant_r3, wsX6_grant_r4, wsX6_grant_r5, wsX6_grant_r6]
theorem ck_wsX6_grant_m : ∀ c ∈ ck_wsX6_grant, ∀ w ∈ c, w ∈ wsX6_grant := List.forall_mem_cons.mpr ⟨fun w h => List.mem_cons.mpr (Or.inl (List.mem_singleton.mp h)), List.forall_mem_cons.mpr ⟨fun _ h => (List.mem_cons_of_mem _ (List.mem_append_left _ (List.mem_append_left _ (List.mem_append_left _ (List.mem_append_left _ (List.mem_append_left _ (List.mem_append_left _ h))))))), List.forall_mem_cons.mpr ⟨fun _ h => (List.mem_cons_of_mem _ (List.mem_append_left _ (List.mem_append_left _ (List.mem_append_left _ (List.mem_append_left _ (List.mem_append_left _ (List.mem_append_right _ (List.mem_append_left _ h)))))))), List.forall_mem_cons.mpr ⟨fun _ h => (List.mem_cons_of_mem _ (List.mem_append_left _ (List.mem_append_left _ (List.mem_append_left _ (List.mem_append_left _ (List.mem_append_left _ (List.mem_append_right _ (List.mem_append_right _ (List.mem_append_left _ h))))))))), List.forall_mem_cons.mpr ⟨fun _ h => (List.mem_cons_of_mem _ (List.mem_append_left _ (List.mem_append_left _ (List.mem_append_left _ (List.mem_append_left _ (List.mem_append_left _ (List.mem_append_right _ (List.mem_append_right _ (List.mem_append_right _ (List.mem_append_left _ h)))))))))), List.forall_mem_cons.mpr ⟨fun _ h => (List.mem_cons_of_mem _ (List.mem_append_left _ (List.mem_append_left _ (List.mem_append_left _ (List.mem_append_left _ (List.mem_append_left _ (List.mem_append_right _ (List.mem_append_right _ (List.mem_append_right _ (List.mem_append_right _ (List.mem_append_left _ h))))))))))), List.forall_mem_cons.mpr ⟨fun _ h => (List.mem_cons_of_mem _ (List.mem_append_left _ (List.mem_append_left _ (List.mem_append_left _ (List.mem_append_left _ (List.mem_append_left _ (List.mem_append_right _ (List.mem_append_right _ (List.mem_append_right _ (List.mem_append_right _ (List.mem_append_right _ h))))))))))), fun _ h => absurd h List.not_mem_nil⟩⟩⟩⟩⟩⟩⟩
set_option maxRecDepth 100000 in
theorem ck_wsX6_grant_g : ∀ w ∈ wsX6_grant, goodWord w = true := List.all_eq_true.mp (by decide +kernel)
set_option maxRecDepth 100000 in
theorem ggX6_grant_X6_isMemorySize : GoodIn wsX6_grant wsX6_isMemorySize := goodIn_2 ck_wsX6_grant [(1, 5)] ck_wsX6_grant_m ck_wsX6_grant_g rfl
set_option maxRecDepth 20000 in
theorem gX6_grant_X6_isMemorySize : GoodIn wsX6_grant (va_wsS RX6 94 yX6_isMemorySize wsX6_isMemorySize) := goodIn_app (goodIn_of _ (by decide +kernel)) ggX6_grant_X6_isMemorySize
set_option maxRecDepth 100000 in
theorem ggX6_grant_X1_remember : GoodIn wsX6_grant wsX1_remember := goodIn_ca (goodIn_ca (goodIn_ca (goodIn_ca (goodIn_2 ck_wsX6_grant [(1, 10), (1, 11), (1, 12), (1, 13), (1, 14), (1, 15), (1, 9), (1, 16), (1, 17), (1, 18), (1, 19), (1, 20), (1, 21), (1, 22), (1, 23), (2, 0), (2, 1), (2, 2), (2, 3), (2, 4), (2, 5), (2, 6), (2, 7), (2, 8), (2, 9), (2, 10), (2, 11), (2, 12), (2, 13), (2, 14), (2, 15), (2, 16), (2, 17), (2, 18), (2, 19), (2, 20), (2, 21), (2, 22), (2, 23), (3, 0), (3, 1), (3, 2), (3, 3), (3, 4), (3, 5), (3, 6), (3, 7), (3, 8), (3, 9), (3, 10), (3, 11), (3, 12), (3, 13), (3, 14), (3, 15), (3, 16), (3, 17), (3, 18)] ck_wsX6_grant_m ck_wsX6_grant_g rfl) (goodIn_b (fun _ h => (List.mem_cons_of_mem _ (List.mem_append_left _ (List.mem_append_left _ (List.mem_append_left _ (List.mem_append_right _ h)))))) ck_wsX6_grant_g)) (goodIn_b (fun _ h => (List.mem_cons_of_mem _ (List.mem_append_left _ (List.mem_append_left _ (List.mem_append_right _ h))))) ck_wsX6_grant_g)) (goodIn_b (fun _ h => (List.mem_cons_of_mem _ (List.mem_append_left _ (List.mem_append_right _ h)))) ck_wsX6_grant_g)) (goodIn_b (fun _ h => (List.mem_cons_of_mem _ (List.mem_append_right _ h))) ck_wsX6_grant_g)
set_option maxRecDepth 20000 in
theorem gX6_grant_X1_remember : GoodIn wsX6_grant (wsV RX6 61 RX1 yX1_remember wsX1_remember) := goodIn_app (goodIn_of _ (by decide +kernel)) ggX6_grant_X1_remember
set_option maxRecDepth 100000 in
theorem ggX6_grant_X5_resize : GoodIn wsX6_grant wsX5_resize := goodIn_ca (goodIn_ca (goodIn_ca (goodIn_2 ck_wsX6_grant [(3, 22), (2, 7), (2, 6), (2, 13), (2, 14), (3, 23), (4, 0), (4, 1), (4, 2), (2, 1), (4, 3), (2, 3), (2, 19), (4, 4), (4, 5), (4, 6), (4, 7), (4, 8), (4, 9), (4, 10), (4, 11), (2, 8), (4, 12), (4, 13), (4, 14), (3, 2), (4, 15), (3, 4), (4, 16), (4, 17), (4, 18), (4, 19), (4, 20), (4, 21), (4, 22), (4, 23), (3, 7), (5, 0), (5, 1), (5, 2), (5, 3), (2, 22), (2, 4), (5, 4), (5, 5), (5, 6), (3, 12), (5, 7), (3, 18), (3, 14), (3, 16), (3, 17), (5, 8), (5, 9), (5, 10), (5, 11), (5, 12), (5, 13), (5, 14), (5, 15), (5, 16), (5, 17), (5, 18), (5, 19), (2, 21), (5, 20), (5, 21), (5, 22), (5, 23), (2, 18), (2, 16), (6, 0), (6, 1), (6, 2), (6, 3), (6, 4), (6, 5), (6, 6), (6, 7), (6, 8), (6, 9), (6, 10), (6, 11)] ck_wsX6_grant_m ck_wsX6_grant_g rfl) (goodIn_b (fun _ h => (List.mem_cons_of_mem _ (List.mem_append_left _ (List.mem_append_left _ (List.mem_append_right _ h))))) ck_wsX6_grant_g)) (goodIn_b (fun _ h => (List.mem_cons_of_mem _ (List.mem_append_right _ h))) ck_wsX6_grant_g)) (goodIn_b (fun _ h => (List.mem_cons_of_mem _ (List.mem_append_left _ (List.mem_append_right _ h)))) ck_wsX6_grant_g)
set_option maxRecDepth 20000 in
theorem gX6_grant_X5_resize : GoodIn wsX6_grant (wsV RX6 97 RX5 yX5_resize wsX5_resize) := goodIn_app (goodIn_of _ (by decide +kernel)) ggX6_grant_X5_resize
theorem dX6_grant_0 : decode cX6_grant 0 = .ok (.iload_n 1, 1) := by decide +kernel
theorem dX6_grant_1 : decode cX6_grant 1 = .ok (.invokestatic 94, 3) := by decide +kernel
theorem dX6_grant_4 : decode cX6_grant 4 = .ok (.ifCond .ne 6, 3) := by decide +kernel
theorem dX6_grant_7 : decode cX6_grant 7 = .ok (.bipush (-2), 2) := by decide +kernel
theorem dX6_grant_9 : decode cX6_grant 9 = .ok (.ireturn, 1) := by decide +kernel
theorem dX6_grant_10 : decode cX6_grant 10 = .ok (.aload_n 0, 1) := by decide +kernel
theorem dX6_grant_11 : decode cX6_grant 11 = .ok (.getfield 25, 3) := by decide +kernel
theorem dX6_grant_14 : decode cX6_grant 14 = .ok (.aload_n 0, 1) := by decide +kernel
theorem dX6_grant_15 : decode cX6_grant 15 = .ok (.getfield 10, 3) := by decide +kernel
theorem dX6_grant_18 : decode cX6_grant 18 = .ok (.invokevirtual 61, 3) := by decide +kernel
theorem dX6_grant_21 : decode cX6_grant 21 = .ok (.aload_n 0, 1) := by decide +kernel
theorem dX6_grant_22 : decode cX6_grant 22 = .ok (.getfield 10, 3) := by decide +kernel
theorem dX6_grant_25 : decode cX6_grant 25 = .ok (.iload_n 1, 1) := by decide +kernel
theorem dX6_grant_26 : decode cX6_grant 26 = .ok (.invokevirtual 97, 3) := by decide +kernel
theorem dX6_grant_29 : decode cX6_grant 29 = .ok (.ireturn, 1) := by decide +kernel
set_option maxRecDepth 20000 in
theorem ggX6_memory_X5_memoryInUse : GoodIn wsX6_memory wsX5_memoryInUse := goodIn_r _ [7, 8, 9, 10, 11, 12, 13, 14, 6, 15, 32, 33, 34, 35, 36, 37, 38, 39, 40, 41, 42, 43, 44, 45, 46, 47, 48, 49, 50, 51] (by decide +kernel) (by decide +kernel)
set_option maxRecDepth 20000 in
theorem gX6_memory_X5_memoryInUse : GoodIn wsX6_memory (wsV RX6 103 RX5 yX5_memoryInUse wsX5_memoryInUse) := goodIn_app (goodIn_of _ (by decide +kernel)) ggX6_memory_X5_memoryInUse
set_option maxRecDepth 20000 in
theorem ggX6_memory_X5_ways : GoodIn wsX6_memory wsX5_ways := goodIn_r _ [19, 20, 21, 22, 23, 24, 32, 33, 34, 35, 36, 37, 38, 39, 40, 41, 42, 43, 44, 45, 46, 47] (by decide +kernel) (by decide +kernel)
set_option maxRecDepth 20000 in
theorem gX6_memory_X5_ways : GoodIn wsX6_memory (wsV RX6 106 RX5 yX5_ways wsX5_ways) := goodIn_app (goodIn_of _ (by decide +kernel)) ggX6_memory_X5_ways
theorem dX6_memory_0 : decode cX6_memory 0 = .ok (.iload_n 1, 1) := by decide +kernel
theorem dX6_memory_1 : decode cX6_memory 1 = .ok (.tableswitch 51 0 2 #[27, 35, 43], 27) := by decide +kernel
theorem dX6_memory_28 : decode cX6_memory 28 = .ok (.aload_n 0, 1) := by decide +kernel
theorem dX6_memory_29 : decode cX6_memory 29 = .ok (.getfield 10, 3) := by decide +kernel
theorem dX6_memory_32 : decode cX6_memory 32 = .ok (.getfield 100, 3) := by decide +kernel
theorem dX6_memory_35 : decode cX6_memory 35 = .ok (.ireturn, 1) := by decide +kernel
theorem dX6_memory_36 : decode cX6_memory 36 = .ok (.aload_n 0, 1) := by decide +kernel
theorem dX6_memory_37 : decode cX6_memory 37 = .ok (.getfield 10, 3) := by decide +kernel
theorem dX6_memory_40 : decode cX6_memory 40 = .ok (.invokevirtual 103, 3) := by decide +kernel
theorem dX6_memory_43 : decode cX6_memory 43 = .ok (.ireturn, 1) := by decide +kernel
theorem dX6_memory_44 : decode cX6_memory 44 = .ok (.aload_n 0, 1) := by decide +kernel
theorem dX6_memory_45 : decode cX6_memory 45 = .ok (.getfield 10, 3) := by decide +kernel
theorem dX6_memory_48 : decode cX6_memory 48 = .ok (.invokevirtual 106, 3) := by decide +kernel
theorem dX6_memory_51 : decode cX6_memory 51 = .ok (.ireturn, 1) := by decide +kernel
theorem dX6_memory_52 : decode cX6_memory 52 = .ok (.bipush (-2), 2) := by decide +kernel
theorem dX6_memory_54 : decode cX6_memory 54 = .ok (.ireturn, 1) := by decide +kernel
set_option maxRecDepth 20000 in
theorem ggX6_inMemory_X5_isInMemory : GoodIn wsX6_inMemory wsX5_isInMemory := goodIn_r _ [7, 8, 27, 28, 29, 30, 31, 32, 33, 34, 35, 36, 37, 38, 39, 40, 41, 42] (by decide +kernel) (by decide +kernel)
set_option maxRecDepth 20000 in
theorem gX6_inMemory_X5_isInMemory : GoodIn wsX6_inMemory (wsV RX6 109 RX5 yX5_isInMemory wsX5_isInMemory) := goodIn_app (goodIn_of _ (by decide +kernel)) ggX6_inMemory_X5_isInMemory
set_option maxRecDepth 20000 in
theorem ggX6_inMemory_X5_memoryRowAt : GoodIn wsX6_inMemory wsX5_memoryRowAt := goodIn_r _ [12, 13, 27, 28, 29, 30, 31, 32, 33, 34, 35, 36, 37, 38, 39, 40, 41, 42] (by decide +kernel) (by decide +kernel)
set_option maxRecDepth 20000 in
theorem gX6_inMemory_X5_memoryRowAt : GoodIn wsX6_inMemory (wsV RX6 112 RX5 yX5_memoryRowAt wsX5_memoryRowAt) := goodIn_app (goodIn_of _ (by decide +kernel)) ggX6_inMemory_X5_memoryRowAt
set_option maxRecDepth 20000 in
theorem ggX6_inMemory_X3_keyOf : GoodIn wsX6_inMemory wsX3_keyOf := goodIn_r _ [18, 19, 43, 44, 45, 46] (by decide +kernel) (by decide +kernel)
set_option maxRecDepth 20000 in
theorem gX6_inMemory_X3_keyOf : GoodIn wsX6_inMemory (wsV RX6 115 RX3 yX3_keyOf wsX3_keyOf) := goodIn_app (goodIn_of _ (by decide +kernel)) ggX6_inMemory_X3_keyOf
theorem dX6_inMemory_0 : decode cX6_inMemory 0 = .ok (.aload_n 0, 1) := by decide +kernel
theorem dX6_inMemory_1 : decode cX6_inMemory 1 = .ok (.getfield 10, 3) := by decide +kernel
theorem dX6_inMemory_4 : decode cX6_inMemory 4 = .ok (.iload_n 1, 1) := by decide +kernel
theorem dX6_inMemory_5 : decode cX6_inMemory 5 = .ok (.invokevirtual 109, 3) := by decide +kernel
theorem dX6_inMemory_8 : decode cX6_inMemory 8 = .ok (.ifCond .ne 5, 3) := by decide +kernel
theorem dX6_inMemory_11 : decode cX6_inMemory 11 = .ok (.iconst (-1), 1) := by decide +kernel
theorem dX6_inMemory_12 : decode cX6_inMemory 12 = .ok (.ireturn, 1) := by decide +kernel
theorem dX6_inMemory_13 : decode cX6_inMemory 13 = .ok (.aload_n 0, 1) := by decide +kernel
theorem dX6_inMemory_14 : decode cX6_inMemory 14 = .ok (.getfield 10, 3) := by decide +kernel
theorem dX6_inMemory_17 : decode cX6_inMemory 17 = .ok (.getfield 51, 3) := by decide +kernel
theorem dX6_inMemory_20 : decode cX6_inMemory 20 = .ok (.aload_n 0, 1) := by decide +kernel
theorem dX6_inMemory_21 : decode cX6_inMemory 21 = .ok (.getfield 10, 3) := by decide +kernel
theorem dX6_inMemory_24 : decode cX6_inMemory 24 = .ok (.iload_n 1, 1) := by decide +kernel
theorem dX6_inMemory_25 : decode cX6_inMemory 25 = .ok (.invokevirtual 112, 3) := by decide +kernel
theorem dX6_inMemory_28 : decode cX6_inMemory 28 = .ok (.invokevirtual 115, 3) := by decide +kernel
theorem dX6_inMemory_31 : decode cX6_inMemory 31 = .ok (.ireturn, 1) := by decide +kernel
def ck_wsX6_merge : List (List Cond) := [[.code yX6_merge cX6_merge 1 (some .int)], wsX6_merge_r1, wsX6_merge_r2, wsX6_merge_r3, wsX6_merge_r4, wsX6_merge_r5]
theorem ck_wsX6_merge_m : ∀ c ∈ ck_wsX6_merge, ∀ w ∈ c, w ∈ wsX6_merge := List.forall_mem_cons.mpr ⟨fun w h => List.mem_cons.mpr (Or.inl (List.mem_singleton.mp h)), List.forall_mem_cons.mpr ⟨fun _ h => (List.mem_cons_of_mem _ (List.mem_append_left _ (List.mem_append_left _ (List.mem_append_left _ (List.mem_append_left _ (List.mem_append_left _ (List.mem_append_left _ h))))))), List.forall_mem_cons.mpr ⟨fun _ h => (List.mem_cons_of_mem _ (List.mem_append_left _ (List.mem_append_left _ (List.mem_append_left _ (List.mem_append_left _ (List.mem_append_left _ (List.mem_append_right _ (List.mem_append_left _ h)))))))), List.forall_mem_cons.mpr ⟨fun _ h => (List.mem_cons_of_mem _ (List.mem_append_left _ (List.mem_append_left _ (List.mem_append_left _ (List.mem_append_left _ (List.mem_append_left _ (List.mem_append_right _ (List.mem_append_right _ (List.mem_append_left _ h))))))))), List.forall_mem_cons.mpr ⟨fun _ h => (List.mem_cons_of_mem _ (List.mem_append_left _ (List.mem_append_left _ (List.mem_append_left _ (List.mem_append_left _ (List.mem_append_left _ (List.mem_append_right _ (List.mem_append_right _ (List.mem_append_right _ (List.mem_append_left _ h)))))))))), List.forall_mem_cons.mpr ⟨fun _ h => (List.mem_cons_of_mem _ (List.mem_append_left _ (List.mem_append_left _ (List.mem_append_left _ (List.mem_append_left _ (List.mem_append_left _ (List.mem_append_right _ (List.mem_append_right _ (List.mem_append_right _ (List.mem_append_right _ h)))))))))), fun _ h => absurd h List.not_mem_nil⟩⟩⟩⟩⟩⟩
set_option maxRecDepth 100000 in
theorem ck_wsX6_merge_g : ∀ w ∈ wsX6_merge, goodWord w = true := List.all_eq_true.mp (by decide +kernel)
set_option maxRecDepth 100000 in
theorem ggX6_merge_X5_canBeginMerge : GoodIn wsX6_merge wsX5_canBeginMerge := goodIn_ca (goodIn_ca (goodIn_2 ck_wsX6_merge [(1, 6), (1, 7), (1, 8), (1, 9), (1, 10), (1, 11), (1, 12), (1, 5), (1, 13), (1, 14), (1, 15), (1, 16), (1, 17), (1, 18), (1, 19), (1, 20), (1, 21), (1, 22), (1, 23)] ck_wsX6_merge_m ck_wsX6_merge_g rfl) (goodIn_b (fun _ h => (List.mem_cons_of_mem _ (List.mem_append_left _ (List.mem_append_left _ (List.mem_append_left _ (List.mem_append_right _ h)))))) ck_wsX6_merge_g)) (goodIn_b (fun _ h => (List.mem_cons_of_mem _ (List.mem_append_left _ (List.mem_append_left _ (List.mem_append_right _ h))))) ck_wsX6_merge_g)
set_option maxRecDepth 20000 in
theorem gX6_merge_X5_canBeginMerge : GoodIn wsX6_merge (wsV RX6 118 RX5 yX5_canBeginMerge wsX5_canBeginMerge) := goodIn_app (goodIn_of _ (by decide +kernel)) ggX6_merge_X5_canBeginMerge
set_option maxRecDepth 100000 in
theorem ggX6_merge_X1_remember : GoodIn wsX6_merge wsX1_remember := goodIn_ca (goodIn_ca (goodIn_ca (goodIn_ca (goodIn_2 ck_wsX6_merge [(2, 4), (2, 5), (2, 6), (2, 7), (2, 8), (2, 9), (2, 3), (2, 10), (2, 11), (2, 12), (2, 13), (2, 14), (2, 15), (2, 16), (2, 17), (2, 18), (1, 5), (2, 19), (2, 20), (1, 8), (2, 21), (1, 7), (1, 19), (2, 22), (2, 23), (3, 0), (3, 1), (3, 2), (3, 3), (1, 14), (3, 4), (3, 5), (3, 6), (3, 7), (3, 8), (3, 9), (3, 10), (3, 11), (3, 12), (3, 13), (3, 14), (3, 15), (3, 16), (3, 17), (3, 18), (3, 19), (3, 20), (3, 21), (3, 22), (3, 23), (4, 0), (4, 1), (4, 2), (4, 3), (4, 4), (4, 5), (4, 6), (4, 7)] ck_wsX6_merge_m ck_wsX6_merge_g rfl) (goodIn_b (fun _ h => (List.mem_cons_of_mem _ (List.mem_append_left _ (List.mem_append_right _ h)))) ck_wsX6_merge_g)) (goodIn_b (fun _ h => (List.mem_cons_of_mem _ (List.mem_append_left _ (List.mem_append_left _ (List.mem_append_left _ (List.mem_append_right _ h)))))) ck_wsX6_merge_g)) (goodIn_b (fun _ h => (List.mem_cons_of_mem _ (List.mem_append_right _ h))) ck_wsX6_merge_g)) (goodIn_b (fun _ h => (List.mem_cons_of_mem _ (List.mem_append_left _ (List.mem_append_left _ (List.mem_append_right _ h))))) ck_wsX6_merge_g)
set_option maxRecDepth 20000 in
theorem gX6_merge_X1_remember : GoodIn wsX6_merge (wsV RX6 61 RX1 yX1_remember wsX1_remember) := goodIn_app (goodIn_of _ (by decide +kernel)) ggX6_merge_X1_remember
set_option maxRecDepth 100000 in
theorem ggX6_merge_X5_beginMerge : GoodIn wsX6_merge wsX5_beginMerge := goodIn_ca (goodIn_ca (goodIn_2 ck_wsX6_merge [(4, 11), (1, 8), (1, 9), (1, 20), (1, 21), (1, 22), (1, 23), (1, 14), (3, 4), (3, 9), (1, 15), (1, 16), (1, 17), (1, 5), (1, 18), (1, 19), (4, 12), (4, 13), (4, 14), (4, 1), (4, 15), (4, 7), (4, 16), (4, 17), (4, 18), (4, 19), (4, 6), (4, 20), (4, 21), (4, 22), (4, 23), (4, 3), (5, 0), (5, 1), (5, 2), (5, 3), (4, 5), (5, 4), (5, 5), (5, 6), (5, 7), (5, 8), (5, 9), (5, 10), (5, 11), (5, 12), (4, 4), (3, 0), (3, 1), (3, 2)] ck_wsX6_merge_m ck_wsX6_merge_g rfl) (goodIn_b (fun _ h => (List.mem_cons_of_mem _ (List.mem_append_left _ (List.mem_append_left _ (List.mem_append_left _ (List.mem_append_right _ h)))))) ck_wsX6_merge_g)) (goodIn_b (fun _ h => (List.mem_cons_of_mem _ (List.mem_append_left _ (List.mem_append_left _ (List.mem_append_right _ h))))) ck_wsX6_merge_g)
set_option maxRecDepth 20000 in
theorem gX6_merge_X5_beginMerge : GoodIn wsX6_merge (wsV RX6 121 RX5 yX5_beginMerge wsX5_beginMerge) := goodIn_app (goodIn_of _ (by decide +kernel)) ggX6_merge_X5_beginMerge
theorem dX6_merge_0 : decode cX6_merge 0 = .ok (.aload_n 0, 1) := by decide +kernel
theorem dX6_merge_1 : decode cX6_merge 1 = .ok (.getfield 10, 3) := by decide +kernel
theorem dX6_merge_4 : decode cX6_merge 4 = .ok (.invokevirtual 118, 3) := by decide +kernel
theorem dX6_merge_7 : decode cX6_merge 7 = .ok (.ifCond .ne 6, 3) := by decide +kernel
theorem dX6_merge_10 : decode cX6_merge 10 = .ok (.bipush (-3), 2) := by decide +kernel
theorem dX6_merge_12 : decode cX6_merge 12 = .ok (.ireturn, 1) := by decide +kernel
theorem dX6_merge_13 : decode cX6_merge 13 = .ok (.aload_n 0, 1) := by decide +kernel
theorem dX6_merge_14 : decode cX6_merge 14 = .ok (.getfield 25, 3) := by decide +kernel
theorem dX6_merge_17 : decode cX6_merge 17 = .ok (.aload_n 0, 1) := by decide +kernel
theorem dX6_merge_18 : decode cX6_merge 18 = .ok (.getfield 10, 3) := by decide +kernel
theorem dX6_merge_21 : decode cX6_merge 21 = .ok (.invokevirtual 61, 3) := by decide +kernel
theorem dX6_merge_24 : decode cX6_merge 24 = .ok (.aload_n 0, 1) := by decide +kernel
theorem dX6_merge_25 : decode cX6_merge 25 = .ok (.getfield 10, 3) := by decide +kernel
theorem dX6_merge_28 : decode cX6_merge 28 = .ok (.invokevirtual 121, 3) := by decide +kernel
theorem dX6_merge_31 : decode cX6_merge 31 = .ok (.ireturn, 1) := by decide +kernel
def ck_wsX6_step : List (List Cond) := [[.code yX6_step cX6_step 2 (some .int)], wsX6_step_r1, wsX6_step_r2, wsX6_step_r3, wsX6_step_r4, wsX6_step_r5, wsX6_step_r6]
theorem ck_wsX6_step_m : ∀ c ∈ ck_wsX6_step, ∀ w ∈ c, w ∈ wsX6_step := List.forall_mem_cons.mpr ⟨fun w h => List.mem_cons.mpr (Or.inl (List.mem_singleton.mp h)), List.forall_mem_cons.mpr ⟨fun _ h => (List.mem_cons_of_mem _ (List.mem_append_left _ (List.mem_append_left _ (List.mem_append_left _ (List.mem_append_left _ (List.mem_append_left _ (List.mem_append_left _ h))))))), List.forall_mem_cons.mpr ⟨fun _ h => (List.mem_cons_of_mem _ (List.mem_append_left _ (List.mem_append_left _ (List.mem_append_left _ (List.mem_append_left _ (List.mem_append_left _ (List.mem_append_right _ (List.mem_append_left _ h)))))))), List.forall_mem_cons.mpr ⟨fun _ h => (List.mem_cons_of_mem _ (List.mem_append_left _ (List.mem_append_left _ (List.mem_append_left _ (List.mem_append_left _ (List.mem_append_left _ (List.mem_append_right _ (List.mem_append_right _ (List.mem_append_left _ h))))))))), List.forall_mem_cons.mpr ⟨fun _ h => (List.mem_cons_of_mem _ (List.mem_append_left _ (List.mem_append_left _ (List.mem_append_left _ (List.mem_append_left _ (List.mem_append_left _ (List.mem_append_right _ (List.mem_append_right _ (List.mem_append_right _ (List.mem_append_left _ h)))))))))), List.forall_mem_cons.mpr ⟨fun _ h => (List.mem_cons_of_mem _ (List.mem_append_left _ (List.mem_append_left _ (List.mem_append_left _ (List.mem_append_left _ (List.mem_append_left _ (List.mem_append_right _ (List.mem_append_right _ (List.mem_append_right _ (List.mem_append_right _ (List.mem_append_left _ h))))))))))), List.forall_mem_cons.mpr ⟨fun _ h => (List.mem_cons_of_mem _ (List.mem_append_left _ (List.mem_append_left _ (List.mem_append_left _ (List.mem_append_left _ (List.mem_append_left _ (List.mem_append_right _ (List.mem_append_right _ (List.mem_append_right _ (List.mem_append_right _ (List.mem_append_right _ h))))))))))), fun _ h => absurd h List.not_mem_nil⟩⟩⟩⟩⟩⟩⟩
set_option maxRecDepth 100000 in
theorem ck_wsX6_step_g : ∀ w ∈ wsX6_step, goodWord w = true := List.all_eq_true.mp (by decide +kernel)
set_option maxRecDepth 100000 in
theorem ggX6_step_X5_hasMerge : GoodIn wsX6_step wsX5_hasMerge := goodIn_ca (goodIn_ca (goodIn_2 ck_wsX6_step [(1, 6), (1, 7), (1, 8)] ck_wsX6_step_m ck_wsX6_step_g rfl) (goodIn_b (fun _ h => (List.mem_cons_of_mem _ (List.mem_append_left _ (List.mem_append_left _ (List.mem_append_left _ (List.mem_append_right _ h)))))) ck_wsX6_step_g)) (goodIn_b (fun _ h => (List.mem_cons_of_mem _ (List.mem_append_left _ (List.mem_append_left _ (List.mem_append_right _ h))))) ck_wsX6_step_g)
set_option maxRecDepth 20000 in
theorem gX6_step_X5_hasMerge : GoodIn wsX6_step (wsV RX6 124 RX5 yX5_hasMerge wsX5_hasMerge) := goodIn_app (goodIn_of _ (by decide +kernel)) ggX6_step_X5_hasMerge
set_option maxRecDepth 100000 in
theorem ggX6_step_X1_remember : GoodIn wsX6_step wsX1_remember := goodIn_ca (goodIn_ca (goodIn_ca (goodIn_ca (goodIn_2 ck_wsX6_step [(1, 13), (1, 14), (1, 15), (1, 16), (1, 17), (1, 18), (1, 12), (1, 19), (1, 20), (1, 21), (1, 22), (1, 23), (2, 0), (2, 1), (2, 2), (2, 3), (1, 5), (2, 4), (2, 5), (2, 6), (2, 7), (2, 8), (2, 9), (2, 10), (2, 11), (2, 12), (2, 13), (2, 14), (2, 15), (1, 7), (2, 16), (2, 17), (2, 18), (2, 19), (2, 20), (2, 21), (2, 22), (2, 23), (3, 0), (3, 1), (3, 2), (3, 3), (3, 4), (3, 5), (3, 6), (3, 7), (3, 8), (3, 9), (3, 10), (3, 11), (3, 12), (3, 13), (3, 14), (3, 15), (3, 16), (3, 17), (3, 18), (3, 19)] ck_wsX6_step_m ck_wsX6_step_g rfl) (goodIn_b (fun _ h => (List.mem_cons_of_mem _ (List.mem_append_left _ (List.mem_append_right _ h)))) ck_wsX6_step_g)) (goodIn_b (fun _ h => (List.mem_cons_of_mem _ (List.mem_append_left _ (List.mem_append_left _ (List.mem_append_left _ (List.mem_append_right _ h)))))) ck_wsX6_step_g)) (goodIn_b (fun _ h => (List.mem_cons_of_mem _ (List.mem_append_right _ h))) ck_wsX6_step_g)) (goodIn_b (fun _ h => (List.mem_cons_of_mem _ (List.mem_append_left _ (List.mem_append_left _ (List.mem_append_right _ h))))) ck_wsX6_step_g)
set_option maxRecDepth 20000 in
theorem gX6_step_X1_remember : GoodIn wsX6_step (wsV RX6 61 RX1 yX1_remember wsX1_remember) := goodIn_app (goodIn_of _ (by decide +kernel)) ggX6_step_X1_remember
set_option maxRecDepth 100000 in
theorem ggX6_step_X5_makeSteps : GoodIn wsX6_step wsX5_makeSteps := goodIn_ca (goodIn_ca (goodIn_ca (goodIn_2 ck_wsX6_step [(3, 23), (4, 0), (1, 3), (1, 4), (1, 5), (1, 6), (1, 7), (1, 8), (4, 1), (4, 2), (4, 3), (4, 4), (2, 5), (2, 20), (2, 7), (2, 19), (2, 18), (2, 17), (4, 5), (4, 6), (4, 7), (4, 8), (4, 9), (4, 10), (4, 11), (3, 13), (4, 12), (3, 17), (4, 13), (4, 14), (4, 15), (3, 3), (4, 16), (3, 5), (4, 17), (4, 18), (4, 19), (4, 20), (3, 18), (4, 21), (4, 22), (4, 23), (5, 0), (3, 8), (5, 1), (5, 2), (5, 3), (5, 4), (5, 5), (5, 6), (5, 7), (5, 8), (3, 19), (3, 15), (3, 16), (2, 12), (2, 13), (2, 14), (5, 9), (5, 10), (5, 11), (5, 12), (5, 13), (5, 14), (5, 15), (5, 16), (3, 7), (5, 17), (5, 18), (5, 19), (5, 20), (5, 21), (5, 22), (5, 23), (6, 0), (6, 1), (6, 2), (6, 3), (6, 4), (2, 23), (2, 6), (6, 5), (6, 6), (6, 7), (6, 8)] ck_wsX6_step_m ck_wsX6_step_g rfl) (goodIn_b (fun _ h => (List.mem_cons_of_mem _ (List.mem_append_left _ (List.mem_append_left _ (List.mem_append_left _ (List.mem_append_right _ h)))))) ck_wsX6_step_g)) (goodIn_b (fun _ h => (List.mem_cons_of_mem _ (List.mem_append_left _ (List.mem_append_left _ (List.mem_append_right _ h))))) ck_wsX6_step_g)) (goodIn_b (fun _ h => (List.mem_cons_of_mem _ (List.mem_append_right _ h))) ck_wsX6_step_g)
set_option maxRecDepth 20000 in
theorem gX6_step_X5_makeSteps : GoodIn wsX6_step (wsV RX6 127 RX5 yX5_makeSteps wsX5_makeSteps) := goodIn_app (goodIn_of _ (by decide +kernel)) ggX6_step_X5_makeSteps
theorem dX6_step_0 : decode cX6_step 0 = .ok (.iload_n 1, 1) := by decide +kernel
theorem dX6_step_1 : decode cX6_step 1 = .ok (.iconst 1, 1) := by decide +kernel
theorem dX6_step_2 : decode cX6_step 2 = .ok (.if_icmp .lt 10, 3) := by decide +kernel
theorem dX6_step_5 : decode cX6_step 5 = .ok (.iload_n 1, 1) := by decide +kernel
theorem dX6_step_6 : decode cX6_step 6 = .ok (.sipush 200, 3) := by decide +kernel
theorem dX6_step_9 : decode cX6_step 9 = .ok (.if_icmp .le 6, 3) := by decide +kernel
theorem dX6_step_12 : decode cX6_step 12 = .ok (.bipush (-2), 2) := by decide +kernel
theorem dX6_step_14 : decode cX6_step 14 = .ok (.ireturn, 1) := by decide +kernel
theorem dX6_step_15 : decode cX6_step 15 = .ok (.aload_n 0, 1) := by decide +kernel
theorem dX6_step_16 : decode cX6_step 16 = .ok (.getfield 10, 3) := by decide +kernel
theorem dX6_step_19 : decode cX6_step 19 = .ok (.invokevirtual 124, 3) := by decide +kernel
theorem dX6_step_22 : decode cX6_step 22 = .ok (.ifCond .ne 6, 3) := by decide +kernel
theorem dX6_step_25 : decode cX6_step 25 = .ok (.bipush (-3), 2) := by decide +kernel
theorem dX6_step_27 : decode cX6_step 27 = .ok (.ireturn, 1) := by decide +kernel
theorem dX6_step_28 : decode cX6_step 28 = .ok (.aload_n 0, 1) := by decide +kernel
theorem dX6_step_29 : decode cX6_step 29 = .ok (.getfield 25, 3) := by decide +kernel
theorem dX6_step_32 : decode cX6_step 32 = .ok (.aload_n 0, 1) := by decide +kernel
theorem dX6_step_33 : decode cX6_step 33 = .ok (.getfield 10, 3) := by decide +kernel
theorem dX6_step_36 : decode cX6_step 36 = .ok (.invokevirtual 61, 3) := by decide +kernel
theorem dX6_step_39 : decode cX6_step 39 = .ok (.aload_n 0, 1) := by decide +kernel
theorem dX6_step_40 : decode cX6_step 40 = .ok (.getfield 10, 3) := by decide +kernel
theorem dX6_step_43 : decode cX6_step 43 = .ok (.iload_n 1, 1) := by decide +kernel
theorem dX6_step_44 : decode cX6_step 44 = .ok (.invokevirtual 127, 3) := by decide +kernel
theorem dX6_step_47 : decode cX6_step 47 = .ok (.ireturn, 1) := by decide +kernel
def ck_wsX6_run : List (List Cond) := [[.code yX6_run cX6_run 1 (some .int)], wsX6_run_r1, wsX6_run_r2, wsX6_run_r3, wsX6_run_r4, wsX6_run_r5, wsX6_run_r6, wsX6_run_r7, wsX6_run_r8]
theorem ck_wsX6_run_m : ∀ c ∈ ck_wsX6_run, ∀ w ∈ c, w ∈ wsX6_run := List.forall_mem_cons.mpr ⟨fun w h => List.mem_cons.mpr (Or.inl (List.mem_singleton.mp h)), List.forall_mem_cons.mpr ⟨fun _ h => (List.mem_cons_of_mem _ (List.mem_append_left _ (List.mem_append_left _ (List.mem_append_left _ (List.mem_append_left _ (List.mem_append_left _ (List.mem_append_left _ h))))))), List.forall_mem_cons.mpr ⟨fun _ h => (List.mem_cons_of_mem _ (List.mem_append_left _ (List.mem_append_left _ (List.mem_append_left _ (List.mem_append_left _ (List.mem_append_left _ (List.mem_append_right _ (List.mem_append_left _ h)))))))), List.forall_mem_cons.mpr ⟨fun _ h => (List.mem_cons_of_mem _ (List.mem_append_left _ (List.mem_append_left _ (List.mem_append_left _ (List.mem_append_left _ (List.mem_append_left _ (List.mem_append_right _ (List.mem_append_right _ (List.mem_append_left _ h))))))))), List.forall_mem_cons.mpr ⟨fun _ h => (List.mem_cons_of_mem _ (List.mem_append_left _ (List.mem_append_left _ (List.mem_append_left _ (List.mem_append_left _ (List.mem_append_left _ (List.mem_append_right _ (List.mem_append_right _ (List.mem_append_right _ (List.mem_append_left _ h)))))))))), List.forall_mem_cons.mpr ⟨fun _ h => (List.mem_cons_of_mem _ (List.mem_append_left _ (List.mem_append_left _ (List.mem_append_left _ (List.mem_append_left _ (List.mem_append_left _ (List.mem_append_right _ (List.mem_append_right _ (List.mem_append_right _ (List.mem_append_right _ (List.mem_append_left _ h))))))))))), List.forall_mem_cons.mpr ⟨fun _ h => (List.mem_cons_of_mem _ (List.mem_append_left _ (List.mem_append_left _ (List.mem_append_left _ (List.mem_append_left _ (List.mem_append_left _ (List.mem_append_right _ (List.mem_append_right _ (List.mem_append_right _ (List.mem_append_right _ (List.mem_append_right _ (List.mem_append_left _ h)))))))))))), List.forall_mem_cons.mpr ⟨fun _ h => (List.mem_cons_of_mem _ (List.mem_append_left _ (List.mem_append_left _ (List.mem_append_left _ (List.mem_append_left _ (List.mem_append_left _ (List.mem_append_right _ (List.mem_append_right _ (List.mem_append_right _ (List.mem_append_right _ (List.mem_append_right _ (List.mem_append_right _ (List.mem_append_left _ h))))))))))))), List.forall_mem_cons.mpr ⟨fun _ h => (List.mem_cons_of_mem _ (List.mem_append_left _ (List.mem_append_left _ (List.mem_append_left _ (List.mem_append_left _ (List.mem_append_left _ (List.mem_append_right _ (List.mem_append_right _ (List.mem_append_right _ (List.mem_append_right _ (List.mem_append_right _ (List.mem_append_right _ (List.mem_append_right _ h))))))))))))), fun _ h => absurd h List.not_mem_nil⟩⟩⟩⟩⟩⟩⟩⟩⟩
set_option maxRecDepth 100000 in
theorem ck_wsX6_run_g : ∀ w ∈ wsX6_run, goodWord w = true := List.all_eq_true.mp (by decide +kernel)
set_option maxRecDepth 100000 in
theorem ggX6_run_X5_canRunToEnd : GoodIn wsX6_run wsX5_canRunToEnd := goodIn_ca (goodIn_ca (goodIn_2 ck_wsX6_run [(1, 6), (1, 7), (1, 8), (1, 9), (1, 10), (1, 11), (1, 12), (1, 5), (1, 13), (1, 14), (1, 15), (1, 16), (1, 17), (1, 18), (1, 19), (1, 20), (1, 21), (1, 22), (1, 23)] ck_wsX6_run_m ck_wsX6_run_g rfl) (goodIn_b (fun _ h => (List.mem_cons_of_mem _ (List.mem_append_left _ (List.mem_append_left _ (List.mem_append_left _ (List.mem_append_right _ h)))))) ck_wsX6_run_g)) (goodIn_b (fun _ h => (List.mem_cons_of_mem _ (List.mem_append_left _ (List.mem_append_left _ (List.mem_append_right _ h))))) ck_wsX6_run_g)
set_option maxRecDepth 20000 in
theorem gX6_run_X5_canRunToEnd : GoodIn wsX6_run (wsV RX6 130 RX5 yX5_canRunToEnd wsX5_canRunToEnd) := goodIn_app (goodIn_of _ (by decide +kernel)) ggX6_run_X5_canRunToEnd
set_option maxRecDepth 100000 in
theorem ggX6_run_X1_remember : GoodIn wsX6_run wsX1_remember := goodIn_ca (goodIn_ca (goodIn_ca (goodIn_ca (goodIn_2 ck_wsX6_run [(2, 4), (2, 5), (2, 6), (2, 7), (2, 8), (2, 9), (2, 3), (2, 10), (2, 11), (2, 12), (2, 13), (2, 14), (2, 15), (2, 16), (2, 17), (2, 18), (1, 5), (2, 19), (2, 20), (1, 7), (2, 21), (2, 22), (1, 19), (2, 23), (3, 0), (3, 1), (3, 2), (3, 3), (1, 9), (1, 14), (3, 4), (3, 5), (3, 6), (3, 7), (3, 8), (3, 9), (3, 10), (3, 11), (3, 12), (3, 13), (3, 14), (3, 15), (3, 16), (3, 17), (3, 18), (3, 19), (3, 20), (3, 21), (3, 22), (3, 23), (4, 0), (4, 1), (4, 2), (4, 3), (4, 4), (4, 5), (4, 6), (4, 7)] ck_wsX6_run_m ck_wsX6_run_g rfl) (goodIn_b (fun _ h => (List.mem_cons_of_mem _ (List.mem_append_left _ (List.mem_append_right _ h)))) ck_wsX6_run_g)) (goodIn_b (fun _ h => (List.mem_cons_of_mem _ (List.mem_append_left _ (List.mem_append_left _ (List.mem_append_left _ (List.mem_append_right _ h)))))) ck_wsX6_run_g)) (goodIn_b (fun _ h => (List.mem_cons_of_mem _ (List.mem_append_right _ h))) ck_wsX6_run_g)) (goodIn_b (fun _ h => (List.mem_cons_of_mem _ (List.mem_append_left _ (List.mem_append_left _ (List.mem_append_right _ h))))) ck_wsX6_run_g)
set_option maxRecDepth 20000 in
theorem gX6_run_X1_remember : GoodIn wsX6_run (wsV RX6 61 RX1 yX1_remember wsX1_remember) := goodIn_app (goodIn_of _ (by decide +kernel)) ggX6_run_X1_remember
set_option maxRecDepth 100000 in
theorem ggX6_run_X5_runToEnd : GoodIn wsX6_run wsX5_runToEnd := goodIn_ca (goodIn_ca (goodIn_ca (goodIn_2 ck_wsX6_run [(4, 11), (4, 12), (4, 13), (4, 14), (1, 5), (4, 15), (2, 22), (4, 16), (4, 17), (4, 18), (4, 19), (1, 9), (2, 20), (3, 8), (4, 20), (4, 21), (4, 22), (4, 23), (5, 0), (5, 1), (5, 2), (5, 3), (2, 23), (5, 4), (5, 5), (5, 6), (3, 15), (5, 7), (3, 17), (5, 8), (5, 9), (5, 10), (5, 11), (5, 12), (5, 13), (5, 14), (5, 15), (3, 20), (5, 16), (5, 17), (5, 18), (5, 19), (3, 11), (1, 7), (5, 20), (5, 21), (5, 22), (4, 1), (5, 23), (4, 7), (4, 3), (4, 5), (4, 6), (6, 0), (6, 1), (6, 2), (6, 3), (1, 10), (1, 11), (1, 12), (1, 13), (1, 14), (1, 8), (6, 4), (6, 5), (6, 6), (6, 7), (2, 21), (3, 7), (3, 6), (3, 5), (6, 8), (6, 9), (6, 10), (6, 11), (6, 12), (6, 13), (6, 14), (6, 15), (6, 16), (6, 17), (6, 18), (6, 19), (6, 20), (6, 21), (6, 22), (6, 23), (7, 0), (7, 1), (7, 2), (7, 3), (7, 4), (7, 5), (7, 6), (7, 7), (4, 4), (3, 1), (3, 2), (3, 3), (7, 8), (7, 9), (7, 10), (7, 11), (7, 12), (7, 13), (7, 14), (7, 15), (3, 19), (7, 16), (7, 17), (7, 18), (7, 19), (7, 20), (7, 21), (7, 22), (7, 23), (1, 15), (1, 16), (1, 17), (1, 18), (1, 19), (1, 20), (1, 21), (1, 22), (1, 23), (8, 0), (8, 1), (8, 2), (8, 3), (3, 4), (3, 9), (8, 4), (8, 5), (8, 6), (8, 7), (8, 8), (8, 9), (8, 10), (8, 11), (8, 12)] ck_wsX6_run_m ck_wsX6_run_g rfl) (goodIn_b (fun _ h => (List.mem_cons_of_mem _ (List.mem_append_left _ (List.mem_append_left _ (List.mem_append_left _ (List.mem_append_right _ h)))))) ck_wsX6_run_g)) (goodIn_b (fun _ h => (List.mem_cons_of_mem _ (List.mem_append_right _ h))) ck_wsX6_run_g)) (goodIn_b (fun _ h => (List.mem_cons_of_mem _ (List.mem_append_left _ (List.mem_append_left _ (List.mem_append_right _ h))))) ck_wsX6_run_g)
set_option maxRecDepth 20000 in
theorem gX6_run_X5_runToEnd : GoodIn wsX6_run (wsV RX6 133 RX5 yX5_runToEnd wsX5_runToEnd) := goodIn_app (goodIn_of _ (by decide +kernel)) ggX6_run_X5_runToEnd
theorem dX6_run_0 : decode cX6_run 0 = .ok (.aload_n 0, 1) := by decide +kernel
theorem dX6_run_1 : decode cX6_run 1 = .ok (.getfield 10, 3) := by decide +kernel
theorem dX6_run_4 : decode cX6_run 4 = .ok (.invokevirtual 130, 3) := by decide +kernel
theorem dX6_run_7 : decode cX6_run 7 = .ok (.ifCond .ne 6, 3) := by decide +kernel
theorem dX6_run_10 : decode cX6_run 10 = .ok (.bipush (-3), 2) := by decide +kernel
theorem dX6_run_12 : decode cX6_run 12 = .ok (.ireturn, 1) := by decide +kernel
theorem dX6_run_13 : decode cX6_run 13 = .ok (.aload_n 0, 1) := by decide +kernel
theorem dX6_run_14 : decode cX6_run 14 = .ok (.getfield 25, 3) := by decide +kernel
theorem dX6_run_17 : decode cX6_run 17 = .ok (.aload_n 0, 1) := by decide +kernel
theorem dX6_run_18 : decode cX6_run 18 = .ok (.getfield 10, 3) := by decide +kernel
theorem dX6_run_21 : decode cX6_run 21 = .ok (.invokevirtual 61, 3) := by decide +kernel
theorem dX6_run_24 : decode cX6_run 24 = .ok (.aload_n 0, 1) := by decide +kernel
theorem dX6_run_25 : decode cX6_run 25 = .ok (.getfield 10, 3) := by decide +kernel
theorem dX6_run_28 : decode cX6_run 28 = .ok (.invokevirtual 133, 3) := by decide +kernel
theorem dX6_run_31 : decode cX6_run 31 = .ok (.ireturn, 1) := by decide +kernel
set_option maxRecDepth 20000 in
theorem ggX6_isMerging_X5_hasMerge : GoodIn wsX6_isMerging wsX5_hasMerge := goodIn_r _ [6, 7, 8, 20, 21, 22, 23, 24, 25, 26, 27, 28, 29, 30, 31, 32, 33, 34, 35, 36, 37, 38, 39] (by decide +kernel) (by decide +kernel)
set_option maxRecDepth 20000 in
theorem gX6_isMerging_X5_hasMerge : GoodIn wsX6_isMerging (wsV RX6 124 RX5 yX5_hasMerge wsX5_hasMerge) := goodIn_app (goodIn_of _ (by decide +kernel)) ggX6_isMerging_X5_hasMerge
set_option maxRecDepth 20000 in
theorem ggX6_isMerging_X6_asNumber : GoodIn wsX6_isMerging wsX6_asNumber := goodIn_r _ [12] (by decide +kernel) (by decide +kernel)
set_option maxRecDepth 20000 in
theorem gX6_isMerging_X6_asNumber : GoodIn wsX6_isMerging (va_wsS RX6 76 yX6_asNumber wsX6_asNumber) := goodIn_app (goodIn_of _ (by decide +kernel)) ggX6_isMerging_X6_asNumber
theorem dX6_isMerging_0 : decode cX6_isMerging 0 = .ok (.aload_n 0, 1) := by decide +kernel
theorem dX6_isMerging_1 : decode cX6_isMerging 1 = .ok (.getfield 10, 3) := by decide +kernel
theorem dX6_isMerging_4 : decode cX6_isMerging 4 = .ok (.invokevirtual 124, 3) := by decide +kernel
theorem dX6_isMerging_7 : decode cX6_isMerging 7 = .ok (.invokestatic 76, 3) := by decide +kernel
theorem dX6_isMerging_10 : decode cX6_isMerging 10 = .ok (.ireturn, 1) := by decide +kernel
set_option maxRecDepth 20000 in
theorem ggX6_isDone_X5_isSorted : GoodIn wsX6_isDone wsX5_isSorted := goodIn_r _ [6, 7, 8, 9, 10, 11, 12, 5, 13, 14, 26, 27, 28, 29, 30, 31, 32, 33, 34, 35, 36, 37, 38, 39, 40, 41, 42, 43, 44, 45] (by decide +kernel) (by decide +kernel)
set_option maxRecDepth 20000 in
theorem gX6_isDone_X5_isSorted : GoodIn wsX6_isDone (wsV RX6 136 RX5 yX5_isSorted wsX5_isSorted) := goodIn_app (goodIn_of _ (by decide +kernel)) ggX6_isDone_X5_isSorted
set_option maxRecDepth 20000 in
theorem ggX6_isDone_X6_asNumber : GoodIn wsX6_isDone wsX6_asNumber := goodIn_r _ [18] (by decide +kernel) (by decide +kernel)
set_option maxRecDepth 20000 in
theorem gX6_isDone_X6_asNumber : GoodIn wsX6_isDone (va_wsS RX6 76 yX6_asNumber wsX6_asNumber) := goodIn_app (goodIn_of _ (by decide +kernel)) ggX6_isDone_X6_asNumber
theorem dX6_isDone_0 : decode cX6_isDone 0 = .ok (.aload_n 0, 1) := by decide +kernel
theorem dX6_isDone_1 : decode cX6_isDone 1 = .ok (.getfield 10, 3) := by decide +kernel
theorem dX6_isDone_4 : decode cX6_isDone 4 = .ok (.invokevirtual 136, 3) := by decide +kernel
theorem dX6_isDone_7 : decode cX6_isDone 7 = .ok (.invokestatic 76, 3) := by decide +kernel
theorem dX6_isDone_10 : decode cX6_isDone 10 = .ok (.ireturn, 1) := by decide +kernel
set_option maxRecDepth 20000 in
theorem ggX6_ofMerge_X5_hasMerge : GoodIn wsX6_ofMerge wsX5_hasMerge := goodIn_r _ [10, 11, 12, 31, 32, 33, 34, 35, 36, 37, 38, 39, 40, 41, 42, 43, 44, 45, 46, 47, 48, 49, 50] (by decide +kernel) (by decide +kernel)
set_option maxRecDepth 20000 in
theorem gX6_ofMerge_X5_hasMerge : GoodIn wsX6_ofMerge (wsV RX6 124 RX5 yX5_hasMerge wsX5_hasMerge) := goodIn_app (goodIn_of _ (by decide +kernel)) ggX6_ofMerge_X5_hasMerge
set_option maxRecDepth 20000 in
theorem ggX6_ofMerge_X4_rowsInAll : GoodIn wsX6_ofMerge wsX4_rowsInAll := goodIn_r _ [17, 18, 19, 20, 21, 16, 22, 23, 47, 48, 49, 50] (by decide +kernel) (by decide +kernel)
set_option maxRecDepth 20000 in
theorem gX6_ofMerge_X4_rowsInAll : GoodIn wsX6_ofMerge (wsV RX6 148 RX4 yX4_rowsInAll wsX4_rowsInAll) := goodIn_app (goodIn_of _ (by decide +kernel)) ggX6_ofMerge_X4_rowsInAll
theorem dX6_ofMerge_0 : decode cX6_ofMerge 0 = .ok (.iload_n 1, 1) := by decide +kernel
theorem dX6_ofMerge_1 : decode cX6_ofMerge 1 = .ok (.ifCond .lt 8, 3) := by decide +kernel
theorem dX6_ofMerge_4 : decode cX6_ofMerge 4 = .ok (.iload_n 1, 1) := by decide +kernel
theorem dX6_ofMerge_5 : decode cX6_ofMerge 5 = .ok (.iconst 3, 1) := by decide +kernel
theorem dX6_ofMerge_6 : decode cX6_ofMerge 6 = .ok (.if_icmp .le 6, 3) := by decide +kernel
theorem dX6_ofMerge_9 : decode cX6_ofMerge 9 = .ok (.bipush (-2), 2) := by decide +kernel
theorem dX6_ofMerge_11 : decode cX6_ofMerge 11 = .ok (.ireturn, 1) := by decide +kernel
theorem dX6_ofMerge_12 : decode cX6_ofMerge 12 = .ok (.aload_n 0, 1) := by decide +kernel
theorem dX6_ofMerge_13 : decode cX6_ofMerge 13 = .ok (.getfield 10, 3) := by decide +kernel
theorem dX6_ofMerge_16 : decode cX6_ofMerge 16 = .ok (.invokevirtual 124, 3) := by decide +kernel
theorem dX6_ofMerge_19 : decode cX6_ofMerge 19 = .ok (.ifCond .ne 6, 3) := by decide +kernel
theorem dX6_ofMerge_22 : decode cX6_ofMerge 22 = .ok (.bipush (-6), 2) := by decide +kernel
theorem dX6_ofMerge_24 : decode cX6_ofMerge 24 = .ok (.ireturn, 1) := by decide +kernel
theorem dX6_ofMerge_25 : decode cX6_ofMerge 25 = .ok (.iload_n 1, 1) := by decide +kernel
theorem dX6_ofMerge_26 : decode cX6_ofMerge 26 = .ok (.tableswitch 53 0 2 #[26, 34, 45], 26) := by decide +kernel
theorem dX6_ofMerge_52 : decode cX6_ofMerge 52 = .ok (.aload_n 0, 1) := by decide +kernel
theorem dX6_ofMerge_53 : decode cX6_ofMerge 53 = .ok (.getfield 10, 3) := by decide +kernel
theorem dX6_ofMerge_56 : decode cX6_ofMerge 56 = .ok (.getfield 139, 3) := by decide +kernel
theorem dX6_ofMerge_59 : decode cX6_ofMerge 59 = .ok (.ireturn, 1) := by decide +kernel
theorem dX6_ofMerge_60 : decode cX6_ofMerge 60 = .ok (.aload_n 0, 1) := by decide +kernel
theorem dX6_ofMerge_61 : decode cX6_ofMerge 61 = .ok (.getfield 10, 3) := by decide +kernel
theorem dX6_ofMerge_64 : decode cX6_ofMerge 64 = .ok (.getfield 142, 3) := by decide +kernel
theorem dX6_ofMerge_67 : decode cX6_ofMerge 67 = .ok (.getfield 91, 3) := by decide +kernel
theorem dX6_ofMerge_70 : decode cX6_ofMerge 70 = .ok (.ireturn, 1) := by decide +kernel
theorem dX6_ofMerge_71 : decode cX6_ofMerge 71 = .ok (.aload_n 0, 1) := by decide +kernel
theorem dX6_ofMerge_72 : decode cX6_ofMerge 72 = .ok (.getfield 10, 3) := by decide +kernel
theorem dX6_ofMerge_75 : decode cX6_ofMerge 75 = .ok (.getfield 145, 3) := by decide +kernel
theorem dX6_ofMerge_78 : decode cX6_ofMerge 78 = .ok (.ireturn, 1) := by decide +kernel
theorem dX6_ofMerge_79 : decode cX6_ofMerge 79 = .ok (.aload_n 0, 1) := by decide +kernel
theorem dX6_ofMerge_80 : decode cX6_ofMerge 80 = .ok (.getfield 10, 3) := by decide +kernel
theorem dX6_ofMerge_83 : decode cX6_ofMerge 83 = .ok (.getfield 142, 3) := by decide +kernel
theorem dX6_ofMerge_86 : decode cX6_ofMerge 86 = .ok (.invokevirtual 148, 3) := by decide +kernel
theorem dX6_ofMerge_89 : decode cX6_ofMerge 89 = .ok (.ireturn, 1) := by decide +kernel
theorem dX6_runs_0 : decode cX6_runs 0 = .ok (.aload_n 0, 1) := by decide +kernel
theorem dX6_runs_1 : decode cX6_runs 1 = .ok (.getfield 10, 3) := by decide +kernel
theorem dX6_runs_4 : decode cX6_runs 4 = .ok (.getfield 87, 3) := by decide +kernel
theorem dX6_runs_7 : decode cX6_runs 7 = .ok (.getfield 91, 3) := by decide +kernel
theorem dX6_runs_10 : decode cX6_runs 10 = .ok (.ireturn, 1) := by decide +kernel
set_option maxRecDepth 20000 in
theorem ggX6_runAt_X4_has : GoodIn wsX6_runAt wsX4_has := goodIn_r _ [7, 8, 37, 38, 39, 40] (by decide +kernel) (by decide +kernel)
set_option maxRecDepth 20000 in
theorem gX6_runAt_X4_has : GoodIn wsX6_runAt (wsV RX6 151 RX4 yX4_has wsX4_has) := goodIn_app (goodIn_of _ (by decide +kernel)) ggX6_runAt_X4_has
set_option maxRecDepth 20000 in
theorem ggX6_runAt_X4_numberAt : GoodIn wsX6_runAt wsX4_numberAt := goodIn_r _ [12, 13, 37, 38, 39, 40] (by decide +kernel) (by decide +kernel)
set_option maxRecDepth 20000 in
theorem gX6_runAt_X4_numberAt : GoodIn wsX6_runAt (wsV RX6 154 RX4 yX4_numberAt wsX4_numberAt) := goodIn_app (goodIn_of _ (by decide +kernel)) ggX6_runAt_X4_numberAt
theorem dX6_runAt_0 : decode cX6_runAt 0 = .ok (.aload_n 0, 1) := by decide +kernel
theorem dX6_runAt_1 : decode cX6_runAt 1 = .ok (.getfield 10, 3) := by decide +kernel
theorem dX6_runAt_4 : decode cX6_runAt 4 = .ok (.getfield 87, 3) := by decide +kernel
theorem dX6_runAt_7 : decode cX6_runAt 7 = .ok (.iload_n 1, 1) := by decide +kernel
theorem dX6_runAt_8 : decode cX6_runAt 8 = .ok (.invokevirtual 151, 3) := by decide +kernel
theorem dX6_runAt_11 : decode cX6_runAt 11 = .ok (.ifCond .ne 5, 3) := by decide +kernel
theorem dX6_runAt_14 : decode cX6_runAt 14 = .ok (.iconst (-1), 1) := by decide +kernel
theorem dX6_runAt_15 : decode cX6_runAt 15 = .ok (.ireturn, 1) := by decide +kernel
theorem dX6_runAt_16 : decode cX6_runAt 16 = .ok (.aload_n 0, 1) := by decide +kernel
theorem dX6_runAt_17 : decode cX6_runAt 17 = .ok (.getfield 10, 3) := by decide +kernel
theorem dX6_runAt_20 : decode cX6_runAt 20 = .ok (.getfield 87, 3) := by decide +kernel
theorem dX6_runAt_23 : decode cX6_runAt 23 = .ok (.iload_n 1, 1) := by decide +kernel
theorem dX6_runAt_24 : decode cX6_runAt 24 = .ok (.invokevirtual 154, 3) := by decide +kernel
theorem dX6_runAt_27 : decode cX6_runAt 27 = .ok (.ireturn, 1) := by decide +kernel
set_option maxRecDepth 20000 in
theorem ggX6_size_X4_placeOf : GoodIn wsX6_size wsX4_placeOf := goodIn_r _ [7, 8, 9, 10, 11, 6, 12, 13, 46, 47, 48, 49] (by decide +kernel) (by decide +kernel)
set_option maxRecDepth 20000 in
theorem gX6_size_X4_placeOf : GoodIn wsX6_size (wsV RX6 157 RX4 yX4_placeOf wsX4_placeOf) := goodIn_app (goodIn_of _ (by decide +kernel)) ggX6_size_X4_placeOf
set_option maxRecDepth 20000 in
theorem ggX6_size_X4_has : GoodIn wsX6_size wsX4_has := goodIn_r _ [17, 8, 46, 47, 48, 49] (by decide +kernel) (by decide +kernel)
set_option maxRecDepth 20000 in
theorem gX6_size_X4_has : GoodIn wsX6_size (wsV RX6 151 RX4 yX4_has wsX4_has) := goodIn_app (goodIn_of _ (by decide +kernel)) ggX6_size_X4_has
set_option maxRecDepth 20000 in
theorem ggX6_size_X4_lengthAt : GoodIn wsX6_size wsX4_lengthAt := goodIn_r _ [21, 22, 46, 47, 48, 49] (by decide +kernel) (by decide +kernel)
set_option maxRecDepth 20000 in
theorem gX6_size_X4_lengthAt : GoodIn wsX6_size (wsV RX6 160 RX4 yX4_lengthAt wsX4_lengthAt) := goodIn_app (goodIn_of _ (by decide +kernel)) ggX6_size_X4_lengthAt
theorem dX6_size_0 : decode cX6_size 0 = .ok (.aload_n 0, 1) := by decide +kernel
theorem dX6_size_1 : decode cX6_size 1 = .ok (.getfield 10, 3) := by decide +kernel
theorem dX6_size_4 : decode cX6_size 4 = .ok (.getfield 87, 3) := by decide +kernel
theorem dX6_size_7 : decode cX6_size 7 = .ok (.iload_n 1, 1) := by decide +kernel
theorem dX6_size_8 : decode cX6_size 8 = .ok (.invokevirtual 157, 3) := by decide +kernel
theorem dX6_size_11 : decode cX6_size 11 = .ok (.istore_n 2, 1) := by decide +kernel
theorem dX6_size_12 : decode cX6_size 12 = .ok (.aload_n 0, 1) := by decide +kernel
theorem dX6_size_13 : decode cX6_size 13 = .ok (.getfield 10, 3) := by decide +kernel
theorem dX6_size_16 : decode cX6_size 16 = .ok (.getfield 87, 3) := by decide +kernel
theorem dX6_size_19 : decode cX6_size 19 = .ok (.iload_n 2, 1) := by decide +kernel
theorem dX6_size_20 : decode cX6_size 20 = .ok (.invokevirtual 151, 3) := by decide +kernel
theorem dX6_size_23 : decode cX6_size 23 = .ok (.ifCond .ne 5, 3) := by decide +kernel
theorem dX6_size_26 : decode cX6_size 26 = .ok (.iconst (-1), 1) := by decide +kernel
theorem dX6_size_27 : decode cX6_size 27 = .ok (.ireturn, 1) := by decide +kernel
theorem dX6_size_28 : decode cX6_size 28 = .ok (.aload_n 0, 1) := by decide +kernel
theorem dX6_size_29 : decode cX6_size 29 = .ok (.getfield 10, 3) := by decide +kernel
theorem dX6_size_32 : decode cX6_size 32 = .ok (.getfield 87, 3) := by decide +kernel
theorem dX6_size_35 : decode cX6_size 35 = .ok (.iload_n 2, 1) := by decide +kernel
theorem dX6_size_36 : decode cX6_size 36 = .ok (.invokevirtual 160, 3) := by decide +kernel
theorem dX6_size_39 : decode cX6_size 39 = .ok (.ireturn, 1) := by decide +kernel
def ck_wsX6_row : List (List Cond) := [[.code yX6_row cX6_row 5 (some .int)], wsX6_row_r1, wsX6_row_r2, wsX6_row_r3]
theorem ck_wsX6_row_m : ∀ c ∈ ck_wsX6_row, ∀ w ∈ c, w ∈ wsX6_row := List.forall_mem_cons.mpr ⟨fun w h => List.mem_cons.mpr (Or.inl (List.mem_singleton.mp h)), List.forall_mem_cons.mpr ⟨fun _ h => (List.mem_cons_of_mem _ (List.mem_append_left _ (List.mem_append_left _ (List.mem_append_left _ (List.mem_append_left _ (List.mem_append_left _ h)))))), List.forall_mem_cons.mpr ⟨fun _ h => (List.mem_cons_of_mem _ (List.mem_append_left _ (List.mem_append_left _ (List.mem_append_left _ (List.mem_append_left _ (List.mem_append_right _ (List.mem_append_left _ h))))))), List.forall_mem_cons.mpr ⟨fun _ h => (List.mem_cons_of_mem _ (List.mem_append_left _ (List.mem_append_left _ (List.mem_append_left _ (List.mem_append_left _ (List.mem_append_right _ (List.mem_append_right _ h))))))), fun _ h => absurd h List.not_mem_nil⟩⟩⟩⟩
set_option maxRecDepth 100000 in
theorem ck_wsX6_row_g : ∀ w ∈ wsX6_row, goodWord w = true := List.all_eq_true.mp (by decide +kernel)
set_option maxRecDepth 100000 in
theorem ggX6_row_X5_rowOfRun : GoodIn wsX6_row wsX5_rowOfRun := goodIn_ca (goodIn_ca (goodIn_ca (goodIn_2 ck_wsX6_row [(1, 6), (1, 7), (1, 8), (1, 9), (1, 10), (1, 11), (1, 12), (1, 13), (1, 14), (1, 15), (1, 16), (1, 17), (1, 18), (1, 19), (1, 20), (1, 21), (1, 22), (1, 23), (2, 0), (2, 1), (2, 2), (2, 3), (2, 4), (2, 5), (2, 6), (2, 7), (2, 8), (2, 9), (2, 10), (2, 11), (2, 12), (2, 13), (2, 14), (2, 15)] ck_wsX6_row_m ck_wsX6_row_g rfl) (goodIn_b (fun _ h => (List.mem_cons_of_mem _ (List.mem_append_left _ (List.mem_append_left _ (List.mem_append_right _ h))))) ck_wsX6_row_g)) (goodIn_b (fun _ h => (List.mem_cons_of_mem _ (List.mem_append_left _ (List.mem_append_right _ h)))) ck_wsX6_row_g)) (goodIn_b (fun _ h => (List.mem_cons_of_mem _ (List.mem_append_right _ h))) ck_wsX6_row_g)
set_option maxRecDepth 20000 in
theorem gX6_row_X5_rowOfRun : GoodIn wsX6_row (wsV RX6 163 RX5 yX5_rowOfRun wsX5_rowOfRun) := goodIn_app (goodIn_of _ (by decide +kernel)) ggX6_row_X5_rowOfRun
set_option maxRecDepth 100000 in
theorem ggX6_row_X3_has : GoodIn wsX6_row wsX3_has := goodIn_ca (goodIn_2 ck_wsX6_row [(2, 19), (2, 20)] ck_wsX6_row_m ck_wsX6_row_g rfl) (goodIn_b (fun _ h => (List.mem_cons_of_mem _ (List.mem_append_right _ h))) ck_wsX6_row_g)
set_option maxRecDepth 20000 in
theorem gX6_row_X3_has : GoodIn wsX6_row (wsV RX6 167 RX3 yX3_has wsX3_has) := goodIn_app (goodIn_of _ (by decide +kernel)) ggX6_row_X3_has
set_option maxRecDepth 100000 in
theorem ggX6_row_X3_keyOf : GoodIn wsX6_row wsX3_keyOf := goodIn_ca (goodIn_2 ck_wsX6_row [(3, 0), (3, 1)] ck_wsX6_row_m ck_wsX6_row_g rfl) (goodIn_b (fun _ h => (List.mem_cons_of_mem _ (List.mem_append_right _ h))) ck_wsX6_row_g)
set_option maxRecDepth 20000 in
theorem gX6_row_X3_keyOf : GoodIn wsX6_row (wsV RX6 115 RX3 yX3_keyOf wsX3_keyOf) := goodIn_app (goodIn_of _ (by decide +kernel)) ggX6_row_X3_keyOf
set_option maxRecDepth 100000 in
theorem ggX6_row_X3_countOf : GoodIn wsX6_row wsX3_countOf := goodIn_ca (goodIn_2 ck_wsX6_row [(3, 5), (3, 6)] ck_wsX6_row_m ck_wsX6_row_g rfl) (goodIn_b (fun _ h => (List.mem_cons_of_mem _ (List.mem_append_right _ h))) ck_wsX6_row_g)
set_option maxRecDepth 20000 in
theorem gX6_row_X3_countOf : GoodIn wsX6_row (wsV RX6 168 RX3 yX3_countOf wsX3_countOf) := goodIn_app (goodIn_of _ (by decide +kernel)) ggX6_row_X3_countOf
theorem dX6_row_0 : decode cX6_row 0 = .ok (.aload_n 0, 1) := by decide +kernel
theorem dX6_row_1 : decode cX6_row 1 = .ok (.getfield 10, 3) := by decide +kernel
theorem dX6_row_4 : decode cX6_row 4 = .ok (.iload_n 1, 1) := by decide +kernel
theorem dX6_row_5 : decode cX6_row 5 = .ok (.iload_n 2, 1) := by decide +kernel
theorem dX6_row_6 : decode cX6_row 6 = .ok (.invokevirtual 163, 3) := by decide +kernel
theorem dX6_row_9 : decode cX6_row 9 = .ok (.istore 4, 2) := by decide +kernel
theorem dX6_row_11 : decode cX6_row 11 = .ok (.aload_n 0, 1) := by decide +kernel
theorem dX6_row_12 : decode cX6_row 12 = .ok (.getfield 10, 3) := by decide +kernel
theorem dX6_row_15 : decode cX6_row 15 = .ok (.getfield 51, 3) := by decide +kernel
theorem dX6_row_18 : decode cX6_row 18 = .ok (.iload 4, 2) := by decide +kernel
theorem dX6_row_20 : decode cX6_row 20 = .ok (.invokevirtual 167, 3) := by decide +kernel
theorem dX6_row_23 : decode cX6_row 23 = .ok (.ifCond .ne 5, 3) := by decide +kernel
theorem dX6_row_26 : decode cX6_row 26 = .ok (.iconst (-1), 1) := by decide +kernel
theorem dX6_row_27 : decode cX6_row 27 = .ok (.ireturn, 1) := by decide +kernel
theorem dX6_row_28 : decode cX6_row 28 = .ok (.iload_n 3, 1) := by decide +kernel
theorem dX6_row_29 : decode cX6_row 29 = .ok (.tableswitch 56 0 2 #[27, 40, 43], 27) := by decide +kernel
theorem dX6_row_56 : decode cX6_row 56 = .ok (.aload_n 0, 1) := by decide +kernel
theorem dX6_row_57 : decode cX6_row 57 = .ok (.getfield 10, 3) := by decide +kernel
theorem dX6_row_60 : decode cX6_row 60 = .ok (.getfield 51, 3) := by decide +kernel
theorem dX6_row_63 : decode cX6_row 63 = .ok (.iload 4, 2) := by decide +kernel
theorem dX6_row_65 : decode cX6_row 65 = .ok (.invokevirtual 115, 3) := by decide +kernel
theorem dX6_row_68 : decode cX6_row 68 = .ok (.ireturn, 1) := by decide +kernel
theorem dX6_row_69 : decode cX6_row 69 = .ok (.iload 4, 2) := by decide +kernel
theorem dX6_row_71 : decode cX6_row 71 = .ok (.ireturn, 1) := by decide +kernel
theorem dX6_row_72 : decode cX6_row 72 = .ok (.aload_n 0, 1) := by decide +kernel
theorem dX6_row_73 : decode cX6_row 73 = .ok (.getfield 10, 3) := by decide +kernel
theorem dX6_row_76 : decode cX6_row 76 = .ok (.getfield 51, 3) := by decide +kernel
theorem dX6_row_79 : decode cX6_row 79 = .ok (.iload 4, 2) := by decide +kernel
theorem dX6_row_81 : decode cX6_row 81 = .ok (.invokevirtual 168, 3) := by decide +kernel
theorem dX6_row_84 : decode cX6_row 84 = .ok (.ireturn, 1) := by decide +kernel
theorem dX6_row_85 : decode cX6_row 85 = .ok (.bipush (-2), 2) := by decide +kernel
theorem dX6_row_87 : decode cX6_row 87 = .ok (.ireturn, 1) := by decide +kernel
def ck_wsX6_count : List (List Cond) := [[.code yX6_count cX6_count 2 (some .int)], wsX6_count_r1, wsX6_count_r2]
theorem ck_wsX6_count_m : ∀ c ∈ ck_wsX6_count, ∀ w ∈ c, w ∈ wsX6_count := List.forall_mem_cons.mpr ⟨fun w h => List.mem_cons.mpr (Or.inl (List.mem_singleton.mp h)), List.forall_mem_cons.mpr ⟨fun _ h => (List.mem_cons_of_mem _ (List.mem_append_left _ (List.mem_append_left _ (List.mem_append_left _ (List.mem_append_left _ h))))), List.forall_mem_cons.mpr ⟨fun _ h => (List.mem_cons_of_mem _ (List.mem_append_left _ (List.mem_append_left _ (List.mem_append_left _ (List.mem_append_right _ h))))), fun _ h => absurd h List.not_mem_nil⟩⟩⟩
set_option maxRecDepth 100000 in
theorem ck_wsX6_count_g : ∀ w ∈ wsX6_count, goodWord w = true := List.all_eq_true.mp (by decide +kernel)
set_option maxRecDepth 100000 in
theorem ggX6_count_X3_rowsKept : GoodIn wsX6_count wsX3_rowsKept := goodIn_ca (goodIn_2 ck_wsX6_count [(1, 11), (1, 12), (1, 13), (1, 14), (1, 15), (1, 10), (1, 16), (1, 17)] ck_wsX6_count_m ck_wsX6_count_g rfl) (goodIn_b (fun _ h => (List.mem_cons_of_mem _ (List.mem_append_right _ h))) ck_wsX6_count_g)
set_option maxRecDepth 20000 in
theorem gX6_count_X3_rowsKept : GoodIn wsX6_count (wsV RX6 171 RX3 yX3_rowsKept wsX3_rowsKept) := goodIn_app (goodIn_of _ (by decide +kernel)) ggX6_count_X3_rowsKept
set_option maxRecDepth 100000 in
theorem ggX6_count_X3_countsBelow : GoodIn wsX6_count wsX3_countsBelow := goodIn_ca (goodIn_2 ck_wsX6_count [(1, 21), (1, 12), (1, 22), (1, 23), (2, 0), (1, 10), (2, 1), (2, 2), (1, 13), (1, 14), (1, 15), (1, 16), (1, 17)] ck_wsX6_count_m ck_wsX6_count_g rfl) (goodIn_b (fun _ h => (List.mem_cons_of_mem _ (List.mem_append_right _ h))) ck_wsX6_count_g)
set_option maxRecDepth 20000 in
theorem gX6_count_X3_countsBelow : GoodIn wsX6_count (wsV RX6 174 RX3 yX3_countsBelow wsX3_countsBelow) := goodIn_app (goodIn_of _ (by decide +kernel)) ggX6_count_X3_countsBelow
theorem dX6_count_0 : decode cX6_count 0 = .ok (.iload_n 1, 1) := by decide +kernel
theorem dX6_count_1 : decode cX6_count 1 = .ok (.tableswitch 111 0 6 #[43, 54, 65, 79, 87, 95, 103], 43) := by decide +kernel
theorem dX6_count_44 : decode cX6_count 44 = .ok (.aload_n 0, 1) := by decide +kernel
theorem dX6_count_45 : decode cX6_count 45 = .ok (.getfield 10, 3) := by decide +kernel
theorem dX6_count_48 : decode cX6_count 48 = .ok (.getfield 51, 3) := by decide +kernel
theorem dX6_count_51 : decode cX6_count 51 = .ok (.getfield 69, 3) := by decide +kernel
theorem dX6_count_54 : decode cX6_count 54 = .ok (.ireturn, 1) := by decide +kernel
theorem dX6_count_55 : decode cX6_count 55 = .ok (.aload_n 0, 1) := by decide +kernel
theorem dX6_count_56 : decode cX6_count 56 = .ok (.getfield 10, 3) := by decide +kernel
theorem dX6_count_59 : decode cX6_count 59 = .ok (.getfield 51, 3) := by decide +kernel
theorem dX6_count_62 : decode cX6_count 62 = .ok (.invokevirtual 171, 3) := by decide +kernel
theorem dX6_count_65 : decode cX6_count 65 = .ok (.ireturn, 1) := by decide +kernel
theorem dX6_count_66 : decode cX6_count 66 = .ok (.aload_n 0, 1) := by decide +kernel
theorem dX6_count_67 : decode cX6_count 67 = .ok (.getfield 10, 3) := by decide +kernel
theorem dX6_count_70 : decode cX6_count 70 = .ok (.getfield 51, 3) := by decide +kernel
theorem dX6_count_73 : decode cX6_count 73 = .ok (.sipush 1000, 3) := by decide +kernel
theorem dX6_count_76 : decode cX6_count 76 = .ok (.invokevirtual 174, 3) := by decide +kernel
theorem dX6_count_79 : decode cX6_count 79 = .ok (.ireturn, 1) := by decide +kernel
theorem dX6_count_80 : decode cX6_count 80 = .ok (.aload_n 0, 1) := by decide +kernel
theorem dX6_count_81 : decode cX6_count 81 = .ok (.getfield 10, 3) := by decide +kernel
theorem dX6_count_84 : decode cX6_count 84 = .ok (.getfield 177, 3) := by decide +kernel
theorem dX6_count_87 : decode cX6_count 87 = .ok (.ireturn, 1) := by decide +kernel
theorem dX6_count_88 : decode cX6_count 88 = .ok (.aload_n 0, 1) := by decide +kernel
theorem dX6_count_89 : decode cX6_count 89 = .ok (.getfield 10, 3) := by decide +kernel
theorem dX6_count_92 : decode cX6_count 92 = .ok (.getfield 180, 3) := by decide +kernel
theorem dX6_count_95 : decode cX6_count 95 = .ok (.ireturn, 1) := by decide +kernel
theorem dX6_count_96 : decode cX6_count 96 = .ok (.aload_n 0, 1) := by decide +kernel
theorem dX6_count_97 : decode cX6_count 97 = .ok (.getfield 10, 3) := by decide +kernel
theorem dX6_count_100 : decode cX6_count 100 = .ok (.getfield 183, 3) := by decide +kernel
theorem dX6_count_103 : decode cX6_count 103 = .ok (.ireturn, 1) := by decide +kernel
theorem dX6_count_104 : decode cX6_count 104 = .ok (.aload_n 0, 1) := by decide +kernel
theorem dX6_count_105 : decode cX6_count 105 = .ok (.getfield 10, 3) := by decide +kernel
theorem dX6_count_108 : decode cX6_count 108 = .ok (.getfield 186, 3) := by decide +kernel
theorem dX6_count_111 : decode cX6_count 111 = .ok (.ireturn, 1) := by decide +kernel
theorem dX6_count_112 : decode cX6_count 112 = .ok (.bipush (-2), 2) := by decide +kernel
theorem dX6_count_114 : decode cX6_count 114 = .ok (.ireturn, 1) := by decide +kernel
set_option maxRecDepth 20000 in
theorem ggX6_rank_X6_isKey : GoodIn wsX6_rank wsX6_isKey := goodIn_r _ [6] (by decide +kernel) (by decide +kernel)
set_option maxRecDepth 20000 in
theorem gX6_rank_X6_isKey : GoodIn wsX6_rank (va_wsS RX6 43 yX6_isKey wsX6_isKey) := goodIn_app (goodIn_of _ (by decide +kernel)) ggX6_rank_X6_isKey
set_option maxRecDepth 20000 in
theorem ggX6_rank_X3_countsBelow : GoodIn wsX6_rank wsX3_countsBelow := goodIn_r _ [11, 12, 13, 14, 15, 10, 16, 17, 18, 19, 20, 21, 22, 46, 47, 48, 49] (by decide +kernel) (by decide +kernel)
set_option maxRecDepth 20000 in
theorem gX6_rank_X3_countsBelow : GoodIn wsX6_rank (wsV RX6 174 RX3 yX3_countsBelow wsX3_countsBelow) := goodIn_app (goodIn_of _ (by decide +kernel)) ggX6_rank_X3_countsBelow
theorem dX6_rank_0 : decode cX6_rank 0 = .ok (.iload_n 1, 1) := by decide +kernel
theorem dX6_rank_1 : decode cX6_rank 1 = .ok (.invokestatic 43, 3) := by decide +kernel
theorem dX6_rank_4 : decode cX6_rank 4 = .ok (.ifCond .ne 6, 3) := by decide +kernel
theorem dX6_rank_7 : decode cX6_rank 7 = .ok (.bipush (-2), 2) := by decide +kernel
theorem dX6_rank_9 : decode cX6_rank 9 = .ok (.ireturn, 1) := by decide +kernel
theorem dX6_rank_10 : decode cX6_rank 10 = .ok (.aload_n 0, 1) := by decide +kernel
theorem dX6_rank_11 : decode cX6_rank 11 = .ok (.getfield 10, 3) := by decide +kernel
theorem dX6_rank_14 : decode cX6_rank 14 = .ok (.getfield 51, 3) := by decide +kernel
theorem dX6_rank_17 : decode cX6_rank 17 = .ok (.iload_n 1, 1) := by decide +kernel
theorem dX6_rank_18 : decode cX6_rank 18 = .ok (.invokevirtual 174, 3) := by decide +kernel
theorem dX6_rank_21 : decode cX6_rank 21 = .ok (.ireturn, 1) := by decide +kernel
def ck_wsX6_costsWith : List (List Cond) := [[.code yX6_costsWith cX6_costsWith 2 (some .int)], wsX6_costsWith_r1, wsX6_costsWith_r2, wsX6_costsWith_r3, wsX6_costsWith_r4, wsX6_costsWith_r5, wsX6_costsWith_r6, wsX6_costsWith_r7, wsX6_costsWith_r8]
theorem ck_wsX6_costsWith_m : ∀ c ∈ ck_wsX6_costsWith, ∀ w ∈ c, w ∈ wsX6_costsWith := List.forall_mem_cons.mpr ⟨fun w h => List.mem_cons.mpr (Or.inl (List.mem_singleton.mp h)), List.forall_mem_cons.mpr ⟨fun _ h => (List.mem_cons_of_mem _ (List.mem_append_left _ (List.mem_append_left _ (List.mem_append_left _ (List.mem_append_left _ (List.mem_append_left _ h)))))), List.forall_mem_cons.mpr ⟨fun _ h => (List.mem_cons_of_mem _ (List.mem_append_left _ (List.mem_append_left _ (List.mem_append_left _ (List.mem_append_left _ (List.mem_append_right _ (List.mem_append_left _ h))))))), List.forall_mem_cons.mpr ⟨fun _ h => (List.mem_cons_of_mem _ (List.mem_append_left _ (List.mem_append_left _ (List.mem_append_left _ (List.mem_append_left _ (List.mem_append_right _ (List.mem_append_right _ (List.mem_append_left _ h)))))))), List.forall_mem_cons.mpr ⟨fun _ h => (List.mem_cons_of_mem _ (List.mem_append_left _ (List.mem_append_left _ (List.mem_append_left _ (List.mem_append_left _ (List.mem_append_right _ (List.mem_append_right _ (List.mem_append_right _ (List.mem_append_left _ h))))))))), List.forall_mem_cons.mpr ⟨fun _ h => (List.mem_cons_of_mem _ (List.mem_append_left _ (List.mem_append_left _ (List.mem_append_left _ (List.mem_append_left _ (List.mem_append_right _ (List.mem_append_right _ (List.mem_append_right _ (List.mem_append_right _ (List.mem_append_left _ h)))))))))), List.forall_mem_cons.mpr ⟨fun _ h => (List.mem_cons_of_mem _ (List.mem_append_left _ (List.mem_append_left _ (List.mem_append_left _ (List.mem_append_left _ (List.mem_append_right _ (List.mem_append_right _ (List.mem_append_right _ (List.mem_append_right _ (List.mem_append_right _ (List.mem_append_left _ h))))))))))), List.forall_mem_cons.mpr ⟨fun _ h => (List.mem_cons_of_mem _ (List.mem_append_left _ (List.mem_append_left _ (List.mem_append_left _ (List.mem_append_left _ (List.mem_append_right _ (List.mem_append_right _ (List.mem_append_right _ (List.mem_append_right _ (List.mem_append_right _ (List.mem_append_right _ (List.mem_append_left _ h)))))))))))), List.forall_mem_cons.mpr ⟨fun _ h => (List.mem_cons_of_mem _ (List.mem_append_left _ (List.mem_append_left _ (List.mem_append_left _ (List.mem_append_left _ (List.mem_append_right _ (List.mem_append_right _ (List.mem_append_right _ (List.mem_append_right _ (List.mem_append_right _ (List.mem_append_right _ (List.mem_append_right _ h)))))))))))), fun _ h => absurd h List.not_mem_nil⟩⟩⟩⟩⟩⟩⟩⟩⟩
set_option maxRecDepth 100000 in
theorem ck_wsX6_costsWith_g : ∀ w ∈ wsX6_costsWith, goodWord w = true := List.all_eq_true.mp (by decide +kernel)
set_option maxRecDepth 100000 in
theorem ggX6_costsWith_X6_isMemorySize : GoodIn wsX6_costsWith wsX6_isMemorySize := goodIn_2 ck_wsX6_costsWith [(1, 6)] ck_wsX6_costsWith_m ck_wsX6_costsWith_g rfl
set_option maxRecDepth 20000 in
theorem gX6_costsWith_X6_isMemorySize : GoodIn wsX6_costsWith (va_wsS RX6 94 yX6_isMemorySize wsX6_isMemorySize) := goodIn_app (goodIn_of _ (by decide +kernel)) ggX6_costsWith_X6_isMemorySize
set_option maxRecDepth 100000 in
theorem ggX6_costsWith_X6_foretell : GoodIn wsX6_costsWith wsX6_foretell := goodIn_ca (goodIn_ca (goodIn_ca (goodIn_ca (goodIn_2 ck_wsX6_costsWith [(1, 10), (1, 0), (1, 2), (1, 11), (1, 12), (1, 13), (1, 14), (1, 15), (1, 16), (1, 17), (1, 18), (1, 19), (1, 20), (1, 21), (1, 22), (1, 23), (2, 0), (2, 1), (2, 2), (2, 3), (2, 4), (2, 5), (2, 6), (2, 7), (2, 8), (2, 9), (2, 10), (2, 11), (2, 12), (2, 13), (2, 14), (2, 15), (2, 16), (2, 17), (2, 18), (2, 19), (2, 20), (2, 21), (2, 22), (2, 23), (3, 0), (3, 1), (3, 2), (3, 3), (3, 4), (3, 5), (3, 6), (3, 7), (3, 8), (3, 9), (3, 10), (3, 11), (3, 12), (3, 13), (3, 14), (3, 15), (3, 16), (3, 17), (3, 18), (3, 19), (3, 20), (3, 21), (3, 22), (3, 23), (4, 0), (4, 1), (4, 2), (4, 3), (4, 4), (4, 5), (4, 6), (4, 7), (4, 8), (4, 9), (4, 10), (4, 11), (4, 12), (4, 13), (4, 14), (4, 15), (4, 16), (4, 17), (4, 18), (4, 19), (4, 20), (4, 21), (4, 22), (4, 23), (5, 0), (5, 1), (5, 2), (5, 3), (5, 4), (5, 5), (5, 6), (5, 7), (5, 8), (5, 9), (5, 10), (5, 11), (5, 12), (5, 13), (5, 14), (5, 15), (5, 16), (5, 17), (5, 18), (5, 19), (5, 20), (5, 21), (5, 22), (5, 23), (6, 0), (6, 1), (6, 2), (6, 3), (6, 4), (6, 5), (6, 6), (6, 7), (6, 8), (6, 9), (6, 10), (6, 11), (6, 12), (6, 13), (6, 14), (6, 15), (6, 16), (6, 17), (6, 18), (6, 19), (6, 20), (6, 21), (6, 22), (6, 23), (7, 0), (7, 1), (7, 2), (7, 3), (7, 4), (7, 5), (7, 6), (7, 7), (7, 8), (7, 9), (7, 10), (7, 11), (7, 12), (7, 13), (7, 14), (7, 15), (7, 16), (7, 17), (7, 18), (7, 19), (7, 20), (7, 21), (7, 22), (7, 23), (8, 0), (8, 1), (8, 2), (8, 3), (8, 4), (8, 5), (8, 6), (8, 7), (8, 8), (8, 9), (8, 10), (8, 11), (8, 12), (8, 13), (8, 14), (8, 15), (8, 16), (8, 17)] ck_wsX6_costsWith_m ck_wsX6_costsWith_g rfl) (goodIn_b (fun _ h => (List.mem_cons_of_mem _ (List.mem_append_left _ (List.mem_append_left _ (List.mem_append_left _ (List.mem_append_right _ h)))))) ck_wsX6_costsWith_g)) (goodIn_b (fun _ h => (List.mem_cons_of_mem _ (List.mem_append_left _ (List.mem_append_left _ (List.mem_append_right _ h))))) ck_wsX6_costsWith_g)) (goodIn_b (fun _ h => (List.mem_cons_of_mem _ (List.mem_append_left _ (List.mem_append_right _ h)))) ck_wsX6_costsWith_g)) (goodIn_b (fun _ h => (List.mem_cons_of_mem _ (List.mem_append_right _ h))) ck_wsX6_costsWith_g)
set_option maxRecDepth 20000 in
theorem gX6_costsWith_X6_foretell : GoodIn wsX6_costsWith (wsV RX6 189 RX6 yX6_foretell wsX6_foretell) := goodIn_app (goodIn_of _ (by decide +kernel)) ggX6_costsWith_X6_foretell
theorem dX6_costsWith_0 : decode cX6_costsWith 0 = .ok (.iload_n 1, 1) := by decide +kernel
theorem dX6_costsWith_1 : decode cX6_costsWith 1 = .ok (.invokestatic 94, 3) := by decide +kernel
theorem dX6_costsWith_4 : decode cX6_costsWith 4 = .ok (.ifCond .ne 6, 3) := by decide +kernel
theorem dX6_costsWith_7 : decode cX6_costsWith 7 = .ok (.bipush (-2), 2) := by decide +kernel
theorem dX6_costsWith_9 : decode cX6_costsWith 9 = .ok (.ireturn, 1) := by decide +kernel
theorem dX6_costsWith_10 : decode cX6_costsWith 10 = .ok (.aload_n 0, 1) := by decide +kernel
theorem dX6_costsWith_11 : decode cX6_costsWith 11 = .ok (.iload_n 1, 1) := by decide +kernel
theorem dX6_costsWith_12 : decode cX6_costsWith 12 = .ok (.invokevirtual 189, 3) := by decide +kernel
theorem dX6_costsWith_15 : decode cX6_costsWith 15 = .ok (.ifCond .ne 6, 3) := by decide +kernel
theorem dX6_costsWith_18 : decode cX6_costsWith 18 = .ok (.bipush (-3), 2) := by decide +kernel
theorem dX6_costsWith_20 : decode cX6_costsWith 20 = .ok (.ireturn, 1) := by decide +kernel
theorem dX6_costsWith_21 : decode cX6_costsWith 21 = .ok (.aload_n 0, 1) := by decide +kernel
theorem dX6_costsWith_22 : decode cX6_costsWith 22 = .ok (.getfield 16, 3) := by decide +kernel
theorem dX6_costsWith_25 : decode cX6_costsWith 25 = .ok (.getfield 177, 3) := by decide +kernel
theorem dX6_costsWith_28 : decode cX6_costsWith 28 = .ok (.aload_n 0, 1) := by decide +kernel
theorem dX6_costsWith_29 : decode cX6_costsWith 29 = .ok (.getfield 10, 3) := by decide +kernel
theorem dX6_costsWith_32 : decode cX6_costsWith 32 = .ok (.getfield 177, 3) := by decide +kernel
theorem dX6_costsWith_35 : decode cX6_costsWith 35 = .ok (.isub, 1) := by decide +kernel
theorem dX6_costsWith_36 : decode cX6_costsWith 36 = .ok (.ireturn, 1) := by decide +kernel
def ck_wsX6_mergesWith : List (List Cond) := [[.code yX6_mergesWith cX6_mergesWith 2 (some .int)], wsX6_mergesWith_r1, wsX6_mergesWith_r2, wsX6_mergesWith_r3, wsX6_mergesWith_r4, wsX6_mergesWith_r5, wsX6_mergesWith_r6, wsX6_mergesWith_r7, wsX6_mergesWith_r8]
theorem ck_wsX6_mergesWith_m : ∀ c ∈ ck_wsX6_mergesWith, ∀ w ∈ c, w ∈ wsX6_mergesWith := List.forall_mem_cons.mpr ⟨fun w h => List.mem_cons.mpr (Or.inl (List.mem_singleton.mp h)), List.forall_mem_cons.mpr ⟨fun _ h => (List.mem_cons_of_mem _ (List.mem_append_left _ (List.mem_append_left _ (List.mem_append_left _ (List.mem_append_left _ (List.mem_append_left _ h)))))), List.forall_mem_cons.mpr ⟨fun _ h => (List.mem_cons_of_mem _ (List.mem_append_left _ (List.mem_append_left _ (List.mem_append_left _ (List.mem_append_left _ (List.mem_append_right _ (List.mem_append_left _ h))))))), List.forall_mem_cons.mpr ⟨fun _ h => (List.mem_cons_of_mem _ (List.mem_append_left _ (List.mem_append_left _ (List.mem_append_left _ (List.mem_append_left _ (List.mem_append_right _ (List.mem_append_right _ (List.mem_append_left _ h)))))))), List.forall_mem_cons.mpr ⟨fun _ h => (List.mem_cons_of_mem _ (List.mem_append_left _ (List.mem_append_left _ (List.mem_append_left _ (List.mem_append_left _ (List.mem_append_right _ (List.mem_append_right _ (List.mem_append_right _ (List.mem_append_left _ h))))))))), List.forall_mem_cons.mpr ⟨fun _ h => (List.mem_cons_of_mem _ (List.mem_append_left _ (List.mem_append_left _ (List.mem_append_left _ (List.mem_append_left _ (List.mem_append_right _ (List.mem_append_right _ (List.mem_append_right _ (List.mem_append_right _ (List.mem_append_left _ h)))))))))), List.forall_mem_cons.mpr ⟨fun _ h => (List.mem_cons_of_mem _ (List.mem_append_left _ (List.mem_append_left _ (List.mem_append_left _ (List.mem_append_left _ (List.mem_append_right _ (List.mem_append_right _ (List.mem_append_right _ (List.mem_append_right _ (List.mem_append_right _ (List.mem_append_left _ h))))))))))), List.forall_mem_cons.mpr ⟨fun _ h => (List.mem_cons_of_mem _ (List.mem_append_left _ (List.mem_append_left _ (List.mem_append_left _ (List.mem_append_left _ (List.mem_append_right _ (List.mem_append_right _ (List.mem_append_right _ (List.mem_append_right _ (List.mem_append_right _ (List.mem_append_right _ (List.mem_append_left _ h)))))))))))), List.forall_mem_cons.mpr ⟨fun _ h => (List.mem_cons_of_mem _ (List.mem_append_left _ (List.mem_append_left _ (List.mem_append_left _ (List.mem_append_left _ (List.mem_append_right _ (List.mem_append_right _ (List.mem_append_right _ (List.mem_append_right _ (List.mem_append_right _ (List.mem_append_right _ (List.mem_append_right _ h)))))))))))), fun _ h => absurd h List.not_mem_nil⟩⟩⟩⟩⟩⟩⟩⟩⟩
set_option maxRecDepth 100000 in
theorem ck_wsX6_mergesWith_g : ∀ w ∈ wsX6_mergesWith, goodWord w = true := List.all_eq_true.mp (by decide +kernel)
set_option maxRecDepth 100000 in
theorem ggX6_mergesWith_X6_isMemorySize : GoodIn wsX6_mergesWith wsX6_isMemorySize := goodIn_2 ck_wsX6_mergesWith [(1, 6)] ck_wsX6_mergesWith_m ck_wsX6_mergesWith_g rfl
set_option maxRecDepth 20000 in
theorem gX6_mergesWith_X6_isMemorySize : GoodIn wsX6_mergesWith (va_wsS RX6 94 yX6_isMemorySize wsX6_isMemorySize) := goodIn_app (goodIn_of _ (by decide +kernel)) ggX6_mergesWith_X6_isMemorySize
set_option maxRecDepth 100000 in
theorem ggX6_mergesWith_X6_foretell : GoodIn wsX6_mergesWith wsX6_foretell := goodIn_ca (goodIn_ca (goodIn_ca (goodIn_ca (goodIn_2 ck_wsX6_mergesWith [(1, 10), (1, 0), (1, 2), (1, 11), (1, 12), (1, 13), (1, 14), (1, 15), (1, 16), (1, 17), (1, 18), (1, 19), (1, 20), (1, 21), (1, 22), (1, 23), (2, 0), (2, 1), (2, 2), (2, 3), (2, 4), (2, 5), (2, 6), (2, 7), (2, 8), (2, 9), (2, 10), (2, 11), (2, 12), (2, 13), (2, 14), (2, 15), (2, 16), (2, 17), (2, 18), (2, 19), (2, 20), (2, 21), (2, 22), (2, 23), (3, 0), (3, 1), (3, 2), (3, 3), (3, 4), (3, 5), (3, 6), (3, 7), (3, 8), (3, 9), (3, 10), (3, 11), (3, 12), (3, 13), (3, 14), (3, 15), (3, 16), (3, 17), (3, 18), (3, 19), (3, 20), (3, 21), (3, 22), (3, 23), (4, 0), (4, 1), (4, 2), (4, 3), (4, 4), (4, 5), (4, 6), (4, 7), (4, 8), (4, 9), (4, 10), (4, 11), (4, 12), (4, 13), (4, 14), (4, 15), (4, 16), (4, 17), (4, 18), (4, 19), (4, 20), (4, 21), (4, 22), (4, 23), (5, 0), (5, 1), (5, 2), (5, 3), (5, 4), (5, 5), (5, 6), (5, 7), (5, 8), (5, 9), (5, 10), (5, 11), (5, 12), (5, 13), (5, 14), (5, 15), (5, 16), (5, 17), (5, 18), (5, 19), (5, 20), (5, 21), (5, 22), (5, 23), (6, 0), (6, 1), (6, 2), (6, 3), (6, 4), (6, 5), (6, 6), (6, 7), (6, 8), (6, 9), (6, 10), (6, 11), (6, 12), (6, 13), (6, 14), (6, 15), (6, 16), (6, 17), (6, 18), (6, 19), (6, 20), (6, 21), (6, 22), (6, 23), (7, 0), (7, 1), (7, 2), (7, 3), (7, 4), (7, 5), (7, 6), (7, 7), (7, 8), (7, 9), (7, 10), (7, 11), (7, 12), (7, 13), (7, 14), (7, 15), (7, 16), (7, 17), (7, 18), (7, 19), (7, 20), (7, 21), (7, 22), (7, 23), (8, 0), (8, 1), (8, 2), (8, 3), (8, 4), (8, 5), (8, 6), (8, 7), (8, 8), (8, 9), (8, 10), (8, 11), (8, 12), (8, 13), (8, 14), (8, 15), (8, 16), (8, 17)] ck_wsX6_mergesWith_m ck_wsX6_mergesWith_g rfl) (goodIn_b (fun _ h => (List.mem_cons_of_mem _ (List.mem_append_left _ (List.mem_append_left _ (List.mem_append_left _ (List.mem_append_right _ h)))))) ck_wsX6_mergesWith_g)) (goodIn_b (fun _ h => (List.mem_cons_of_mem _ (List.mem_append_left _ (List.mem_append_left _ (List.mem_append_right _ h))))) ck_wsX6_mergesWith_g)) (goodIn_b (fun _ h => (List.mem_cons_of_mem _ (List.mem_append_left _ (List.mem_append_right _ h)))) ck_wsX6_mergesWith_g)) (goodIn_b (fun _ h => (List.mem_cons_of_mem _ (List.mem_append_right _ h))) ck_wsX6_mergesWith_g)
set_option maxRecDepth 20000 in
theorem gX6_mergesWith_X6_foretell : GoodIn wsX6_mergesWith (wsV RX6 189 RX6 yX6_foretell wsX6_foretell) := goodIn_app (goodIn_of _ (by decide +kernel)) ggX6_mergesWith_X6_foretell
theorem dX6_mergesWith_0 : decode cX6_mergesWith 0 = .ok (.iload_n 1, 1) := by decide +kernel
theorem dX6_mergesWith_1 : decode cX6_mergesWith 1 = .ok (.invokestatic 94, 3) := by decide +kernel
theorem dX6_mergesWith_4 : decode cX6_mergesWith 4 = .ok (.ifCond .ne 6, 3) := by decide +kernel
theorem dX6_mergesWith_7 : decode cX6_mergesWith 7 = .ok (.bipush (-2), 2) := by decide +kernel
theorem dX6_mergesWith_9 : decode cX6_mergesWith 9 = .ok (.ireturn, 1) := by decide +kernel
theorem dX6_mergesWith_10 : decode cX6_mergesWith 10 = .ok (.aload_n 0, 1) := by decide +kernel
theorem dX6_mergesWith_11 : decode cX6_mergesWith 11 = .ok (.iload_n 1, 1) := by decide +kernel
theorem dX6_mergesWith_12 : decode cX6_mergesWith 12 = .ok (.invokevirtual 189, 3) := by decide +kernel
theorem dX6_mergesWith_15 : decode cX6_mergesWith 15 = .ok (.ifCond .ne 6, 3) := by decide +kernel
theorem dX6_mergesWith_18 : decode cX6_mergesWith 18 = .ok (.bipush (-3), 2) := by decide +kernel
theorem dX6_mergesWith_20 : decode cX6_mergesWith 20 = .ok (.ireturn, 1) := by decide +kernel
theorem dX6_mergesWith_21 : decode cX6_mergesWith 21 = .ok (.aload_n 0, 1) := by decide +kernel
theorem dX6_mergesWith_22 : decode cX6_mergesWith 22 = .ok (.getfield 16, 3) := by decide +kernel
theorem dX6_mergesWith_25 : decode cX6_mergesWith 25 = .ok (.getfield 180, 3) := by decide +kernel
theorem dX6_mergesWith_28 : decode cX6_mergesWith 28 = .ok (.aload_n 0, 1) := by decide +kernel
theorem dX6_mergesWith_29 : decode cX6_mergesWith 29 = .ok (.getfield 10, 3) := by decide +kernel
theorem dX6_mergesWith_32 : decode cX6_mergesWith 32 = .ok (.getfield 180, 3) := by decide +kernel
theorem dX6_mergesWith_35 : decode cX6_mergesWith 35 = .ok (.isub, 1) := by decide +kernel
theorem dX6_mergesWith_36 : decode cX6_mergesWith 36 = .ok (.ireturn, 1) := by decide +kernel
def ck_wsX6_bestSize : List (List Cond) := [[.code yX6_bestSize cX6_bestSize 4 (some .int)], wsX6_bestSize_r1, wsX6_bestSize_r2, wsX6_bestSize_r3, wsX6_bestSize_r4, wsX6_bestSize_r5, wsX6_bestSize_r6, wsX6_bestSize_r7, wsX6_bestSize_r8]
theorem ck_wsX6_bestSize_m : ∀ c ∈ ck_wsX6_bestSize, ∀ w ∈ c, w ∈ wsX6_bestSize := List.forall_mem_cons.mpr ⟨fun w h => List.mem_cons.mpr (Or.inl (List.mem_singleton.mp h)), List.forall_mem_cons.mpr ⟨fun _ h => (List.mem_cons_of_mem _ (List.mem_append_left _ (List.mem_append_left _ (List.mem_append_left _ (List.mem_append_left _ (List.mem_append_left _ h)))))), List.forall_mem_cons.mpr ⟨fun _ h => (List.mem_cons_of_mem _ (List.mem_append_left _ (List.mem_append_left _ (List.mem_append_left _ (List.mem_append_left _ (List.mem_append_right _ (List.mem_append_left _ h))))))), List.forall_mem_cons.mpr ⟨fun _ h => (List.mem_cons_of_mem _ (List.mem_append_left _ (List.mem_append_left _ (List.mem_append_left _ (List.mem_append_left _ (List.mem_append_right _ (List.mem_append_right _ (List.mem_append_left _ h)))))))), List.forall_mem_cons.mpr ⟨fun _ h => (List.mem_cons_of_mem _ (List.mem_append_left _ (List.mem_append_left _ (List.mem_append_left _ (List.mem_append_left _ (List.mem_append_right _ (List.mem_append_right _ (List.mem_append_right _ (List.mem_append_left _ h))))))))), List.forall_mem_cons.mpr ⟨fun _ h => (List.mem_cons_of_mem _ (List.mem_append_left _ (List.mem_append_left _ (List.mem_append_left _ (List.mem_append_left _ (List.mem_append_right _ (List.mem_append_right _ (List.mem_append_right _ (List.mem_append_right _ (List.mem_append_left _ h)))))))))), List.forall_mem_cons.mpr ⟨fun _ h => (List.mem_cons_of_mem _ (List.mem_append_left _ (List.mem_append_left _ (List.mem_append_left _ (List.mem_append_left _ (List.mem_append_right _ (List.mem_append_right _ (List.mem_append_right _ (List.mem_append_right _ (List.mem_append_right _ (List.mem_append_left _ h))))))))))), List.forall_mem_cons.mpr ⟨fun _ h => (List.mem_cons_of_mem _ (List.mem_append_left _ (List.mem_append_left _ (List.mem_append_left _ (List.mem_append_left _ (List.mem_append_right _ (List.mem_append_right _ (List.mem_append_right _ (List.mem_append_right _ (List.mem_append_right _ (List.mem_append_right _ (List.mem_append_left _ h)))))))))))), List.forall_mem_cons.mpr ⟨fun _ h => (List.mem_cons_of_mem _ (List.mem_append_left _ (List.mem_append_left _ (List.mem_append_left _ (List.mem_append_left _ (List.mem_append_right _ (List.mem_append_right _ (List.mem_append_right _ (List.mem_append_right _ (List.mem_append_right _ (List.mem_append_right _ (List.mem_append_right _ h)))))))))))), fun _ h => absurd h List.not_mem_nil⟩⟩⟩⟩⟩⟩⟩⟩⟩
set_option maxRecDepth 100000 in
theorem ck_wsX6_bestSize_g : ∀ w ∈ wsX6_bestSize, goodWord w = true := List.all_eq_true.mp (by decide +kernel)
set_option maxRecDepth 100000 in
theorem ggX6_bestSize_X6_foretell : GoodIn wsX6_bestSize wsX6_foretell := goodIn_ca (goodIn_ca (goodIn_ca (goodIn_ca (goodIn_2 ck_wsX6_bestSize [(1, 6), (1, 0), (1, 7), (1, 8), (1, 9), (1, 10), (1, 11), (1, 12), (1, 13), (1, 14), (1, 15), (1, 16), (1, 17), (1, 18), (1, 19), (1, 20), (1, 21), (1, 22), (1, 23), (2, 0), (2, 1), (2, 2), (2, 3), (2, 4), (2, 5), (2, 6), (2, 7), (2, 8), (2, 9), (2, 10), (2, 11), (2, 12), (2, 13), (2, 14), (2, 15), (2, 16), (2, 17), (2, 18), (2, 19), (2, 20), (2, 21), (2, 22), (2, 23), (3, 0), (3, 1), (3, 2), (3, 3), (3, 4), (3, 5), (3, 6), (3, 7), (3, 8), (3, 9), (3, 10), (3, 11), (3, 12), (3, 13), (3, 14), (3, 15), (3, 16), (3, 17), (3, 18), (3, 19), (3, 20), (3, 21), (3, 22), (3, 23), (4, 0), (4, 1), (4, 2), (4, 3), (4, 4), (4, 5), (4, 6), (4, 7), (4, 8), (4, 9), (4, 10), (4, 11), (4, 12), (4, 13), (4, 14), (4, 15), (4, 16), (4, 17), (4, 18), (4, 19), (4, 20), (4, 21), (4, 22), (4, 23), (5, 0), (5, 1), (5, 2), (5, 3), (5, 4), (5, 5), (5, 6), (5, 7), (5, 8), (5, 9), (5, 10), (5, 11), (5, 12), (5, 13), (5, 14), (5, 15), (5, 16), (5, 17), (5, 18), (5, 19), (5, 20), (5, 21), (5, 22), (5, 23), (6, 0), (6, 1), (6, 2), (6, 3), (6, 4), (6, 5), (6, 6), (6, 7), (6, 8), (6, 9), (6, 10), (6, 11), (6, 12), (6, 13), (6, 14), (6, 15), (6, 16), (6, 17), (6, 18), (6, 19), (6, 20), (6, 21), (6, 22), (6, 23), (7, 0), (7, 1), (7, 2), (7, 3), (7, 4), (7, 5), (7, 6), (7, 7), (7, 8), (7, 9), (7, 10), (7, 11), (7, 12), (7, 13), (7, 14), (7, 15), (7, 16), (7, 17), (7, 18), (7, 19), (7, 20), (7, 21), (7, 22), (7, 23), (8, 0), (8, 1), (8, 2), (8, 3), (8, 4), (8, 5), (8, 6), (8, 7), (8, 8), (8, 9), (8, 10), (8, 11), (8, 12), (8, 13), (8, 14)] ck_wsX6_bestSize_m ck_wsX6_bestSize_g rfl) (goodIn_b (fun _ h => (List.mem_cons_of_mem _ (List.mem_append_left _ (List.mem_append_left _ (List.mem_append_left _ (List.mem_append_right _ h)))))) ck_wsX6_bestSize_g)) (goodIn_b (fun _ h => (List.mem_cons_of_mem _ (List.mem_append_left _ (List.mem_append_left _ (List.mem_append_right _ h))))) ck_wsX6_bestSize_g)) (goodIn_b (fun _ h => (List.mem_cons_of_mem _ (List.mem_append_left _ (List.mem_append_right _ h)))) ck_wsX6_bestSize_g)) (goodIn_b (fun _ h => (List.mem_cons_of_mem _ (List.mem_append_right _ h))) ck_wsX6_bestSize_g)
set_option maxRecDepth 20000 in
theorem gX6_bestSize_X6_foretell : GoodIn wsX6_bestSize (wsV RX6 189 RX6 yX6_foretell wsX6_foretell) := goodIn_app (goodIn_of _ (by decide +kernel)) ggX6_bestSize_X6_foretell
theorem dX6_bestSize_0 : decode cX6_bestSize 0 = .ok (.bipush (-6), 2) := by decide +kernel
theorem dX6_bestSize_2 : decode cX6_bestSize 2 = .ok (.istore_n 1, 1) := by decide +kernel
theorem dX6_bestSize_3 : decode cX6_bestSize 3 = .ok (.iconst 0, 1) := by decide +kernel
theorem dX6_bestSize_4 : decode cX6_bestSize 4 = .ok (.istore_n 2, 1) := by decide +kernel
theorem dX6_bestSize_5 : decode cX6_bestSize 5 = .ok (.iconst 2, 1) := by decide +kernel
theorem dX6_bestSize_6 : decode cX6_bestSize 6 = .ok (.istore_n 3, 1) := by decide +kernel
theorem dX6_bestSize_7 : decode cX6_bestSize 7 = .ok (.iload_n 3, 1) := by decide +kernel
theorem dX6_bestSize_8 : decode cX6_bestSize 8 = .ok (.bipush 9, 2) := by decide +kernel
theorem dX6_bestSize_10 : decode cX6_bestSize 10 = .ok (.if_icmp .gt 44, 3) := by decide +kernel
theorem dX6_bestSize_13 : decode cX6_bestSize 13 = .ok (.aload_n 0, 1) := by decide +kernel
theorem dX6_bestSize_14 : decode cX6_bestSize 14 = .ok (.iload_n 3, 1) := by decide +kernel
theorem dX6_bestSize_15 : decode cX6_bestSize 15 = .ok (.invokevirtual 189, 3) := by decide +kernel
theorem dX6_bestSize_18 : decode cX6_bestSize 18 = .ok (.ifCond .eq 30, 3) := by decide +kernel
theorem dX6_bestSize_21 : decode cX6_bestSize 21 = .ok (.iload_n 1, 1) := by decide +kernel
theorem dX6_bestSize_22 : decode cX6_bestSize 22 = .ok (.bipush (-6), 2) := by decide +kernel
theorem dX6_bestSize_24 : decode cX6_bestSize 24 = .ok (.if_icmp .eq 14, 3) := by decide +kernel
theorem dX6_bestSize_27 : decode cX6_bestSize 27 = .ok (.aload_n 0, 1) := by decide +kernel
theorem dX6_bestSize_28 : decode cX6_bestSize 28 = .ok (.getfield 16, 3) := by decide +kernel
theorem dX6_bestSize_31 : decode cX6_bestSize 31 = .ok (.getfield 177, 3) := by decide +kernel
theorem dX6_bestSize_34 : decode cX6_bestSize 34 = .ok (.iload_n 2, 1) := by decide +kernel
theorem dX6_bestSize_35 : decode cX6_bestSize 35 = .ok (.if_icmp .ge 13, 3) := by decide +kernel
theorem dX6_bestSize_38 : decode cX6_bestSize 38 = .ok (.iload_n 3, 1) := by decide +kernel
theorem dX6_bestSize_39 : decode cX6_bestSize 39 = .ok (.istore_n 1, 1) := by decide +kernel
theorem dX6_bestSize_40 : decode cX6_bestSize 40 = .ok (.aload_n 0, 1) := by decide +kernel
theorem dX6_bestSize_41 : decode cX6_bestSize 41 = .ok (.getfield 16, 3) := by decide +kernel
theorem dX6_bestSize_44 : decode cX6_bestSize 44 = .ok (.getfield 177, 3) := by decide +kernel
theorem dX6_bestSize_47 : decode cX6_bestSize 47 = .ok (.istore_n 2, 1) := by decide +kernel
theorem dX6_bestSize_48 : decode cX6_bestSize 48 = .ok (.iinc 3 1, 3) := by decide +kernel
theorem dX6_bestSize_51 : decode cX6_bestSize 51 = .ok (.goto (-44), 3) := by decide +kernel
theorem dX6_bestSize_54 : decode cX6_bestSize 54 = .ok (.iload_n 1, 1) := by decide +kernel
theorem dX6_bestSize_55 : decode cX6_bestSize 55 = .ok (.ireturn, 1) := by decide +kernel
set_option maxRecDepth 20000 in
theorem ggX6_append_X0_hasRoom : GoodIn wsX6_append wsX0_hasRoom := goodIn_r _ [6, 7, 21, 22] (by decide +kernel) (by decide +kernel)
set_option maxRecDepth 20000 in
theorem gX6_append_X0_hasRoom : GoodIn wsX6_append (wsV RX6 192 RX0 yX0_hasRoom wsX0_hasRoom) := goodIn_app (goodIn_of _ (by decide +kernel)) ggX6_append_X0_hasRoom
set_option maxRecDepth 20000 in
theorem ggX6_append_X0_put : GoodIn wsX6_append wsX0_put := goodIn_r _ [11, 12, 7, 13, 3, 4, 5, 6, 21, 22] (by decide +kernel) (by decide +kernel)
set_option maxRecDepth 20000 in
theorem gX6_append_X0_put : GoodIn wsX6_append (wsV RX6 193 RX0 yX0_put wsX0_put) := goodIn_app (goodIn_of _ (by decide +kernel)) ggX6_append_X0_put
theorem dX6_append_0 : decode cX6_append 0 = .ok (.iload_n 1, 1) := by decide +kernel
theorem dX6_append_1 : decode cX6_append 1 = .ok (.bipush 33, 2) := by decide +kernel
theorem dX6_append_3 : decode cX6_append 3 = .ok (.if_icmp .lt 9, 3) := by decide +kernel
theorem dX6_append_6 : decode cX6_append 6 = .ok (.iload_n 1, 1) := by decide +kernel
theorem dX6_append_7 : decode cX6_append 7 = .ok (.bipush 126, 2) := by decide +kernel
theorem dX6_append_9 : decode cX6_append 9 = .ok (.if_icmp .le 6, 3) := by decide +kernel
theorem dX6_append_12 : decode cX6_append 12 = .ok (.bipush (-2), 2) := by decide +kernel
theorem dX6_append_14 : decode cX6_append 14 = .ok (.ireturn, 1) := by decide +kernel
theorem dX6_append_15 : decode cX6_append 15 = .ok (.aload_n 0, 1) := by decide +kernel
theorem dX6_append_16 : decode cX6_append 16 = .ok (.getfield 32, 3) := by decide +kernel
theorem dX6_append_19 : decode cX6_append 19 = .ok (.invokevirtual 192, 3) := by decide +kernel
theorem dX6_append_22 : decode cX6_append 22 = .ok (.ifCond .ne 6, 3) := by decide +kernel
theorem dX6_append_25 : decode cX6_append 25 = .ok (.bipush (-4), 2) := by decide +kernel
theorem dX6_append_27 : decode cX6_append 27 = .ok (.ireturn, 1) := by decide +kernel
theorem dX6_append_28 : decode cX6_append 28 = .ok (.aload_n 0, 1) := by decide +kernel
theorem dX6_append_29 : decode cX6_append 29 = .ok (.getfield 32, 3) := by decide +kernel
theorem dX6_append_32 : decode cX6_append 32 = .ok (.iload_n 1, 1) := by decide +kernel
theorem dX6_append_33 : decode cX6_append 33 = .ok (.invokevirtual 193, 3) := by decide +kernel
theorem dX6_append_36 : decode cX6_append 36 = .ok (.ireturn, 1) := by decide +kernel
set_option maxRecDepth 20000 in
theorem ggX6_clearText_X0_empty : GoodIn wsX6_clearText wsX0_empty := goodIn_r _ [6, 7, 15, 16] (by decide +kernel) (by decide +kernel)
set_option maxRecDepth 20000 in
theorem gX6_clearText_X0_empty : GoodIn wsX6_clearText (wsV RX6 196 RX0 yX0_empty wsX0_empty) := goodIn_app (goodIn_of _ (by decide +kernel)) ggX6_clearText_X0_empty
theorem dX6_clearText_0 : decode cX6_clearText 0 = .ok (.aload_n 0, 1) := by decide +kernel
theorem dX6_clearText_1 : decode cX6_clearText 1 = .ok (.getfield 32, 3) := by decide +kernel
theorem dX6_clearText_4 : decode cX6_clearText 4 = .ok (.invokevirtual 196, 3) := by decide +kernel
theorem dX6_clearText_7 : decode cX6_clearText 7 = .ok (.ireturn, 1) := by decide +kernel
def ck_wsX6_errorPosition : List (List Cond) := [[.code yX6_errorPosition cX6_errorPosition 2 (some .int)], wsX6_errorPosition_r1, wsX6_errorPosition_r2, wsX6_errorPosition_r3]
theorem ck_wsX6_errorPosition_m : ∀ c ∈ ck_wsX6_errorPosition, ∀ w ∈ c, w ∈ wsX6_errorPosition := List.forall_mem_cons.mpr ⟨fun w h => List.mem_cons.mpr (Or.inl (List.mem_singleton.mp h)), List.forall_mem_cons.mpr ⟨fun _ h => (List.mem_cons_of_mem _ (List.mem_append_left _ (List.mem_append_left _ (List.mem_append_left _ (List.mem_append_left _ h))))), List.forall_mem_cons.mpr ⟨fun _ h => (List.mem_cons_of_mem _ (List.mem_append_left _ (List.mem_append_left _ (List.mem_append_left _ (List.mem_append_right _ (List.mem_append_left _ h)))))), List.forall_mem_cons.mpr ⟨fun _ h => (List.mem_cons_of_mem _ (List.mem_append_left _ (List.mem_append_left _ (List.mem_append_left _ (List.mem_append_right _ (List.mem_append_right _ h)))))), fun _ h => absurd h List.not_mem_nil⟩⟩⟩⟩
set_option maxRecDepth 100000 in
theorem ck_wsX6_errorPosition_g : ∀ w ∈ wsX6_errorPosition, goodWord w = true := List.all_eq_true.mp (by decide +kernel)
set_option maxRecDepth 100000 in
theorem ggX6_errorPosition_X2_beginItem : GoodIn wsX6_errorPosition wsX2_beginItem := goodIn_ca (goodIn_2 ck_wsX6_errorPosition [(1, 7), (1, 8), (1, 9), (1, 10), (1, 6), (1, 11), (1, 12), (1, 13), (1, 14), (1, 15), (1, 16)] ck_wsX6_errorPosition_m ck_wsX6_errorPosition_g rfl) (goodIn_b (fun _ h => (List.mem_cons_of_mem _ (List.mem_append_right _ h))) ck_wsX6_errorPosition_g)
set_option maxRecDepth 20000 in
theorem gX6_errorPosition_X2_beginItem : GoodIn wsX6_errorPosition (wsV RX6 199 RX2 yX2_beginItem wsX2_beginItem) := goodIn_app (goodIn_of _ (by decide +kernel)) ggX6_errorPosition_X2_beginItem
set_option maxRecDepth 100000 in
theorem ggX6_errorPosition_X0_codeAt : GoodIn wsX6_errorPosition wsX0_codeAt := goodIn_ca (goodIn_2 ck_wsX6_errorPosition [(1, 21), (1, 22), (1, 23)] ck_wsX6_errorPosition_m ck_wsX6_errorPosition_g rfl) (goodIn_b (fun _ h => (List.mem_cons_of_mem _ (List.mem_append_left _ (List.mem_append_right _ h)))) ck_wsX6_errorPosition_g)
set_option maxRecDepth 20000 in
theorem gX6_errorPosition_X0_codeAt : GoodIn wsX6_errorPosition (wsV RX6 205 RX0 yX0_codeAt wsX0_codeAt) := goodIn_app (goodIn_of _ (by decide +kernel)) ggX6_errorPosition_X0_codeAt
set_option maxRecDepth 100000 in
theorem ggX6_errorPosition_X2_take : GoodIn wsX6_errorPosition wsX2_take := goodIn_ca (goodIn_2 ck_wsX6_errorPosition [(2, 3), (1, 12), (2, 4), (2, 5), (2, 6), (1, 6), (2, 7), (1, 13), (1, 14), (2, 8), (2, 9), (2, 10), (2, 11), (1, 15), (2, 12), (2, 13), (2, 14), (2, 15), (1, 16), (2, 16), (2, 17), (2, 18), (2, 19), (2, 20), (1, 4), (1, 5), (1, 7), (1, 8), (1, 9), (1, 10), (1, 11), (2, 21), (2, 22), (2, 23), (3, 0), (3, 1)] ck_wsX6_errorPosition_m ck_wsX6_errorPosition_g rfl) (goodIn_b (fun _ h => (List.mem_cons_of_mem _ (List.mem_append_right _ h))) ck_wsX6_errorPosition_g)
set_option maxRecDepth 20000 in
theorem gX6_errorPosition_X2_take : GoodIn wsX6_errorPosition (wsV RX6 208 RX2 yX2_take wsX2_take) := goodIn_app (goodIn_of _ (by decide +kernel)) ggX6_errorPosition_X2_take
set_option maxRecDepth 100000 in
theorem ggX6_errorPosition_X2_isWhole : GoodIn wsX6_errorPosition wsX2_isWhole := goodIn_ca (goodIn_2 ck_wsX6_errorPosition [(2, 19), (1, 13), (1, 14), (2, 12), (2, 13), (2, 14), (1, 6), (2, 15), (1, 16), (1, 15)] ck_wsX6_errorPosition_m ck_wsX6_errorPosition_g rfl) (goodIn_b (fun _ h => (List.mem_cons_of_mem _ (List.mem_append_right _ h))) ck_wsX6_errorPosition_g)
set_option maxRecDepth 20000 in
theorem gX6_errorPosition_X2_isWhole : GoodIn wsX6_errorPosition (wsV RX6 211 RX2 yX2_isWhole wsX2_isWhole) := goodIn_app (goodIn_of _ (by decide +kernel)) ggX6_errorPosition_X2_isWhole
theorem dX6_errorPosition_0 : decode cX6_errorPosition 0 = .ok (.aload_n 0, 1) := by decide +kernel
theorem dX6_errorPosition_1 : decode cX6_errorPosition 1 = .ok (.getfield 39, 3) := by decide +kernel
theorem dX6_errorPosition_4 : decode cX6_errorPosition 4 = .ok (.invokevirtual 199, 3) := by decide +kernel
theorem dX6_errorPosition_7 : decode cX6_errorPosition 7 = .ok (.iconst 0, 1) := by decide +kernel
theorem dX6_errorPosition_8 : decode cX6_errorPosition 8 = .ok (.istore_n 1, 1) := by decide +kernel
theorem dX6_errorPosition_9 : decode cX6_errorPosition 9 = .ok (.iload_n 1, 1) := by decide +kernel
theorem dX6_errorPosition_10 : decode cX6_errorPosition 10 = .ok (.aload_n 0, 1) := by decide +kernel
theorem dX6_errorPosition_11 : decode cX6_errorPosition 11 = .ok (.getfield 32, 3) := by decide +kernel
theorem dX6_errorPosition_14 : decode cX6_errorPosition 14 = .ok (.getfield 202, 3) := by decide +kernel
theorem dX6_errorPosition_17 : decode cX6_errorPosition 17 = .ok (.if_icmp .ge 29, 3) := by decide +kernel
theorem dX6_errorPosition_20 : decode cX6_errorPosition 20 = .ok (.aload_n 0, 1) := by decide +kernel
theorem dX6_errorPosition_21 : decode cX6_errorPosition 21 = .ok (.getfield 39, 3) := by decide +kernel
theorem dX6_errorPosition_24 : decode cX6_errorPosition 24 = .ok (.aload_n 0, 1) := by decide +kernel
theorem dX6_errorPosition_25 : decode cX6_errorPosition 25 = .ok (.getfield 32, 3) := by decide +kernel
theorem dX6_errorPosition_28 : decode cX6_errorPosition 28 = .ok (.iload_n 1, 1) := by decide +kernel
theorem dX6_errorPosition_29 : decode cX6_errorPosition 29 = .ok (.invokevirtual 205, 3) := by decide +kernel
theorem dX6_errorPosition_32 : decode cX6_errorPosition 32 = .ok (.invokevirtual 208, 3) := by decide +kernel
theorem dX6_errorPosition_35 : decode cX6_errorPosition 35 = .ok (.ifCond .ne 5, 3) := by decide +kernel
theorem dX6_errorPosition_38 : decode cX6_errorPosition 38 = .ok (.iload_n 1, 1) := by decide +kernel
theorem dX6_errorPosition_39 : decode cX6_errorPosition 39 = .ok (.ireturn, 1) := by decide +kernel
theorem dX6_errorPosition_40 : decode cX6_errorPosition 40 = .ok (.iinc 1 1, 3) := by decide +kernel
theorem dX6_errorPosition_43 : decode cX6_errorPosition 43 = .ok (.goto (-34), 3) := by decide +kernel
theorem dX6_errorPosition_46 : decode cX6_errorPosition 46 = .ok (.aload_n 0, 1) := by decide +kernel
theorem dX6_errorPosition_47 : decode cX6_errorPosition 47 = .ok (.getfield 39, 3) := by decide +kernel
theorem dX6_errorPosition_50 : decode cX6_errorPosition 50 = .ok (.invokevirtual 211, 3) := by decide +kernel
theorem dX6_errorPosition_53 : decode cX6_errorPosition 53 = .ok (.ifCond .eq 8, 3) := by decide +kernel
theorem dX6_errorPosition_56 : decode cX6_errorPosition 56 = .ok (.bipush (-6), 2) := by decide +kernel
theorem dX6_errorPosition_58 : decode cX6_errorPosition 58 = .ok (.goto 10, 3) := by decide +kernel
theorem dX6_errorPosition_61 : decode cX6_errorPosition 61 = .ok (.aload_n 0, 1) := by decide +kernel
theorem dX6_errorPosition_62 : decode cX6_errorPosition 62 = .ok (.getfield 32, 3) := by decide +kernel
theorem dX6_errorPosition_65 : decode cX6_errorPosition 65 = .ok (.getfield 202, 3) := by decide +kernel
theorem dX6_errorPosition_68 : decode cX6_errorPosition 68 = .ok (.ireturn, 1) := by decide +kernel
def ck_wsX6_read : List (List Cond) := [[.code yX6_read cX6_read 2 (some .int)], wsX6_read_r1, wsX6_read_r2, wsX6_read_r3, wsX6_read_r4, wsX6_read_r5, wsX6_read_r6, wsX6_read_r7, wsX6_read_r8, wsX6_read_r9]
theorem ck_wsX6_read_m : ∀ c ∈ ck_wsX6_read, ∀ w ∈ c, w ∈ wsX6_read := List.forall_mem_cons.mpr ⟨fun w h => List.mem_cons.mpr (Or.inl (List.mem_singleton.mp h)), List.forall_mem_cons.mpr ⟨fun _ h => (List.mem_cons_of_mem _ (List.mem_append_left _ (List.mem_append_left _ (List.mem_append_left _ (List.mem_append_left _ (List.mem_append_left _ (List.mem_append_left _ (List.mem_append_left _ (List.mem_append_left _ h))))))))), List.forall_mem_cons.mpr ⟨fun _ h => (List.mem_cons_of_mem _ (List.mem_append_left _ (List.mem_append_left _ (List.mem_append_left _ (List.mem_append_left _ (List.mem_append_left _ (List.mem_append_left _ (List.mem_append_left _ (List.mem_append_right _ (List.mem_append_left _ h)))))))))), List.forall_mem_cons.mpr ⟨fun _ h => (List.mem_cons_of_mem _ (List.mem_append_left _ (List.mem_append_left _ (List.mem_append_left _ (List.mem_append_left _ (List.mem_append_left _ (List.mem_append_left _ (List.mem_append_left _ (List.mem_append_right _ (List.mem_append_right _ (List.mem_append_left _ h))))))))))), List.forall_mem_cons.mpr ⟨fun _ h => (List.mem_cons_of_mem _ (List.mem_append_left _ (List.mem_append_left _ (List.mem_append_left _ (List.mem_append_left _ (List.mem_append_left _ (List.mem_append_left _ (List.mem_append_left _ (List.mem_append_right _ (List.mem_append_right _ (List.mem_append_right _ (List.mem_append_left _ h)))))))))))), List.forall_mem_cons.mpr ⟨fun _ h => (List.mem_cons_of_mem _ (List.mem_append_left _ (List.mem_append_left _ (List.mem_append_left _ (List.mem_append_left _ (List.mem_append_left _ (List.mem_append_left _ (List.mem_append_left _ (List.mem_append_right _ (List.mem_append_right _ (List.mem_append_right _ (List.mem_append_right _ (List.mem_append_left _ h))))))))))))), List.forall_mem_cons.mpr ⟨fun _ h => (List.mem_cons_of_mem _ (List.mem_append_left _ (List.mem_append_left _ (List.mem_append_left _ (List.mem_append_left _ (List.mem_append_left _ (List.mem_append_left _ (List.mem_append_left _ (List.mem_append_right _ (List.mem_append_right _ (List.mem_append_right _ (List.mem_append_right _ (List.mem_append_right _ (List.mem_append_left _ h)))))))))))))), List.forall_mem_cons.mpr ⟨fun _ h => (List.mem_cons_of_mem _ (List.mem_append_left _ (List.mem_append_left _ (List.mem_append_left _ (List.mem_append_left _ (List.mem_append_left _ (List.mem_append_left _ (List.mem_append_left _ (List.mem_append_right _ (List.mem_append_right _ (List.mem_append_right _ (List.mem_append_right _ (List.mem_append_right _ (List.mem_append_right _ (List.mem_append_left _ h))))))))))))))), List.forall_mem_cons.mpr ⟨fun _ h => (List.mem_cons_of_mem _ (List.mem_append_left _ (List.mem_append_left _ (List.mem_append_left _ (List.mem_append_left _ (List.mem_append_left _ (List.mem_append_left _ (List.mem_append_left _ (List.mem_append_right _ (List.mem_append_right _ (List.mem_append_right _ (List.mem_append_right _ (List.mem_append_right _ (List.mem_append_right _ (List.mem_append_right _ (List.mem_append_left _ h)))))))))))))))), List.forall_mem_cons.mpr ⟨fun _ h => (List.mem_cons_of_mem _ (List.mem_append_left _ (List.mem_append_left _ (List.mem_append_left _ (List.mem_append_left _ (List.mem_append_left _ (List.mem_append_left _ (List.mem_append_left _ (List.mem_append_right _ (List.mem_append_right _ (List.mem_append_right _ (List.mem_append_right _ (List.mem_append_right _ (List.mem_append_right _ (List.mem_append_right _ (List.mem_append_right _ h)))))))))))))))), fun _ h => absurd h List.not_mem_nil⟩⟩⟩⟩⟩⟩⟩⟩⟩⟩
set_option maxRecDepth 100000 in
theorem ck_wsX6_read_g : ∀ w ∈ wsX6_read, goodWord w = true := List.all_eq_true.mp (by decide +kernel)
set_option maxRecDepth 100000 in
theorem ggX6_read_X6_errorPosition : GoodIn wsX6_read wsX6_errorPosition := goodIn_ca (goodIn_ca (goodIn_ca (goodIn_2 ck_wsX6_read [(1, 10), (1, 11), (1, 5), (1, 12), (1, 13), (1, 14), (1, 15), (1, 16), (1, 17), (1, 18), (1, 19), (1, 20), (1, 21), (1, 22), (1, 23), (2, 0), (2, 1), (2, 2), (2, 3), (2, 4), (2, 5), (2, 6), (2, 7), (2, 8), (2, 9), (2, 10), (2, 11), (2, 12), (2, 13), (2, 14), (2, 15), (2, 16), (2, 17), (2, 18), (2, 19), (2, 20), (2, 21), (2, 22), (2, 23), (3, 0), (3, 1), (3, 2), (3, 3), (3, 4), (3, 5), (3, 6), (3, 7), (3, 8), (3, 9), (3, 10), (3, 11), (3, 12)] ck_wsX6_read_m ck_wsX6_read_g rfl) (goodIn_b (fun _ h => (List.mem_cons_of_mem _ (List.mem_append_left _ (List.mem_append_left _ (List.mem_append_left _ (List.mem_append_left _ (List.mem_append_left _ (List.mem_append_left _ (List.mem_append_right _ h))))))))) ck_wsX6_read_g)) (goodIn_b (fun _ h => (List.mem_cons_of_mem _ (List.mem_append_left _ (List.mem_append_left _ (List.mem_append_left _ (List.mem_append_right _ h)))))) ck_wsX6_read_g)) (goodIn_b (fun _ h => (List.mem_cons_of_mem _ (List.mem_append_left _ (List.mem_append_left _ (List.mem_append_right _ h))))) ck_wsX6_read_g)
set_option maxRecDepth 20000 in
theorem gX6_read_X6_errorPosition : GoodIn wsX6_read (wsV RX6 214 RX6 yX6_errorPosition wsX6_errorPosition) := goodIn_app (goodIn_of _ (by decide +kernel)) ggX6_read_X6_errorPosition
set_option maxRecDepth 100000 in
theorem ggX6_read_X1_remember : GoodIn wsX6_read wsX1_remember := goodIn_ca (goodIn_ca (goodIn_ca (goodIn_ca (goodIn_2 ck_wsX6_read [(3, 17), (3, 18), (3, 19), (3, 20), (3, 21), (3, 22), (3, 16), (3, 23), (4, 0), (4, 1), (4, 2), (4, 3), (4, 4), (4, 5), (4, 6), (4, 7), (4, 8), (4, 9), (4, 10), (4, 11), (4, 12), (4, 13), (4, 14), (4, 15), (4, 16), (4, 17), (4, 18), (4, 19), (4, 20), (4, 21), (4, 22), (4, 23), (5, 0), (5, 1), (5, 2), (5, 3), (5, 4), (5, 5), (5, 6), (5, 7), (5, 8), (5, 9), (5, 10), (5, 11), (5, 12), (5, 13), (5, 14), (5, 15), (5, 16), (5, 17), (5, 18), (5, 19), (5, 20), (5, 21), (5, 22), (5, 23), (6, 0), (6, 1)] ck_wsX6_read_m ck_wsX6_read_g rfl) (goodIn_b (fun _ h => (List.mem_cons_of_mem _ (List.mem_append_left _ (List.mem_append_right _ h)))) ck_wsX6_read_g)) (goodIn_b (fun _ h => (List.mem_cons_of_mem _ (List.mem_append_left _ (List.mem_append_left _ (List.mem_append_left _ (List.mem_append_left _ (List.mem_append_left _ (List.mem_append_right _ h)))))))) ck_wsX6_read_g)) (goodIn_b (fun _ h => (List.mem_cons_of_mem _ (List.mem_append_left _ (List.mem_append_left _ (List.mem_append_left _ (List.mem_append_left _ (List.mem_append_right _ h))))))) ck_wsX6_read_g)) (goodIn_b (fun _ h => (List.mem_cons_of_mem _ (List.mem_append_right _ h))) ck_wsX6_read_g)
set_option maxRecDepth 20000 in
theorem gX6_read_X1_remember : GoodIn wsX6_read (wsV RX6 61 RX1 yX1_remember wsX1_remember) := goodIn_app (goodIn_of _ (by decide +kernel)) ggX6_read_X1_remember
set_option maxRecDepth 100000 in
theorem ggX6_read_X6_collectItems : GoodIn wsX6_read wsX6_collectItems := goodIn_ca (goodIn_ca (goodIn_ca (goodIn_ca (goodIn_ca (goodIn_ca (goodIn_2 ck_wsX6_read [(6, 5), (1, 11), (1, 5), (1, 12), (1, 13), (1, 14), (1, 15), (1, 16), (1, 17), (1, 18), (1, 19), (1, 20), (1, 21), (1, 22), (1, 23), (2, 0), (2, 1), (2, 2), (2, 3), (2, 4), (2, 5), (2, 6), (2, 7), (2, 8), (2, 9), (6, 6), (6, 7), (6, 8), (1, 9), (6, 9), (1, 0), (1, 3), (6, 10), (6, 11), (6, 12), (6, 13), (3, 11), (6, 14), (6, 15), (6, 16), (5, 9), (6, 17), (5, 15), (6, 18), (6, 19), (6, 20), (6, 21), (6, 22), (6, 23), (7, 0), (4, 8), (7, 1), (4, 12), (4, 10), (4, 20), (4, 14), (7, 2), (7, 3), (7, 4), (7, 5), (7, 6), (7, 7), (7, 8), (7, 9), (4, 15), (7, 10), (7, 11), (7, 12), (7, 13), (5, 11), (7, 14), (7, 15), (7, 16), (7, 17), (5, 13), (5, 14), (7, 18), (7, 19), (7, 20), (7, 21), (7, 22), (7, 23), (8, 0), (8, 1), (8, 2), (8, 3), (8, 4), (8, 5), (8, 6), (5, 2), (8, 7), (8, 8), (8, 9), (8, 10), (8, 11), (8, 12), (8, 13), (8, 14), (8, 15), (8, 16), (8, 17), (8, 18), (8, 19), (8, 20), (8, 21), (8, 22), (8, 23), (9, 0), (9, 1), (9, 2), (5, 5), (4, 11), (9, 3), (9, 4), (9, 5), (5, 19), (9, 6), (6, 1), (5, 21), (5, 23), (6, 0), (2, 10), (2, 11), (2, 12), (2, 13), (2, 14), (2, 15), (2, 16), (2, 17), (2, 18), (2, 19), (2, 20), (2, 21), (2, 22), (2, 23), (3, 0), (3, 1), (3, 2), (3, 3), (3, 4), (3, 5), (3, 6), (3, 7), (3, 8), (3, 9), (3, 10)] ck_wsX6_read_m ck_wsX6_read_g rfl) (goodIn_b (fun _ h => (List.mem_cons_of_mem _ (List.mem_append_left _ (List.mem_append_left _ (List.mem_append_left _ (List.mem_append_left _ (List.mem_append_left _ (List.mem_append_left _ (List.mem_append_right _ h))))))))) ck_wsX6_read_g)) (goodIn_b (fun _ h => (List.mem_cons_of_mem _ (List.mem_append_left _ (List.mem_append_left _ (List.mem_append_left _ (List.mem_append_right _ h)))))) ck_wsX6_read_g)) (goodIn_b (fun _ h => (List.mem_cons_of_mem _ (List.mem_append_left _ (List.mem_append_left _ (List.mem_append_right _ h))))) ck_wsX6_read_g)) (goodIn_b (fun _ h => (List.mem_cons_of_mem _ (List.mem_append_left _ (List.mem_append_left _ (List.mem_append_left _ (List.mem_append_left _ (List.mem_append_left _ (List.mem_append_right _ h)))))))) ck_wsX6_read_g)) (goodIn_b (fun _ h => (List.mem_cons_of_mem _ (List.mem_append_left _ (List.mem_append_left _ (List.mem_append_left _ (List.mem_append_left _ (List.mem_append_right _ h))))))) ck_wsX6_read_g)) (goodIn_b (fun _ h => (List.mem_cons_of_mem _ (List.mem_append_right _ h))) ck_wsX6_read_g)
set_option maxRecDepth 20000 in
theorem gX6_read_X6_collectItems : GoodIn wsX6_read (wsV RX6 217 RX6 yX6_collectItems wsX6_collectItems) := goodIn_app (goodIn_of _ (by decide +kernel)) ggX6_read_X6_collectItems
set_option maxRecDepth 100000 in
theorem ggX6_read_X0_empty : GoodIn wsX6_read wsX0_empty := goodIn_ca (goodIn_2 ck_wsX6_read [(9, 10), (2, 8)] ck_wsX6_read_m ck_wsX6_read_g rfl) (goodIn_b (fun _ h => (List.mem_cons_of_mem _ (List.mem_append_left _ (List.mem_append_left _ (List.mem_append_left _ (List.mem_append_right _ h)))))) ck_wsX6_read_g)
set_option maxRecDepth 20000 in
theorem gX6_read_X0_empty : GoodIn wsX6_read (wsV RX6 196 RX0 yX0_empty wsX0_empty) := goodIn_app (goodIn_of _ (by decide +kernel)) ggX6_read_X0_empty
theorem dX6_read_0 : decode cX6_read 0 = .ok (.aload_n 0, 1) := by decide +kernel
theorem dX6_read_1 : decode cX6_read 1 = .ok (.invokevirtual 214, 3) := by decide +kernel
theorem dX6_read_4 : decode cX6_read 4 = .ok (.bipush (-6), 2) := by decide +kernel
theorem dX6_read_6 : decode cX6_read 6 = .ok (.if_icmp .eq 6, 3) := by decide +kernel
theorem dX6_read_9 : decode cX6_read 9 = .ok (.bipush (-5), 2) := by decide +kernel
theorem dX6_read_11 : decode cX6_read 11 = .ok (.ireturn, 1) := by decide +kernel
theorem dX6_read_12 : decode cX6_read 12 = .ok (.aload_n 0, 1) := by decide +kernel
theorem dX6_read_13 : decode cX6_read 13 = .ok (.getfield 10, 3) := by decide +kernel
theorem dX6_read_16 : decode cX6_read 16 = .ok (.getfield 47, 3) := by decide +kernel
theorem dX6_read_19 : decode cX6_read 19 = .ok (.ifCond .ne 6, 3) := by decide +kernel
theorem dX6_read_22 : decode cX6_read 22 = .ok (.bipush (-3), 2) := by decide +kernel
theorem dX6_read_24 : decode cX6_read 24 = .ok (.ireturn, 1) := by decide +kernel
theorem dX6_read_25 : decode cX6_read 25 = .ok (.aload_n 0, 1) := by decide +kernel
theorem dX6_read_26 : decode cX6_read 26 = .ok (.getfield 25, 3) := by decide +kernel
theorem dX6_read_29 : decode cX6_read 29 = .ok (.aload_n 0, 1) := by decide +kernel
theorem dX6_read_30 : decode cX6_read 30 = .ok (.getfield 10, 3) := by decide +kernel
theorem dX6_read_33 : decode cX6_read 33 = .ok (.invokevirtual 61, 3) := by decide +kernel
theorem dX6_read_36 : decode cX6_read 36 = .ok (.aload_n 0, 1) := by decide +kernel
theorem dX6_read_37 : decode cX6_read 37 = .ok (.getfield 10, 3) := by decide +kernel
theorem dX6_read_40 : decode cX6_read 40 = .ok (.getfield 51, 3) := by decide +kernel
theorem dX6_read_43 : decode cX6_read 43 = .ok (.getfield 69, 3) := by decide +kernel
theorem dX6_read_46 : decode cX6_read 46 = .ok (.istore_n 1, 1) := by decide +kernel
theorem dX6_read_47 : decode cX6_read 47 = .ok (.aload_n 0, 1) := by decide +kernel
theorem dX6_read_48 : decode cX6_read 48 = .ok (.invokevirtual 217, 3) := by decide +kernel
theorem dX6_read_51 : decode cX6_read 51 = .ok (.aload_n 0, 1) := by decide +kernel
theorem dX6_read_52 : decode cX6_read 52 = .ok (.getfield 32, 3) := by decide +kernel
theorem dX6_read_55 : decode cX6_read 55 = .ok (.invokevirtual 196, 3) := by decide +kernel
theorem dX6_read_58 : decode cX6_read 58 = .ok (.pop, 1) := by decide +kernel
theorem dX6_read_59 : decode cX6_read 59 = .ok (.aload_n 0, 1) := by decide +kernel
theorem dX6_read_60 : decode cX6_read 60 = .ok (.getfield 10, 3) := by decide +kernel
theorem dX6_read_63 : decode cX6_read 63 = .ok (.getfield 51, 3) := by decide +kernel
theorem dX6_read_66 : decode cX6_read 66 = .ok (.getfield 69, 3) := by decide +kernel
theorem dX6_read_69 : decode cX6_read 69 = .ok (.iload_n 1, 1) := by decide +kernel
theorem dX6_read_70 : decode cX6_read 70 = .ok (.isub, 1) := by decide +kernel
theorem dX6_read_71 : decode cX6_read 71 = .ok (.ireturn, 1) := by decide +kernel
def ck_wsX6_undo : List (List Cond) := [[.code yX6_undo cX6_undo 1 (some .int)], wsX6_undo_r1, wsX6_undo_r2, wsX6_undo_r3]
theorem ck_wsX6_undo_m : ∀ c ∈ ck_wsX6_undo, ∀ w ∈ c, w ∈ wsX6_undo := List.forall_mem_cons.mpr ⟨fun w h => List.mem_cons.mpr (Or.inl (List.mem_singleton.mp h)), List.forall_mem_cons.mpr ⟨fun _ h => (List.mem_cons_of_mem _ (List.mem_append_left _ (List.mem_append_left _ (List.mem_append_left _ (List.mem_append_left _ (List.mem_append_left _ (List.mem_append_left _ h))))))), List.forall_mem_cons.mpr ⟨fun _ h => (List.mem_cons_of_mem _ (List.mem_append_left _ (List.mem_append_left _ (List.mem_append_left _ (List.mem_append_left _ (List.mem_append_left _ (List.mem_append_right _ (List.mem_append_left _ h)))))))), List.forall_mem_cons.mpr ⟨fun _ h => (List.mem_cons_of_mem _ (List.mem_append_left _ (List.mem_append_left _ (List.mem_append_left _ (List.mem_append_left _ (List.mem_append_left _ (List.mem_append_right _ (List.mem_append_right _ h)))))))), fun _ h => absurd h List.not_mem_nil⟩⟩⟩⟩
set_option maxRecDepth 100000 in
theorem ck_wsX6_undo_g : ∀ w ∈ wsX6_undo, goodWord w = true := List.all_eq_true.mp (by decide +kernel)
set_option maxRecDepth 100000 in
theorem ggX6_undo_X1_takeLatest : GoodIn wsX6_undo wsX1_takeLatest := goodIn_ca (goodIn_ca (goodIn_ca (goodIn_ca (goodIn_2 ck_wsX6_undo [(1, 7), (1, 8), (1, 9), (1, 10), (1, 11), (1, 6), (1, 12), (1, 13), (1, 14), (1, 15), (1, 16), (1, 17), (1, 18), (1, 19), (1, 20), (1, 21), (1, 22), (1, 23), (2, 0), (2, 1), (2, 2), (2, 3), (2, 4), (2, 5), (2, 6), (2, 7), (2, 8), (2, 9), (2, 10), (2, 11), (2, 12), (2, 13), (2, 14), (2, 15), (2, 16), (2, 17), (2, 18), (2, 19), (2, 20), (2, 21), (2, 22), (2, 23), (3, 0), (3, 1), (3, 2), (3, 3), (3, 4), (3, 5), (3, 6), (3, 7), (3, 8), (3, 9), (3, 10), (3, 11), (3, 12), (3, 13), (3, 14), (3, 15)] ck_wsX6_undo_m ck_wsX6_undo_g rfl) (goodIn_b (fun _ h => (List.mem_cons_of_mem _ (List.mem_append_left _ (List.mem_append_left _ (List.mem_append_left _ (List.mem_append_right _ h)))))) ck_wsX6_undo_g)) (goodIn_b (fun _ h => (List.mem_cons_of_mem _ (List.mem_append_left _ (List.mem_append_left _ (List.mem_append_right _ h))))) ck_wsX6_undo_g)) (goodIn_b (fun _ h => (List.mem_cons_of_mem _ (List.mem_append_left _ (List.mem_append_right _ h)))) ck_wsX6_undo_g)) (goodIn_b (fun _ h => (List.mem_cons_of_mem _ (List.mem_append_right _ h))) ck_wsX6_undo_g)
set_option maxRecDepth 20000 in
theorem gX6_undo_X1_takeLatest : GoodIn wsX6_undo (wsV RX6 221 RX1 yX1_takeLatest wsX1_takeLatest) := goodIn_app (goodIn_of _ (by decide +kernel)) ggX6_undo_X1_takeLatest
theorem dX6_undo_0 : decode cX6_undo 0 = .ok (.aload_n 0, 1) := by decide +kernel
theorem dX6_undo_1 : decode cX6_undo 1 = .ok (.getfield 25, 3) := by decide +kernel
theorem dX6_undo_4 : decode cX6_undo 4 = .ok (.getfield 220, 3) := by decide +kernel
theorem dX6_undo_7 : decode cX6_undo 7 = .ok (.ifCond .ne 6, 3) := by decide +kernel
theorem dX6_undo_10 : decode cX6_undo 10 = .ok (.bipush (-3), 2) := by decide +kernel
theorem dX6_undo_12 : decode cX6_undo 12 = .ok (.ireturn, 1) := by decide +kernel
theorem dX6_undo_13 : decode cX6_undo 13 = .ok (.aload_n 0, 1) := by decide +kernel
theorem dX6_undo_14 : decode cX6_undo 14 = .ok (.getfield 25, 3) := by decide +kernel
theorem dX6_undo_17 : decode cX6_undo 17 = .ok (.aload_n 0, 1) := by decide +kernel
theorem dX6_undo_18 : decode cX6_undo 18 = .ok (.getfield 10, 3) := by decide +kernel
theorem dX6_undo_21 : decode cX6_undo 21 = .ok (.invokevirtual 221, 3) := by decide +kernel
theorem dX6_undo_24 : decode cX6_undo 24 = .ok (.aload_n 0, 1) := by decide +kernel
theorem dX6_undo_25 : decode cX6_undo 25 = .ok (.getfield 25, 3) := by decide +kernel
theorem dX6_undo_28 : decode cX6_undo 28 = .ok (.getfield 220, 3) := by decide +kernel
theorem dX6_undo_31 : decode cX6_undo 31 = .ok (.ireturn, 1) := by decide +kernel
def ck_wsX6_save : List (List Cond) := [[.code yX6_save cX6_save 1 (some .int)], wsX6_save_r1, wsX6_save_r2, wsX6_save_r3]
theorem ck_wsX6_save_m : ∀ c ∈ ck_wsX6_save, ∀ w ∈ c, w ∈ wsX6_save := List.forall_mem_cons.mpr ⟨fun w h => List.mem_cons.mpr (Or.inl (List.mem_singleton.mp h)), List.forall_mem_cons.mpr ⟨fun _ h => (List.mem_cons_of_mem _ (List.mem_append_left _ (List.mem_append_left _ (List.mem_append_left _ (List.mem_append_left _ (List.mem_append_left _ h)))))), List.forall_mem_cons.mpr ⟨fun _ h => (List.mem_cons_of_mem _ (List.mem_append_left _ (List.mem_append_left _ (List.mem_append_left _ (List.mem_append_left _ (List.mem_append_right _ (List.mem_append_left _ h))))))), List.forall_mem_cons.mpr ⟨fun _ h => (List.mem_cons_of_mem _ (List.mem_append_left _ (List.mem_append_left _ (List.mem_append_left _ (List.mem_append_left _ (List.mem_append_right _ (List.mem_append_right _ h))))))), fun _ h => absurd h List.not_mem_nil⟩⟩⟩⟩
set_option maxRecDepth 100000 in
theorem ck_wsX6_save_g : ∀ w ∈ wsX6_save, goodWord w = true := List.all_eq_true.mp (by decide +kernel)
set_option maxRecDepth 100000 in
theorem ggX6_save_X5_copyFrom : GoodIn wsX6_save wsX5_copyFrom := goodIn_ca (goodIn_ca (goodIn_ca (goodIn_2 ck_wsX6_save [(1, 9), (1, 10), (1, 11), (1, 12), (1, 13), (1, 14), (1, 15), (1, 16), (1, 17), (1, 18), (1, 19), (1, 20), (1, 21), (1, 22), (1, 23), (2, 0), (2, 1), (2, 2), (2, 3), (2, 4), (2, 5), (2, 6), (2, 7), (2, 8), (2, 9), (2, 10), (2, 11), (2, 12), (2, 13), (2, 14), (2, 15), (2, 16), (2, 17), (2, 18), (2, 19), (2, 20), (2, 21), (2, 22), (2, 23), (3, 0), (3, 1)] ck_wsX6_save_m ck_wsX6_save_g rfl) (goodIn_b (fun _ h => (List.mem_cons_of_mem _ (List.mem_append_left _ (List.mem_append_left _ (List.mem_append_right _ h))))) ck_wsX6_save_g)) (goodIn_b (fun _ h => (List.mem_cons_of_mem _ (List.mem_append_left _ (List.mem_append_right _ h)))) ck_wsX6_save_g)) (goodIn_b (fun _ h => (List.mem_cons_of_mem _ (List.mem_append_right _ h))) ck_wsX6_save_g)
set_option maxRecDepth 20000 in
theorem gX6_save_X5_copyFrom : GoodIn wsX6_save (wsV RX6 224 RX5 yX5_copyFrom wsX5_copyFrom) := goodIn_app (goodIn_of _ (by decide +kernel)) ggX6_save_X5_copyFrom
theorem dX6_save_0 : decode cX6_save 0 = .ok (.aload_n 0, 1) := by decide +kernel
theorem dX6_save_1 : decode cX6_save 1 = .ok (.getfield 19, 3) := by decide +kernel
theorem dX6_save_4 : decode cX6_save 4 = .ok (.aload_n 0, 1) := by decide +kernel
theorem dX6_save_5 : decode cX6_save 5 = .ok (.getfield 10, 3) := by decide +kernel
theorem dX6_save_8 : decode cX6_save 8 = .ok (.invokevirtual 224, 3) := by decide +kernel
theorem dX6_save_11 : decode cX6_save 11 = .ok (.aload_n 0, 1) := by decide +kernel
theorem dX6_save_12 : decode cX6_save 12 = .ok (.iconst 1, 1) := by decide +kernel
theorem dX6_save_13 : decode cX6_save 13 = .ok (.putfield 227, 3) := by decide +kernel
theorem dX6_save_16 : decode cX6_save 16 = .ok (.aload_n 0, 1) := by decide +kernel
theorem dX6_save_17 : decode cX6_save 17 = .ok (.getfield 19, 3) := by decide +kernel
theorem dX6_save_20 : decode cX6_save 20 = .ok (.getfield 51, 3) := by decide +kernel
theorem dX6_save_23 : decode cX6_save 23 = .ok (.getfield 69, 3) := by decide +kernel
theorem dX6_save_26 : decode cX6_save 26 = .ok (.ireturn, 1) := by decide +kernel
def ck_wsX6_restore : List (List Cond) := [[.code yX6_restore cX6_restore 1 (some .int)], wsX6_restore_r1, wsX6_restore_r2, wsX6_restore_r3]
theorem ck_wsX6_restore_m : ∀ c ∈ ck_wsX6_restore, ∀ w ∈ c, w ∈ wsX6_restore := List.forall_mem_cons.mpr ⟨fun w h => List.mem_cons.mpr (Or.inl (List.mem_singleton.mp h)), List.forall_mem_cons.mpr ⟨fun _ h => (List.mem_cons_of_mem _ (List.mem_append_left _ (List.mem_append_left _ (List.mem_append_left _ (List.mem_append_left _ (List.mem_append_left _ (List.mem_append_left _ h))))))), List.forall_mem_cons.mpr ⟨fun _ h => (List.mem_cons_of_mem _ (List.mem_append_left _ (List.mem_append_left _ (List.mem_append_left _ (List.mem_append_left _ (List.mem_append_left _ (List.mem_append_right _ (List.mem_append_left _ h)))))))), List.forall_mem_cons.mpr ⟨fun _ h => (List.mem_cons_of_mem _ (List.mem_append_left _ (List.mem_append_left _ (List.mem_append_left _ (List.mem_append_left _ (List.mem_append_left _ (List.mem_append_right _ (List.mem_append_right _ h)))))))), fun _ h => absurd h List.not_mem_nil⟩⟩⟩⟩
set_option maxRecDepth 100000 in
theorem ck_wsX6_restore_g : ∀ w ∈ wsX6_restore, goodWord w = true := List.all_eq_true.mp (by decide +kernel)
set_option maxRecDepth 100000 in
theorem ggX6_restore_X1_remember : GoodIn wsX6_restore wsX1_remember := goodIn_ca (goodIn_ca (goodIn_ca (goodIn_ca (goodIn_2 ck_wsX6_restore [(1, 10), (1, 11), (1, 12), (1, 13), (1, 14), (1, 15), (1, 9), (1, 16), (1, 17), (1, 18), (1, 19), (1, 20), (1, 21), (1, 22), (1, 23), (2, 0), (2, 1), (2, 2), (2, 3), (2, 4), (2, 5), (2, 6), (2, 7), (2, 8), (2, 9), (2, 10), (2, 11), (2, 12), (2, 13), (2, 14), (2, 15), (2, 16), (2, 17), (2, 18), (2, 19), (2, 20), (2, 21), (2, 22), (2, 23), (3, 0), (3, 1), (3, 2), (3, 3), (3, 4), (3, 5), (3, 6), (3, 7), (3, 8), (3, 9), (3, 10), (3, 11), (3, 12), (3, 13), (3, 14), (3, 15), (3, 16), (3, 17), (3, 18)] ck_wsX6_restore_m ck_wsX6_restore_g rfl) (goodIn_b (fun _ h => (List.mem_cons_of_mem _ (List.mem_append_left _ (List.mem_append_right _ h)))) ck_wsX6_restore_g)) (goodIn_b (fun _ h => (List.mem_cons_of_mem _ (List.mem_append_left _ (List.mem_append_left _ (List.mem_append_left _ (List.mem_append_right _ h)))))) ck_wsX6_restore_g)) (goodIn_b (fun _ h => (List.mem_cons_of_mem _ (List.mem_append_left _ (List.mem_append_left _ (List.mem_append_right _ h))))) ck_wsX6_restore_g)) (goodIn_b (fun _ h => (List.mem_cons_of_mem _ (List.mem_append_right _ h))) ck_wsX6_restore_g)
set_option maxRecDepth 20000 in
theorem gX6_restore_X1_remember : GoodIn wsX6_restore (wsV RX6 61 RX1 yX1_remember wsX1_remember) := goodIn_app (goodIn_of _ (by decide +kernel)) ggX6_restore_X1_remember
set_option maxRecDepth 100000 in
theorem ggX6_restore_X5_copyFrom : GoodIn wsX6_restore wsX5_copyFrom := goodIn_ca (goodIn_ca (goodIn_ca (goodIn_2 ck_wsX6_restore [(2, 2), (2, 3), (2, 4), (2, 5), (2, 6), (2, 7), (2, 8), (2, 9), (2, 10), (2, 11), (2, 12), (2, 13), (2, 14), (2, 15), (2, 16), (2, 17), (2, 18), (2, 19), (2, 20), (2, 21), (2, 22), (2, 23), (3, 0), (3, 1), (3, 2), (3, 3), (3, 4), (3, 5), (3, 6), (3, 7), (3, 8), (3, 9), (3, 10), (3, 11), (3, 12), (3, 13), (3, 14), (3, 15), (3, 16), (3, 17), (3, 18)] ck_wsX6_restore_m ck_wsX6_restore_g rfl) (goodIn_b (fun _ h => (List.mem_cons_of_mem _ (List.mem_append_left _ (List.mem_append_left _ (List.mem_append_left _ (List.mem_append_right _ h)))))) ck_wsX6_restore_g)) (goodIn_b (fun _ h => (List.mem_cons_of_mem _ (List.mem_append_left _ (List.mem_append_left _ (List.mem_append_right _ h))))) ck_wsX6_restore_g)) (goodIn_b (fun _ h => (List.mem_cons_of_mem _ (List.mem_append_right _ h))) ck_wsX6_restore_g)
set_option maxRecDepth 20000 in
theorem gX6_restore_X5_copyFrom : GoodIn wsX6_restore (wsV RX6 224 RX5 yX5_copyFrom wsX5_copyFrom) := goodIn_app (goodIn_of _ (by decide +kernel)) ggX6_restore_X5_copyFrom
theorem dX6_restore_0 : decode cX6_restore 0 = .ok (.aload_n 0, 1) := by decide +kernel
theorem dX6_restore_1 : decode cX6_restore 1 = .ok (.getfield 227, 3) := by decide +kernel
theorem dX6_restore_4 : decode cX6_restore 4 = .ok (.ifCond .ne 6, 3) := by decide +kernel
theorem dX6_restore_7 : decode cX6_restore 7 = .ok (.bipush (-3), 2) := by decide +kernel
theorem dX6_restore_9 : decode cX6_restore 9 = .ok (.ireturn, 1) := by decide +kernel
theorem dX6_restore_10 : decode cX6_restore 10 = .ok (.aload_n 0, 1) := by decide +kernel
theorem dX6_restore_11 : decode cX6_restore 11 = .ok (.getfield 25, 3) := by decide +kernel
theorem dX6_restore_14 : decode cX6_restore 14 = .ok (.aload_n 0, 1) := by decide +kernel
theorem dX6_restore_15 : decode cX6_restore 15 = .ok (.getfield 10, 3) := by decide +kernel
theorem dX6_restore_18 : decode cX6_restore 18 = .ok (.invokevirtual 61, 3) := by decide +kernel
theorem dX6_restore_21 : decode cX6_restore 21 = .ok (.aload_n 0, 1) := by decide +kernel
theorem dX6_restore_22 : decode cX6_restore 22 = .ok (.getfield 10, 3) := by decide +kernel
theorem dX6_restore_25 : decode cX6_restore 25 = .ok (.aload_n 0, 1) := by decide +kernel
theorem dX6_restore_26 : decode cX6_restore 26 = .ok (.getfield 19, 3) := by decide +kernel
theorem dX6_restore_29 : decode cX6_restore 29 = .ok (.invokevirtual 224, 3) := by decide +kernel
theorem dX6_restore_32 : decode cX6_restore 32 = .ok (.aload_n 0, 1) := by decide +kernel
theorem dX6_restore_33 : decode cX6_restore 33 = .ok (.getfield 10, 3) := by decide +kernel
theorem dX6_restore_36 : decode cX6_restore 36 = .ok (.getfield 51, 3) := by decide +kernel
theorem dX6_restore_39 : decode cX6_restore 39 = .ok (.getfield 69, 3) := by decide +kernel
theorem dX6_restore_42 : decode cX6_restore 42 = .ok (.ireturn, 1) := by decide +kernel
theorem dX6_isKey_0 : decode cX6_isKey 0 = .ok (.iload_n 0, 1) := by decide +kernel
theorem dX6_isKey_1 : decode cX6_isKey 1 = .ok (.ifCond .lt 14, 3) := by decide +kernel
theorem dX6_isKey_4 : decode cX6_isKey 4 = .ok (.iload_n 0, 1) := by decide +kernel
theorem dX6_isKey_5 : decode cX6_isKey 5 = .ok (.sipush 999, 3) := by decide +kernel
theorem dX6_isKey_8 : decode cX6_isKey 8 = .ok (.if_icmp .gt 7, 3) := by decide +kernel
theorem dX6_isKey_11 : decode cX6_isKey 11 = .ok (.iconst 1, 1) := by decide +kernel
theorem dX6_isKey_12 : decode cX6_isKey 12 = .ok (.goto 4, 3) := by decide +kernel
theorem dX6_isKey_15 : decode cX6_isKey 15 = .ok (.iconst 0, 1) := by decide +kernel
theorem dX6_isKey_16 : decode cX6_isKey 16 = .ok (.ireturn, 1) := by decide +kernel
theorem dX6_isMemorySize_0 : decode cX6_isMemorySize 0 = .ok (.iload_n 0, 1) := by decide +kernel
theorem dX6_isMemorySize_1 : decode cX6_isMemorySize 1 = .ok (.iconst 2, 1) := by decide +kernel
theorem dX6_isMemorySize_2 : decode cX6_isMemorySize 2 = .ok (.if_icmp .lt 13, 3) := by decide +kernel
theorem dX6_isMemorySize_5 : decode cX6_isMemorySize 5 = .ok (.iload_n 0, 1) := by decide +kernel
theorem dX6_isMemorySize_6 : decode cX6_isMemorySize 6 = .ok (.bipush 20, 2) := by decide +kernel
theorem dX6_isMemorySize_8 : decode cX6_isMemorySize 8 = .ok (.if_icmp .gt 7, 3) := by decide +kernel
theorem dX6_isMemorySize_11 : decode cX6_isMemorySize 11 = .ok (.iconst 1, 1) := by decide +kernel
theorem dX6_isMemorySize_12 : decode cX6_isMemorySize 12 = .ok (.goto 4, 3) := by decide +kernel
theorem dX6_isMemorySize_15 : decode cX6_isMemorySize 15 = .ok (.iconst 0, 1) := by decide +kernel
theorem dX6_isMemorySize_16 : decode cX6_isMemorySize 16 = .ok (.ireturn, 1) := by decide +kernel
theorem dX6_asNumber_0 : decode cX6_asNumber 0 = .ok (.iload_n 0, 1) := by decide +kernel
theorem dX6_asNumber_1 : decode cX6_asNumber 1 = .ok (.ifCond .eq 7, 3) := by decide +kernel
theorem dX6_asNumber_4 : decode cX6_asNumber 4 = .ok (.iconst 1, 1) := by decide +kernel
theorem dX6_asNumber_5 : decode cX6_asNumber 5 = .ok (.goto 4, 3) := by decide +kernel
theorem dX6_asNumber_8 : decode cX6_asNumber 8 = .ok (.iconst 0, 1) := by decide +kernel
theorem dX6_asNumber_9 : decode cX6_asNumber 9 = .ok (.ireturn, 1) := by decide +kernel
def ck_wsX6_foretell : List (List Cond) := [[.code yX6_foretell cX6_foretell 2 (some .boolean)], wsX6_foretell_r1, wsX6_foretell_r2, wsX6_foretell_r3, wsX6_foretell_r4, wsX6_foretell_r5, wsX6_foretell_r6, wsX6_foretell_r7, wsX6_foretell_r8]
theorem ck_wsX6_foretell_m : ∀ c ∈ ck_wsX6_foretell, ∀ w ∈ c, w ∈ wsX6_foretell := List.forall_mem_cons.mpr ⟨fun w h => List.mem_cons.mpr (Or.inl (List.mem_singleton.mp h)), List.forall_mem_cons.mpr ⟨fun _ h => (List.mem_cons_of_mem _ (List.mem_append_left _ (List.mem_append_left _ (List.mem_append_left _ (List.mem_append_left _ (List.mem_append_left _ h)))))), List.forall_mem_cons.mpr ⟨fun _ h => (List.mem_cons_of_mem _ (List.mem_append_left _ (List.mem_append_left _ (List.mem_append_left _ (List.mem_append_left _ (List.mem_append_right _ (List.mem_append_left _ h))))))), List.forall_mem_cons.mpr ⟨fun _ h => (List.mem_cons_of_mem _ (List.mem_append_left _ (List.mem_append_left _ (List.mem_append_left _ (List.mem_append_left _ (List.mem_append_right _ (List.mem_append_right _ (List.mem_append_left _ h)))))))), List.forall_mem_cons.mpr ⟨fun _ h => (List.mem_cons_of_mem _ (List.mem_append_left _ (List.mem_append_left _ (List.mem_append_left _ (List.mem_append_left _ (List.mem_append_right _ (List.mem_append_right _ (List.mem_append_right _ (List.mem_append_left _ h))))))))), List.forall_mem_cons.mpr ⟨fun _ h => (List.mem_cons_of_mem _ (List.mem_append_left _ (List.mem_append_left _ (List.mem_append_left _ (List.mem_append_left _ (List.mem_append_right _ (List.mem_append_right _ (List.mem_append_right _ (List.mem_append_right _ (List.mem_append_left _ h)))))))))), List.forall_mem_cons.mpr ⟨fun _ h => (List.mem_cons_of_mem _ (List.mem_append_left _ (List.mem_append_left _ (List.mem_append_left _ (List.mem_append_left _ (List.mem_append_right _ (List.mem_append_right _ (List.mem_append_right _ (List.mem_append_right _ (List.mem_append_right _ (List.mem_append_left _ h))))))))))), List.forall_mem_cons.mpr ⟨fun _ h => (List.mem_cons_of_mem _ (List.mem_append_left _ (List.mem_append_left _ (List.mem_append_left _ (List.mem_append_left _ (List.mem_append_right _ (List.mem_append_right _ (List.mem_append_right _ (List.mem_append_right _ (List.mem_append_right _ (List.mem_append_right _ (List.mem_append_left _ h)))))))))))), List.forall_mem_cons.mpr ⟨fun _ h => (List.mem_cons_of_mem _ (List.mem_append_left _ (List.mem_append_left _ (List.mem_append_left _ (List.mem_append_left _ (List.mem_append_right _ (List.mem_append_right _ (List.mem_append_right _ (List.mem_append_right _ (List.mem_append_right _ (List.mem_append_right _ (List.mem_append_right _ h)))))))))))), fun _ h => absurd h List.not_mem_nil⟩⟩⟩⟩⟩⟩⟩⟩⟩
set_option maxRecDepth 100000 in
theorem ck_wsX6_foretell_g : ∀ w ∈ wsX6_foretell, goodWord w = true := List.all_eq_true.mp (by decide +kernel)
set_option maxRecDepth 100000 in
theorem ggX6_foretell_X5_copyFrom : GoodIn wsX6_foretell wsX5_copyFrom := goodIn_ca (goodIn_ca (goodIn_ca (goodIn_2 ck_wsX6_foretell [(1, 6), (1, 7), (1, 8), (1, 9), (1, 10), (1, 11), (1, 12), (1, 13), (1, 14), (1, 15), (1, 16), (1, 17), (1, 18), (1, 19), (1, 20), (1, 21), (1, 22), (1, 23), (2, 0), (2, 1), (2, 2), (2, 3), (2, 4), (2, 5), (2, 6), (2, 7), (2, 8), (2, 9), (2, 10), (2, 11), (2, 12), (2, 13), (2, 14), (2, 15), (2, 16), (2, 17), (2, 18), (2, 19), (2, 20), (2, 21), (2, 22)] ck_wsX6_foretell_m ck_wsX6_foretell_g rfl) (goodIn_b (fun _ h => (List.mem_cons_of_mem _ (List.mem_append_left _ (List.mem_append_left _ (List.mem_append_right _ h))))) ck_wsX6_foretell_g)) (goodIn_b (fun _ h => (List.mem_cons_of_mem _ (List.mem_append_left _ (List.mem_append_right _ h)))) ck_wsX6_foretell_g)) (goodIn_b (fun _ h => (List.mem_cons_of_mem _ (List.mem_append_right _ h))) ck_wsX6_foretell_g)
set_option maxRecDepth 20000 in
theorem gX6_foretell_X5_copyFrom : GoodIn wsX6_foretell (wsV RX6 224 RX5 yX5_copyFrom wsX5_copyFrom) := goodIn_app (goodIn_of _ (by decide +kernel)) ggX6_foretell_X5_copyFrom
set_option maxRecDepth 100000 in
theorem ggX6_foretell_X5_resize : GoodIn wsX6_foretell wsX5_resize := goodIn_ca (goodIn_ca (goodIn_ca (goodIn_2 ck_wsX6_foretell [(3, 2), (1, 11), (1, 10), (1, 17), (1, 18), (3, 3), (3, 4), (3, 5), (3, 6), (1, 5), (3, 7), (1, 7), (1, 23), (3, 8), (3, 9), (3, 10), (3, 11), (3, 12), (3, 13), (3, 14), (3, 15), (1, 12), (3, 16), (3, 17), (3, 18), (2, 6), (3, 19), (2, 8), (3, 20), (3, 21), (3, 22), (3, 23), (4, 0), (4, 1), (4, 2), (4, 3), (2, 11), (4, 4), (4, 5), (4, 6), (4, 7), (2, 2), (1, 8), (4, 8), (4, 9), (4, 10), (2, 16), (4, 11), (2, 22), (2, 18), (2, 20), (2, 21), (4, 12), (4, 13), (4, 14), (4, 15), (4, 16), (4, 17), (4, 18), (4, 19), (4, 20), (4, 21), (4, 22), (4, 23), (2, 1), (5, 0), (5, 1), (5, 2), (5, 3), (1, 22), (1, 20), (5, 4), (5, 5), (5, 6), (5, 7), (5, 8), (5, 9), (5, 10), (5, 11), (5, 12), (5, 13), (5, 14), (5, 15)] ck_wsX6_foretell_m ck_wsX6_foretell_g rfl) (goodIn_b (fun _ h => (List.mem_cons_of_mem _ (List.mem_append_left _ (List.mem_append_left _ (List.mem_append_right _ h))))) ck_wsX6_foretell_g)) (goodIn_b (fun _ h => (List.mem_cons_of_mem _ (List.mem_append_right _ h))) ck_wsX6_foretell_g)) (goodIn_b (fun _ h => (List.mem_cons_of_mem _ (List.mem_append_left _ (List.mem_append_right _ h)))) ck_wsX6_foretell_g)
set_option maxRecDepth 20000 in
theorem gX6_foretell_X5_resize : GoodIn wsX6_foretell (wsV RX6 97 RX5 yX5_resize wsX5_resize) := goodIn_app (goodIn_of _ (by decide +kernel)) ggX6_foretell_X5_resize
set_option maxRecDepth 100000 in
theorem ggX6_foretell_X5_canRunToEnd : GoodIn wsX6_foretell wsX5_canRunToEnd := goodIn_ca (goodIn_ca (goodIn_2 ck_wsX6_foretell [(5, 19), (1, 8), (3, 3), (1, 17), (5, 20), (5, 21), (5, 22), (1, 5), (5, 23), (1, 18), (4, 12), (4, 13), (4, 14), (4, 15), (1, 11), (4, 16), (4, 17), (4, 18), (4, 19)] ck_wsX6_foretell_m ck_wsX6_foretell_g rfl) (goodIn_b (fun _ h => (List.mem_cons_of_mem _ (List.mem_append_left _ (List.mem_append_left _ (List.mem_append_right _ h))))) ck_wsX6_foretell_g)) (goodIn_b (fun _ h => (List.mem_cons_of_mem _ (List.mem_append_right _ h))) ck_wsX6_foretell_g)
set_option maxRecDepth 20000 in
theorem gX6_foretell_X5_canRunToEnd : GoodIn wsX6_foretell (wsV RX6 130 RX5 yX5_canRunToEnd wsX5_canRunToEnd) := goodIn_app (goodIn_of _ (by decide +kernel)) ggX6_foretell_X5_canRunToEnd
set_option maxRecDepth 100000 in
theorem ggX6_foretell_X5_runToEnd : GoodIn wsX6_foretell wsX5_runToEnd := goodIn_ca (goodIn_ca (goodIn_ca (goodIn_2 ck_wsX6_foretell [(6, 3), (6, 4), (6, 5), (6, 6), (1, 5), (6, 7), (1, 10), (3, 4), (3, 5), (3, 6), (3, 7), (1, 17), (1, 7), (1, 23), (3, 8), (3, 9), (3, 10), (3, 11), (3, 12), (3, 13), (3, 14), (3, 15), (1, 12), (3, 16), (3, 17), (3, 18), (2, 6), (3, 19), (2, 8), (3, 20), (3, 21), (3, 22), (3, 23), (4, 0), (4, 1), (4, 2), (4, 3), (2, 11), (4, 4), (4, 5), (4, 6), (4, 7), (2, 2), (1, 8), (4, 8), (4, 9), (4, 10), (2, 16), (4, 11), (2, 22), (2, 18), (2, 20), (2, 21), (6, 8), (6, 9), (6, 10), (6, 11), (5, 20), (5, 21), (5, 22), (5, 23), (1, 18), (3, 3), (6, 12), (6, 13), (6, 14), (6, 15), (1, 9), (1, 22), (1, 21), (1, 20), (6, 16), (6, 17), (6, 18), (6, 19), (5, 4), (5, 5), (5, 6), (5, 7), (5, 8), (5, 9), (5, 10), (5, 11), (6, 20), (6, 21), (6, 22), (6, 23), (7, 0), (7, 1), (7, 2), (7, 3), (7, 4), (7, 5), (7, 6), (7, 7), (2, 19), (1, 14), (1, 15), (1, 16), (7, 8), (7, 9), (7, 10), (7, 11), (7, 12), (7, 13), (7, 14), (7, 15), (2, 10), (5, 0), (5, 1), (5, 2), (5, 3), (7, 16), (7, 17), (7, 18), (7, 19), (4, 12), (4, 13), (4, 14), (4, 15), (1, 11), (4, 16), (4, 17), (4, 18), (4, 19), (7, 20), (7, 21), (7, 22), (7, 23), (1, 19), (2, 0), (8, 0), (8, 1), (8, 2), (8, 3), (8, 4), (8, 5), (8, 6), (8, 7), (8, 8)] ck_wsX6_foretell_m ck_wsX6_foretell_g rfl) (goodIn_b (fun _ h => (List.mem_cons_of_mem _ (List.mem_append_left _ (List.mem_append_left _ (List.mem_append_right _ h))))) ck_wsX6_foretell_g)) (goodIn_b (fun _ h => (List.mem_cons_of_mem _ (List.mem_append_left _ (List.mem_append_right _ h)))) ck_wsX6_foretell_g)) (goodIn_b (fun _ h => (List.mem_cons_of_mem _ (List.mem_append_right _ h))) ck_wsX6_foretell_g)
set_option maxRecDepth 20000 in
theorem gX6_foretell_X5_runToEnd : GoodIn wsX6_foretell (wsV RX6 133 RX5 yX5_runToEnd wsX5_runToEnd) := goodIn_app (goodIn_of _ (by decide +kernel)) ggX6_foretell_X5_runToEnd
theorem dX6_foretell_0 : decode cX6_foretell 0 = .ok (.aload_n 0, 1) := by decide +kernel
theorem dX6_foretell_1 : decode cX6_foretell 1 = .ok (.getfield 16, 3) := by decide +kernel
theorem dX6_foretell_4 : decode cX6_foretell 4 = .ok (.aload_n 0, 1) := by decide +kernel
theorem dX6_foretell_5 : decode cX6_foretell 5 = .ok (.getfield 10, 3) := by decide +kernel
theorem dX6_foretell_8 : decode cX6_foretell 8 = .ok (.invokevirtual 224, 3) := by decide +kernel
theorem dX6_foretell_11 : decode cX6_foretell 11 = .ok (.aload_n 0, 1) := by decide +kernel
theorem dX6_foretell_12 : decode cX6_foretell 12 = .ok (.getfield 16, 3) := by decide +kernel
theorem dX6_foretell_15 : decode cX6_foretell 15 = .ok (.iload_n 1, 1) := by decide +kernel
theorem dX6_foretell_16 : decode cX6_foretell 16 = .ok (.invokevirtual 97, 3) := by decide +kernel
theorem dX6_foretell_19 : decode cX6_foretell 19 = .ok (.pop, 1) := by decide +kernel
theorem dX6_foretell_20 : decode cX6_foretell 20 = .ok (.aload_n 0, 1) := by decide +kernel
theorem dX6_foretell_21 : decode cX6_foretell 21 = .ok (.getfield 16, 3) := by decide +kernel
theorem dX6_foretell_24 : decode cX6_foretell 24 = .ok (.invokevirtual 130, 3) := by decide +kernel
theorem dX6_foretell_27 : decode cX6_foretell 27 = .ok (.ifCond .ne 5, 3) := by decide +kernel
theorem dX6_foretell_30 : decode cX6_foretell 30 = .ok (.iconst 0, 1) := by decide +kernel
theorem dX6_foretell_31 : decode cX6_foretell 31 = .ok (.ireturn, 1) := by decide +kernel
theorem dX6_foretell_32 : decode cX6_foretell 32 = .ok (.aload_n 0, 1) := by decide +kernel
theorem dX6_foretell_33 : decode cX6_foretell 33 = .ok (.getfield 16, 3) := by decide +kernel
theorem dX6_foretell_36 : decode cX6_foretell 36 = .ok (.invokevirtual 133, 3) := by decide +kernel
theorem dX6_foretell_39 : decode cX6_foretell 39 = .ok (.pop, 1) := by decide +kernel
theorem dX6_foretell_40 : decode cX6_foretell 40 = .ok (.iconst 1, 1) := by decide +kernel
theorem dX6_foretell_41 : decode cX6_foretell 41 = .ok (.ireturn, 1) := by decide +kernel
def ck_wsX6_collectItems : List (List Cond) := [[.code yX6_collectItems cX6_collectItems 3 none], wsX6_collectItems_r1, wsX6_collectItems_r2, wsX6_collectItems_r3, wsX6_collectItems_r4, wsX6_collectItems_r5, wsX6_collectItems_r6, wsX6_collectItems_r7]
theorem ck_wsX6_collectItems_m : ∀ c ∈ ck_wsX6_collectItems, ∀ w ∈ c, w ∈ wsX6_collectItems := List.forall_mem_cons.mpr ⟨fun w h => List.mem_cons.mpr (Or.inl (List.mem_singleton.mp h)), List.forall_mem_cons.mpr ⟨fun _ h => (List.mem_cons_of_mem _ (List.mem_append_left _ (List.mem_append_left _ (List.mem_append_left _ (List.mem_append_left _ (List.mem_append_left _ (List.mem_append_left _ (List.mem_append_left _ h)))))))), List.forall_mem_cons.mpr ⟨fun _ h => (List.mem_cons_of_mem _ (List.mem_append_left _ (List.mem_append_left _ (List.mem_append_left _ (List.mem_append_left _ (List.mem_append_left _ (List.mem_append_left _ (List.mem_append_right _ (List.mem_append_left _ h))))))))), List.forall_mem_cons.mpr ⟨fun _ h => (List.mem_cons_of_mem _ (List.mem_append_left _ (List.mem_append_left _ (List.mem_append_left _ (List.mem_append_left _ (List.mem_append_left _ (List.mem_append_left _ (List.mem_append_right _ (List.mem_append_right _ (List.mem_append_left _ h)))))))))), List.forall_mem_cons.mpr ⟨fun _ h => (List.mem_cons_of_mem _ (List.mem_append_left _ (List.mem_append_left _ (List.mem_append_left _ (List.mem_append_left _ (List.mem_append_left _ (List.mem_append_left _ (List.mem_append_right _ (List.mem_append_right _ (List.mem_append_right _ (List.mem_append_left _ h))))))))))), List.forall_mem_cons.mpr ⟨fun _ h => (List.mem_cons_of_mem _ (List.mem_append_left _ (List.mem_append_left _ (List.mem_append_left _ (List.mem_append_left _ (List.mem_append_left _ (List.mem_append_left _ (List.mem_append_right _ (List.mem_append_right _ (List.mem_append_right _ (List.mem_append_right _ (List.mem_append_left _ h)))))))))))), List.forall_mem_cons.mpr ⟨fun _ h => (List.mem_cons_of_mem _ (List.mem_append_left _ (List.mem_append_left _ (List.mem_append_left _ (List.mem_append_left _ (List.mem_append_left _ (List.mem_append_left _ (List.mem_append_right _ (List.mem_append_right _ (List.mem_append_right _ (List.mem_append_right _ (List.mem_append_right _ (List.mem_append_left _ h))))))))))))), List.forall_mem_cons.mpr ⟨fun _ h => (List.mem_cons_of_mem _ (List.mem_append_left _ (List.mem_append_left _ (List.mem_append_left _ (List.mem_append_left _ (List.mem_append_left _ (List.mem_append_left _ (List.mem_append_right _ (List.mem_append_right _ (List.mem_append_right _ (List.mem_append_right _ (List.mem_append_right _ (List.mem_append_right _ h))))))))))))), fun _ h => absurd h List.not_mem_nil⟩⟩⟩⟩⟩⟩⟩⟩
set_option maxRecDepth 100000 in
theorem ck_wsX6_collectItems_g : ∀ w ∈ wsX6_collectItems, goodWord w = true := List.all_eq_true.mp (by decide +kernel)
set_option maxRecDepth 100000 in
theorem ggX6_collectItems_X2_beginItem : GoodIn wsX6_collectItems wsX2_beginItem := goodIn_ca (goodIn_2 ck_wsX6_collectItems [(1, 7), (1, 8), (1, 9), (1, 10), (1, 6), (1, 11), (1, 12), (1, 13), (1, 14), (1, 15), (1, 16)] ck_wsX6_collectItems_m ck_wsX6_collectItems_g rfl) (goodIn_b (fun _ h => (List.mem_cons_of_mem _ (List.mem_append_left _ (List.mem_append_left _ (List.mem_append_left _ (List.mem_append_right _ h)))))) ck_wsX6_collectItems_g)
set_option maxRecDepth 20000 in
theorem gX6_collectItems_X2_beginItem : GoodIn wsX6_collectItems (wsV RX6 199 RX2 yX2_beginItem wsX2_beginItem) := goodIn_app (goodIn_of _ (by decide +kernel)) ggX6_collectItems_X2_beginItem
set_option maxRecDepth 100000 in
theorem ggX6_collectItems_X0_codeAt : GoodIn wsX6_collectItems wsX0_codeAt := goodIn_ca (goodIn_2 ck_wsX6_collectItems [(1, 21), (1, 22), (1, 23)] ck_wsX6_collectItems_m ck_wsX6_collectItems_g rfl) (goodIn_b (fun _ h => (List.mem_cons_of_mem _ (List.mem_append_left _ (List.mem_append_left _ (List.mem_append_left _ (List.mem_append_left _ (List.mem_append_right _ h))))))) ck_wsX6_collectItems_g)
set_option maxRecDepth 20000 in
theorem gX6_collectItems_X0_codeAt : GoodIn wsX6_collectItems (wsV RX6 205 RX0 yX0_codeAt wsX0_codeAt) := goodIn_app (goodIn_of _ (by decide +kernel)) ggX6_collectItems_X0_codeAt
set_option maxRecDepth 100000 in
theorem ggX6_collectItems_X6_collectItem : GoodIn wsX6_collectItems wsX6_collectItem := goodIn_ca (goodIn_ca (goodIn_ca (goodIn_ca (goodIn_ca (goodIn_2 ck_wsX6_collectItems [(2, 4), (1, 0), (2, 5), (2, 6), (2, 7), (2, 8), (2, 9), (1, 6), (2, 10), (1, 12), (1, 14), (2, 11), (2, 12), (2, 13), (2, 14), (2, 15), (2, 16), (2, 17), (2, 18), (2, 19), (2, 20), (2, 21), (2, 22), (2, 23), (3, 0), (3, 1), (3, 2), (3, 3), (3, 4), (3, 5), (3, 6), (3, 7), (3, 8), (3, 9), (3, 10), (3, 11), (3, 12), (3, 13), (3, 14), (3, 15), (3, 16), (3, 17), (3, 18), (3, 19), (3, 20), (3, 21), (3, 22), (3, 23), (4, 0), (4, 1), (4, 2), (4, 3), (4, 4), (4, 5), (4, 6), (4, 7), (4, 8), (4, 9), (4, 10), (4, 11), (4, 12), (4, 13), (4, 14), (4, 15), (4, 16), (4, 17), (4, 18), (4, 19), (4, 20), (4, 21), (4, 22), (4, 23), (5, 0), (5, 1), (5, 2), (5, 3), (5, 4), (5, 5), (5, 6), (5, 7), (5, 8), (5, 9), (5, 10), (5, 11), (5, 12), (5, 13), (5, 14), (5, 15), (5, 16), (5, 17), (5, 18), (5, 19), (5, 20), (5, 21), (5, 22), (5, 23)] ck_wsX6_collectItems_m ck_wsX6_collectItems_g rfl) (goodIn_b (fun _ h => (List.mem_cons_of_mem _ (List.mem_append_left _ (List.mem_append_left _ (List.mem_append_left _ (List.mem_append_left _ (List.mem_append_left _ (List.mem_append_right _ h)))))))) ck_wsX6_collectItems_g)) (goodIn_b (fun _ h => (List.mem_cons_of_mem _ (List.mem_append_left _ (List.mem_append_left _ (List.mem_append_right _ h))))) ck_wsX6_collectItems_g)) (goodIn_b (fun _ h => (List.mem_cons_of_mem _ (List.mem_append_left _ (List.mem_append_left _ (List.mem_append_left _ (List.mem_append_right _ h)))))) ck_wsX6_collectItems_g)) (goodIn_b (fun _ h => (List.mem_cons_of_mem _ (List.mem_append_left _ (List.mem_append_right _ h)))) ck_wsX6_collectItems_g)) (goodIn_b (fun _ h => (List.mem_cons_of_mem _ (List.mem_append_right _ h))) ck_wsX6_collectItems_g)
set_option maxRecDepth 20000 in
theorem gX6_collectItems_X6_collectItem : GoodIn wsX6_collectItems (wsV RX6 230 RX6 yX6_collectItem wsX6_collectItem) := goodIn_app (goodIn_of _ (by decide +kernel)) ggX6_collectItems_X6_collectItem
set_option maxRecDepth 100000 in
theorem ggX6_collectItems_X2_take : GoodIn wsX6_collectItems wsX2_take := goodIn_ca (goodIn_2 ck_wsX6_collectItems [(6, 3), (1, 12), (6, 4), (6, 5), (6, 6), (1, 6), (6, 7), (1, 13), (1, 14), (6, 8), (6, 9), (6, 10), (6, 11), (1, 15), (6, 12), (6, 13), (6, 14), (6, 15), (1, 16), (6, 16), (6, 17), (6, 18), (6, 19), (6, 20), (1, 4), (1, 5), (1, 7), (1, 8), (1, 9), (1, 10), (1, 11), (6, 21), (6, 22), (6, 23), (7, 0), (2, 11)] ck_wsX6_collectItems_m ck_wsX6_collectItems_g rfl) (goodIn_b (fun _ h => (List.mem_cons_of_mem _ (List.mem_append_left _ (List.mem_append_left _ (List.mem_append_left _ (List.mem_append_right _ h)))))) ck_wsX6_collectItems_g)
set_option maxRecDepth 20000 in
theorem gX6_collectItems_X2_take : GoodIn wsX6_collectItems (wsV RX6 208 RX2 yX2_take wsX2_take) := goodIn_app (goodIn_of _ (by decide +kernel)) ggX6_collectItems_X2_take
theorem dX6_collectItems_0 : decode cX6_collectItems 0 = .ok (.aload_n 0, 1) := by decide +kernel
theorem dX6_collectItems_1 : decode cX6_collectItems 1 = .ok (.getfield 39, 3) := by decide +kernel
theorem dX6_collectItems_4 : decode cX6_collectItems 4 = .ok (.invokevirtual 199, 3) := by decide +kernel
theorem dX6_collectItems_7 : decode cX6_collectItems 7 = .ok (.iconst 0, 1) := by decide +kernel
theorem dX6_collectItems_8 : decode cX6_collectItems 8 = .ok (.istore_n 1, 1) := by decide +kernel
theorem dX6_collectItems_9 : decode cX6_collectItems 9 = .ok (.iload_n 1, 1) := by decide +kernel
theorem dX6_collectItems_10 : decode cX6_collectItems 10 = .ok (.aload_n 0, 1) := by decide +kernel
theorem dX6_collectItems_11 : decode cX6_collectItems 11 = .ok (.getfield 32, 3) := by decide +kernel
theorem dX6_collectItems_14 : decode cX6_collectItems 14 = .ok (.getfield 202, 3) := by decide +kernel
theorem dX6_collectItems_17 : decode cX6_collectItems 17 = .ok (.if_icmp .ge 37, 3) := by decide +kernel
theorem dX6_collectItems_20 : decode cX6_collectItems 20 = .ok (.aload_n 0, 1) := by decide +kernel
theorem dX6_collectItems_21 : decode cX6_collectItems 21 = .ok (.getfield 32, 3) := by decide +kernel
theorem dX6_collectItems_24 : decode cX6_collectItems 24 = .ok (.iload_n 1, 1) := by decide +kernel
theorem dX6_collectItems_25 : decode cX6_collectItems 25 = .ok (.invokevirtual 205, 3) := by decide +kernel
theorem dX6_collectItems_28 : decode cX6_collectItems 28 = .ok (.istore_n 2, 1) := by decide +kernel
theorem dX6_collectItems_29 : decode cX6_collectItems 29 = .ok (.iload_n 2, 1) := by decide +kernel
theorem dX6_collectItems_30 : decode cX6_collectItems 30 = .ok (.bipush 44, 2) := by decide +kernel
theorem dX6_collectItems_32 : decode cX6_collectItems 32 = .ok (.if_icmp .ne 7, 3) := by decide +kernel
theorem dX6_collectItems_35 : decode cX6_collectItems 35 = .ok (.aload_n 0, 1) := by decide +kernel
theorem dX6_collectItems_36 : decode cX6_collectItems 36 = .ok (.invokevirtual 230, 3) := by decide +kernel
theorem dX6_collectItems_39 : decode cX6_collectItems 39 = .ok (.aload_n 0, 1) := by decide +kernel
theorem dX6_collectItems_40 : decode cX6_collectItems 40 = .ok (.getfield 39, 3) := by decide +kernel
theorem dX6_collectItems_43 : decode cX6_collectItems 43 = .ok (.iload_n 2, 1) := by decide +kernel
theorem dX6_collectItems_44 : decode cX6_collectItems 44 = .ok (.invokevirtual 208, 3) := by decide +kernel
theorem dX6_collectItems_47 : decode cX6_collectItems 47 = .ok (.pop, 1) := by decide +kernel
theorem dX6_collectItems_48 : decode cX6_collectItems 48 = .ok (.iinc 1 1, 3) := by decide +kernel
theorem dX6_collectItems_51 : decode cX6_collectItems 51 = .ok (.goto (-42), 3) := by decide +kernel
theorem dX6_collectItems_54 : decode cX6_collectItems 54 = .ok (.aload_n 0, 1) := by decide +kernel
theorem dX6_collectItems_55 : decode cX6_collectItems 55 = .ok (.invokevirtual 230, 3) := by decide +kernel
theorem dX6_collectItems_58 : decode cX6_collectItems 58 = .ok (.return_, 1) := by decide +kernel
def ck_wsX6_collectItem : List (List Cond) := [[.code yX6_collectItem cX6_collectItem 3 none], wsX6_collectItem_r1, wsX6_collectItem_r2, wsX6_collectItem_r3, wsX6_collectItem_r4]
theorem ck_wsX6_collectItem_m : ∀ c ∈ ck_wsX6_collectItem, ∀ w ∈ c, w ∈ wsX6_collectItem := List.forall_mem_cons.mpr ⟨fun w h => List.mem_cons.mpr (Or.inl (List.mem_singleton.mp h)), List.forall_mem_cons.mpr ⟨fun _ h => (List.mem_cons_of_mem _ (List.mem_append_left _ (List.mem_append_left _ (List.mem_append_left _ (List.mem_append_left _ (List.mem_append_left _ (List.mem_append_left _ h))))))), List.forall_mem_cons.mpr ⟨fun _ h => (List.mem_cons_of_mem _ (List.mem_append_left _ (List.mem_append_left _ (List.mem_append_left _ (List.mem_append_left _ (List.mem_append_left _ (List.mem_append_right _ (List.mem_append_left _ h)))))))), List.forall_mem_cons.mpr ⟨fun _ h => (List.mem_cons_of_mem _ (List.mem_append_left _ (List.mem_append_left _ (List.mem_append_left _ (List.mem_append_left _ (List.mem_append_left _ (List.mem_append_right _ (List.mem_append_right _ (List.mem_append_left _ h))))))))), List.forall_mem_cons.mpr ⟨fun _ h => (List.mem_cons_of_mem _ (List.mem_append_left _ (List.mem_append_left _ (List.mem_append_left _ (List.mem_append_left _ (List.mem_append_left _ (List.mem_append_right _ (List.mem_append_right _ (List.mem_append_right _ h))))))))), fun _ h => absurd h List.not_mem_nil⟩⟩⟩⟩⟩
set_option maxRecDepth 100000 in
theorem ck_wsX6_collectItem_g : ∀ w ∈ wsX6_collectItem, goodWord w = true := List.all_eq_true.mp (by decide +kernel)
set_option maxRecDepth 100000 in
theorem ggX6_collectItem_X2_rowsOfItem : GoodIn wsX6_collectItem wsX2_rowsOfItem := goodIn_ca (goodIn_2 ck_wsX6_collectItem [(1, 7), (1, 8), (1, 9), (1, 10)] ck_wsX6_collectItem_m ck_wsX6_collectItem_g rfl) (goodIn_b (fun _ h => (List.mem_cons_of_mem _ (List.mem_append_left _ (List.mem_append_left _ (List.mem_append_right _ h))))) ck_wsX6_collectItem_g)
set_option maxRecDepth 20000 in
theorem gX6_collectItem_X2_rowsOfItem : GoodIn wsX6_collectItem (wsV RX6 233 RX2 yX2_rowsOfItem wsX2_rowsOfItem) := goodIn_app (goodIn_of _ (by decide +kernel)) ggX6_collectItem_X2_rowsOfItem
set_option maxRecDepth 100000 in
theorem ggX6_collectItem_X3_hasRoom : GoodIn wsX6_collectItem wsX3_hasRoom := goodIn_ca (goodIn_2 ck_wsX6_collectItem [(1, 15), (1, 16)] ck_wsX6_collectItem_m ck_wsX6_collectItem_g rfl) (goodIn_b (fun _ h => (List.mem_cons_of_mem _ (List.mem_append_left _ (List.mem_append_right _ h)))) ck_wsX6_collectItem_g)
set_option maxRecDepth 20000 in
theorem gX6_collectItem_X3_hasRoom : GoodIn wsX6_collectItem (wsV RX6 55 RX3 yX3_hasRoom wsX3_hasRoom) := goodIn_app (goodIn_of _ (by decide +kernel)) ggX6_collectItem_X3_hasRoom
set_option maxRecDepth 100000 in
theorem ggX6_collectItem_X2_keyOfItem : GoodIn wsX6_collectItem wsX2_keyOfItem := goodIn_ca (goodIn_2 ck_wsX6_collectItem [(1, 20), (1, 8), (1, 10), (1, 9)] ck_wsX6_collectItem_m ck_wsX6_collectItem_g rfl) (goodIn_b (fun _ h => (List.mem_cons_of_mem _ (List.mem_append_left _ (List.mem_append_left _ (List.mem_append_right _ h))))) ck_wsX6_collectItem_g)
set_option maxRecDepth 20000 in
theorem gX6_collectItem_X2_keyOfItem : GoodIn wsX6_collectItem (wsV RX6 236 RX2 yX2_keyOfItem wsX2_keyOfItem) := goodIn_app (goodIn_of _ (by decide +kernel)) ggX6_collectItem_X2_keyOfItem
set_option maxRecDepth 100000 in
theorem ggX6_collectItem_X5_collect : GoodIn wsX6_collectItem wsX5_collect := goodIn_ca (goodIn_ca (goodIn_ca (goodIn_2 ck_wsX6_collectItem [(2, 1), (2, 2), (2, 3), (2, 4), (2, 5), (2, 6), (2, 7), (2, 8), (2, 0), (2, 9), (2, 10), (2, 11), (2, 12), (2, 13), (2, 14), (2, 15), (2, 16), (2, 17), (1, 14), (2, 18), (2, 19), (2, 20), (2, 21), (2, 22), (2, 23), (1, 16), (3, 0), (3, 1), (3, 2), (1, 12), (1, 13), (1, 15), (3, 3), (3, 4), (3, 5), (3, 6), (3, 7), (3, 8), (3, 9), (3, 10), (3, 11), (3, 12), (3, 13), (3, 14), (3, 15), (3, 16), (3, 17), (3, 18), (3, 19), (3, 20), (3, 21), (3, 22), (3, 23), (4, 0), (4, 1), (4, 2), (4, 3), (4, 4), (4, 5), (4, 6), (4, 7), (4, 8), (4, 9), (4, 10), (4, 11), (4, 12), (4, 13), (4, 14), (4, 15), (4, 16), (4, 17), (4, 18), (4, 19), (4, 20), (4, 21), (4, 22)] ck_wsX6_collectItem_m ck_wsX6_collectItem_g rfl) (goodIn_b (fun _ h => (List.mem_cons_of_mem _ (List.mem_append_left _ (List.mem_append_left _ (List.mem_append_left _ (List.mem_append_right _ h)))))) ck_wsX6_collectItem_g)) (goodIn_b (fun _ h => (List.mem_cons_of_mem _ (List.mem_append_left _ (List.mem_append_right _ h)))) ck_wsX6_collectItem_g)) (goodIn_b (fun _ h => (List.mem_cons_of_mem _ (List.mem_append_right _ h))) ck_wsX6_collectItem_g)
set_option maxRecDepth 20000 in
theorem gX6_collectItem_X5_collect : GoodIn wsX6_collectItem (wsV RX6 65 RX5 yX5_collect wsX5_collect) := goodIn_app (goodIn_of _ (by decide +kernel)) ggX6_collectItem_X5_collect
theorem dX6_collectItem_0 : decode cX6_collectItem 0 = .ok (.aload_n 0, 1) := by decide +kernel
theorem dX6_collectItem_1 : decode cX6_collectItem 1 = .ok (.getfield 39, 3) := by decide +kernel
theorem dX6_collectItem_4 : decode cX6_collectItem 4 = .ok (.invokevirtual 233, 3) := by decide +kernel
theorem dX6_collectItem_7 : decode cX6_collectItem 7 = .ok (.istore_n 1, 1) := by decide +kernel
theorem dX6_collectItem_8 : decode cX6_collectItem 8 = .ok (.iconst 0, 1) := by decide +kernel
theorem dX6_collectItem_9 : decode cX6_collectItem 9 = .ok (.istore_n 2, 1) := by decide +kernel
theorem dX6_collectItem_10 : decode cX6_collectItem 10 = .ok (.iload_n 2, 1) := by decide +kernel
theorem dX6_collectItem_11 : decode cX6_collectItem 11 = .ok (.iload_n 1, 1) := by decide +kernel
theorem dX6_collectItem_12 : decode cX6_collectItem 12 = .ok (.if_icmp .ge 38, 3) := by decide +kernel
theorem dX6_collectItem_15 : decode cX6_collectItem 15 = .ok (.aload_n 0, 1) := by decide +kernel
theorem dX6_collectItem_16 : decode cX6_collectItem 16 = .ok (.getfield 10, 3) := by decide +kernel
theorem dX6_collectItem_19 : decode cX6_collectItem 19 = .ok (.getfield 51, 3) := by decide +kernel
theorem dX6_collectItem_22 : decode cX6_collectItem 22 = .ok (.invokevirtual 55, 3) := by decide +kernel
theorem dX6_collectItem_25 : decode cX6_collectItem 25 = .ok (.ifCond .eq 25, 3) := by decide +kernel
theorem dX6_collectItem_28 : decode cX6_collectItem 28 = .ok (.aload_n 0, 1) := by decide +kernel
theorem dX6_collectItem_29 : decode cX6_collectItem 29 = .ok (.getfield 10, 3) := by decide +kernel
theorem dX6_collectItem_32 : decode cX6_collectItem 32 = .ok (.aload_n 0, 1) := by decide +kernel
theorem dX6_collectItem_33 : decode cX6_collectItem 33 = .ok (.getfield 39, 3) := by decide +kernel
theorem dX6_collectItem_36 : decode cX6_collectItem 36 = .ok (.iload_n 2, 1) := by decide +kernel
theorem dX6_collectItem_37 : decode cX6_collectItem 37 = .ok (.invokevirtual 236, 3) := by decide +kernel
theorem dX6_collectItem_40 : decode cX6_collectItem 40 = .ok (.invokevirtual 65, 3) := by decide +kernel
theorem dX6_collectItem_43 : decode cX6_collectItem 43 = .ok (.pop, 1) := by decide +kernel
theorem dX6_collectItem_44 : decode cX6_collectItem 44 = .ok (.iinc 2 1, 3) := by decide +kernel
theorem dX6_collectItem_47 : decode cX6_collectItem 47 = .ok (.goto (-37), 3) := by decide +kernel
theorem dX6_collectItem_50 : decode cX6_collectItem 50 = .ok (.return_, 1) := by decide +kernel
theorem dX7_init_0 : decode cX7_init 0 = .ok (.aload_n 0, 1) := by decide +kernel
theorem dX7_init_1 : decode cX7_init 1 = .ok (.invokespecial 1, 3) := by decide +kernel
theorem dX7_init_4 : decode cX7_init 4 = .ok (.aload_n 0, 1) := by decide +kernel
theorem dX7_init_5 : decode cX7_init 5 = .ok (.sipush 370, 3) := by decide +kernel
theorem dX7_init_8 : decode cX7_init 8 = .ok (.newarray .int, 2) := by decide +kernel
theorem dX7_init_10 : decode cX7_init 10 = .ok (.putfield 7, 3) := by decide +kernel
theorem dX7_init_13 : decode cX7_init 13 = .ok (.aload_n 0, 1) := by decide +kernel
theorem dX7_init_14 : decode cX7_init 14 = .ok (.sipush 1480, 3) := by decide +kernel
theorem dX7_init_17 : decode cX7_init 17 = .ok (.newarray .int, 2) := by decide +kernel
theorem dX7_init_19 : decode cX7_init 19 = .ok (.putfield 13, 3) := by decide +kernel
theorem dX7_init_22 : decode cX7_init 22 = .ok (.aload_n 0, 1) := by decide +kernel
theorem dX7_init_23 : decode cX7_init 23 = .ok (.sipush 370, 3) := by decide +kernel
theorem dX7_init_26 : decode cX7_init 26 = .ok (.newarray .int, 2) := by decide +kernel
theorem dX7_init_28 : decode cX7_init 28 = .ok (.putfield 16, 3) := by decide +kernel
theorem dX7_init_31 : decode cX7_init 31 = .ok (.aload_n 0, 1) := by decide +kernel
theorem dX7_init_32 : decode cX7_init 32 = .ok (.sipush 370, 3) := by decide +kernel
theorem dX7_init_35 : decode cX7_init 35 = .ok (.newarray .int, 2) := by decide +kernel
theorem dX7_init_37 : decode cX7_init 37 = .ok (.putfield 19, 3) := by decide +kernel
theorem dX7_init_40 : decode cX7_init 40 = .ok (.aload_n 0, 1) := by decide +kernel
theorem dX7_init_41 : decode cX7_init 41 = .ok (.bipush 80, 2) := by decide +kernel
theorem dX7_init_43 : decode cX7_init 43 = .ok (.newarray .char, 2) := by decide +kernel
theorem dX7_init_45 : decode cX7_init 45 = .ok (.putfield 22, 3) := by decide +kernel
theorem dX7_init_48 : decode cX7_init 48 = .ok (.aload_n 0, 1) := by decide +kernel
theorem dX7_init_49 : decode cX7_init 49 = .ok (.bipush 123, 2) := by decide +kernel
theorem dX7_init_51 : decode cX7_init 51 = .ok (.newarray .int, 2) := by decide +kernel
theorem dX7_init_53 : decode cX7_init 53 = .ok (.putfield 26, 3) := by decide +kernel
theorem dX7_init_56 : decode cX7_init 56 = .ok (.aload_n 0, 1) := by decide +kernel
theorem dX7_init_57 : decode cX7_init 57 = .ok (.getfield 7, 3) := by decide +kernel
theorem dX7_init_60 : decode cX7_init 60 = .ok (.iconst 0, 1) := by decide +kernel
theorem dX7_init_61 : decode cX7_init 61 = .ok (.bipush 6, 2) := by decide +kernel
theorem dX7_init_63 : decode cX7_init 63 = .ok (.iastore, 1) := by decide +kernel
theorem dX7_init_64 : decode cX7_init 64 = .ok (.aload_n 0, 1) := by decide +kernel
theorem dX7_init_65 : decode cX7_init 65 = .ok (.getfield 7, 3) := by decide +kernel
theorem dX7_init_68 : decode cX7_init 68 = .ok (.iconst 2, 1) := by decide +kernel
theorem dX7_init_69 : decode cX7_init 69 = .ok (.iconst 1, 1) := by decide +kernel
theorem dX7_init_70 : decode cX7_init 70 = .ok (.iastore, 1) := by decide +kernel
theorem dX7_init_71 : decode cX7_init 71 = .ok (.return_, 1) := by decide +kernel
theorem dX7_in_0 : decode cX7_in 0 = .ok (.iload_n 0, 1) := by decide +kernel
theorem dX7_in_1 : decode cX7_in 1 = .ok (.iload_n 1, 1) := by decide +kernel
theorem dX7_in_2 : decode cX7_in 2 = .ok (.if_icmp .lt 12, 3) := by decide +kernel
theorem dX7_in_5 : decode cX7_in 5 = .ok (.iload_n 0, 1) := by decide +kernel
theorem dX7_in_6 : decode cX7_in 6 = .ok (.iload_n 2, 1) := by decide +kernel
theorem dX7_in_7 : decode cX7_in 7 = .ok (.if_icmp .gt 7, 3) := by decide +kernel
theorem dX7_in_10 : decode cX7_in 10 = .ok (.iconst 1, 1) := by decide +kernel
theorem dX7_in_11 : decode cX7_in 11 = .ok (.goto 4, 3) := by decide +kernel
theorem dX7_in_14 : decode cX7_in 14 = .ok (.iconst 0, 1) := by decide +kernel
theorem dX7_in_15 : decode cX7_in 15 = .ok (.ireturn, 1) := by decide +kernel
theorem dX7_record_0 : decode cX7_record 0 = .ok (.aload_n 0, 1) := by decide +kernel
theorem dX7_record_1 : decode cX7_record 1 = .ok (.getfield 29, 3) := by decide +kernel
theorem dX7_record_4 : decode cX7_record 4 = .ok (.iconst 4, 1) := by decide +kernel
theorem dX7_record_5 : decode cX7_record 5 = .ok (.if_icmp .ne 44, 3) := by decide +kernel
theorem dX7_record_8 : decode cX7_record 8 = .ok (.iconst 0, 1) := by decide +kernel
theorem dX7_record_9 : decode cX7_record 9 = .ok (.istore_n 1, 1) := by decide +kernel
theorem dX7_record_10 : decode cX7_record 10 = .ok (.iload_n 1, 1) := by decide +kernel
theorem dX7_record_11 : decode cX7_record 11 = .ok (.sipush 1110, 3) := by decide +kernel
theorem dX7_record_14 : decode cX7_record 14 = .ok (.if_icmp .ge 25, 3) := by decide +kernel
theorem dX7_record_17 : decode cX7_record 17 = .ok (.aload_n 0, 1) := by decide +kernel
theorem dX7_record_18 : decode cX7_record 18 = .ok (.getfield 13, 3) := by decide +kernel
theorem dX7_record_21 : decode cX7_record 21 = .ok (.iload_n 1, 1) := by decide +kernel
theorem dX7_record_22 : decode cX7_record 22 = .ok (.aload_n 0, 1) := by decide +kernel
theorem dX7_record_23 : decode cX7_record 23 = .ok (.getfield 13, 3) := by decide +kernel
theorem dX7_record_26 : decode cX7_record 26 = .ok (.iload_n 1, 1) := by decide +kernel
theorem dX7_record_27 : decode cX7_record 27 = .ok (.sipush 370, 3) := by decide +kernel
theorem dX7_record_30 : decode cX7_record 30 = .ok (.iadd, 1) := by decide +kernel
theorem dX7_record_31 : decode cX7_record 31 = .ok (.iaload, 1) := by decide +kernel
theorem dX7_record_32 : decode cX7_record 32 = .ok (.iastore, 1) := by decide +kernel
theorem dX7_record_33 : decode cX7_record 33 = .ok (.iinc 1 1, 3) := by decide +kernel
theorem dX7_record_36 : decode cX7_record 36 = .ok (.goto (-26), 3) := by decide +kernel
theorem dX7_record_39 : decode cX7_record 39 = .ok (.aload_n 0, 1) := by decide +kernel
theorem dX7_record_40 : decode cX7_record 40 = .ok (.dup, 1) := by decide +kernel
theorem dX7_record_41 : decode cX7_record 41 = .ok (.getfield 29, 3) := by decide +kernel
theorem dX7_record_44 : decode cX7_record 44 = .ok (.iconst 1, 1) := by decide +kernel
theorem dX7_record_45 : decode cX7_record 45 = .ok (.isub, 1) := by decide +kernel
theorem dX7_record_46 : decode cX7_record 46 = .ok (.putfield 29, 3) := by decide +kernel
theorem dX7_record_49 : decode cX7_record 49 = .ok (.iconst 0, 1) := by decide +kernel
theorem dX7_record_50 : decode cX7_record 50 = .ok (.istore_n 1, 1) := by decide +kernel
theorem dX7_record_51 : decode cX7_record 51 = .ok (.iload_n 1, 1) := by decide +kernel
theorem dX7_record_52 : decode cX7_record 52 = .ok (.sipush 370, 3) := by decide +kernel
theorem dX7_record_55 : decode cX7_record 55 = .ok (.if_icmp .ge 30, 3) := by decide +kernel
theorem dX7_record_58 : decode cX7_record 58 = .ok (.aload_n 0, 1) := by decide +kernel
theorem dX7_record_59 : decode cX7_record 59 = .ok (.getfield 13, 3) := by decide +kernel
theorem dX7_record_62 : decode cX7_record 62 = .ok (.aload_n 0, 1) := by decide +kernel
theorem dX7_record_63 : decode cX7_record 63 = .ok (.getfield 29, 3) := by decide +kernel
theorem dX7_record_66 : decode cX7_record 66 = .ok (.sipush 370, 3) := by decide +kernel
theorem dX7_record_69 : decode cX7_record 69 = .ok (.imul, 1) := by decide +kernel
theorem dX7_record_70 : decode cX7_record 70 = .ok (.iload_n 1, 1) := by decide +kernel
theorem dX7_record_71 : decode cX7_record 71 = .ok (.iadd, 1) := by decide +kernel
theorem dX7_record_72 : decode cX7_record 72 = .ok (.aload_n 0, 1) := by decide +kernel
theorem dX7_record_73 : decode cX7_record 73 = .ok (.getfield 7, 3) := by decide +kernel
theorem dX7_record_76 : decode cX7_record 76 = .ok (.iload_n 1, 1) := by decide +kernel
theorem dX7_record_77 : decode cX7_record 77 = .ok (.iaload, 1) := by decide +kernel
theorem dX7_record_78 : decode cX7_record 78 = .ok (.iastore, 1) := by decide +kernel
theorem dX7_record_79 : decode cX7_record 79 = .ok (.iinc 1 1, 3) := by decide +kernel
theorem dX7_record_82 : decode cX7_record 82 = .ok (.goto (-31), 3) := by decide +kernel
theorem dX7_record_85 : decode cX7_record 85 = .ok (.aload_n 0, 1) := by decide +kernel
theorem dX7_record_86 : decode cX7_record 86 = .ok (.dup, 1) := by decide +kernel
theorem dX7_record_87 : decode cX7_record 87 = .ok (.getfield 29, 3) := by decide +kernel
theorem dX7_record_90 : decode cX7_record 90 = .ok (.iconst 1, 1) := by decide +kernel
theorem dX7_record_91 : decode cX7_record 91 = .ok (.iadd, 1) := by decide +kernel
theorem dX7_record_92 : decode cX7_record 92 = .ok (.putfield 29, 3) := by decide +kernel
theorem dX7_record_95 : decode cX7_record 95 = .ok (.return_, 1) := by decide +kernel
theorem dX7_undo_0 : decode cX7_undo 0 = .ok (.aload_n 0, 1) := by decide +kernel
theorem dX7_undo_1 : decode cX7_undo 1 = .ok (.getfield 29, 3) := by decide +kernel
theorem dX7_undo_4 : decode cX7_undo 4 = .ok (.ifCond .ne 6, 3) := by decide +kernel
theorem dX7_undo_7 : decode cX7_undo 7 = .ok (.bipush (-3), 2) := by decide +kernel
theorem dX7_undo_9 : decode cX7_undo 9 = .ok (.ireturn, 1) := by decide +kernel
theorem dX7_undo_10 : decode cX7_undo 10 = .ok (.aload_n 0, 1) := by decide +kernel
theorem dX7_undo_11 : decode cX7_undo 11 = .ok (.dup, 1) := by decide +kernel
theorem dX7_undo_12 : decode cX7_undo 12 = .ok (.getfield 29, 3) := by decide +kernel
theorem dX7_undo_15 : decode cX7_undo 15 = .ok (.iconst 1, 1) := by decide +kernel
theorem dX7_undo_16 : decode cX7_undo 16 = .ok (.isub, 1) := by decide +kernel
theorem dX7_undo_17 : decode cX7_undo 17 = .ok (.putfield 29, 3) := by decide +kernel
theorem dX7_undo_20 : decode cX7_undo 20 = .ok (.iconst 0, 1) := by decide +kernel
theorem dX7_undo_21 : decode cX7_undo 21 = .ok (.istore_n 1, 1) := by decide +kernel
theorem dX7_undo_22 : decode cX7_undo 22 = .ok (.iload_n 1, 1) := by decide +kernel
theorem dX7_undo_23 : decode cX7_undo 23 = .ok (.sipush 370, 3) := by decide +kernel
theorem dX7_undo_26 : decode cX7_undo 26 = .ok (.if_icmp .ge 30, 3) := by decide +kernel
theorem dX7_undo_29 : decode cX7_undo 29 = .ok (.aload_n 0, 1) := by decide +kernel
theorem dX7_undo_30 : decode cX7_undo 30 = .ok (.getfield 7, 3) := by decide +kernel
theorem dX7_undo_33 : decode cX7_undo 33 = .ok (.iload_n 1, 1) := by decide +kernel
theorem dX7_undo_34 : decode cX7_undo 34 = .ok (.aload_n 0, 1) := by decide +kernel
theorem dX7_undo_35 : decode cX7_undo 35 = .ok (.getfield 13, 3) := by decide +kernel
theorem dX7_undo_38 : decode cX7_undo 38 = .ok (.aload_n 0, 1) := by decide +kernel
theorem dX7_undo_39 : decode cX7_undo 39 = .ok (.getfield 29, 3) := by decide +kernel
theorem dX7_undo_42 : decode cX7_undo 42 = .ok (.sipush 370, 3) := by decide +kernel
theorem dX7_undo_45 : decode cX7_undo 45 = .ok (.imul, 1) := by decide +kernel
theorem dX7_undo_46 : decode cX7_undo 46 = .ok (.iload_n 1, 1) := by decide +kernel
theorem dX7_undo_47 : decode cX7_undo 47 = .ok (.iadd, 1) := by decide +kernel
theorem dX7_undo_48 : decode cX7_undo 48 = .ok (.iaload, 1) := by decide +kernel
theorem dX7_undo_49 : decode cX7_undo 49 = .ok (.iastore, 1) := by decide +kernel
theorem dX7_undo_50 : decode cX7_undo 50 = .ok (.iinc 1 1, 3) := by decide +kernel
theorem dX7_undo_53 : decode cX7_undo 53 = .ok (.goto (-31), 3) := by decide +kernel
theorem dX7_undo_56 : decode cX7_undo 56 = .ok (.aload_n 0, 1) := by decide +kernel
theorem dX7_undo_57 : decode cX7_undo 57 = .ok (.getfield 29, 3) := by decide +kernel
theorem dX7_undo_60 : decode cX7_undo 60 = .ok (.ireturn, 1) := by decide +kernel
theorem dX7_save_0 : decode cX7_save 0 = .ok (.aload_n 0, 1) := by decide +kernel
theorem dX7_save_1 : decode cX7_save 1 = .ok (.iconst 1, 1) := by decide +kernel
theorem dX7_save_2 : decode cX7_save 2 = .ok (.putfield 33, 3) := by decide +kernel
theorem dX7_save_5 : decode cX7_save 5 = .ok (.iconst 0, 1) := by decide +kernel
theorem dX7_save_6 : decode cX7_save 6 = .ok (.istore_n 1, 1) := by decide +kernel
theorem dX7_save_7 : decode cX7_save 7 = .ok (.iload_n 1, 1) := by decide +kernel
theorem dX7_save_8 : decode cX7_save 8 = .ok (.sipush 370, 3) := by decide +kernel
theorem dX7_save_11 : decode cX7_save 11 = .ok (.if_icmp .ge 21, 3) := by decide +kernel
theorem dX7_save_14 : decode cX7_save 14 = .ok (.aload_n 0, 1) := by decide +kernel
theorem dX7_save_15 : decode cX7_save 15 = .ok (.getfield 16, 3) := by decide +kernel
theorem dX7_save_18 : decode cX7_save 18 = .ok (.iload_n 1, 1) := by decide +kernel
theorem dX7_save_19 : decode cX7_save 19 = .ok (.aload_n 0, 1) := by decide +kernel
theorem dX7_save_20 : decode cX7_save 20 = .ok (.getfield 7, 3) := by decide +kernel
theorem dX7_save_23 : decode cX7_save 23 = .ok (.iload_n 1, 1) := by decide +kernel
theorem dX7_save_24 : decode cX7_save 24 = .ok (.iaload, 1) := by decide +kernel
theorem dX7_save_25 : decode cX7_save 25 = .ok (.iastore, 1) := by decide +kernel
theorem dX7_save_26 : decode cX7_save 26 = .ok (.iinc 1 1, 3) := by decide +kernel
theorem dX7_save_29 : decode cX7_save 29 = .ok (.goto (-22), 3) := by decide +kernel
theorem dX7_save_32 : decode cX7_save 32 = .ok (.aload_n 0, 1) := by decide +kernel
theorem dX7_save_33 : decode cX7_save 33 = .ok (.getfield 7, 3) := by decide +kernel
theorem dX7_save_36 : decode cX7_save 36 = .ok (.iconst 3, 1) := by decide +kernel
theorem dX7_save_37 : decode cX7_save 37 = .ok (.iaload, 1) := by decide +kernel
theorem dX7_save_38 : decode cX7_save 38 = .ok (.ireturn, 1) := by decide +kernel
set_option maxRecDepth 20000 in
theorem ggX7_restore_X7_record : GoodIn wsX7_restore wsX7_record := goodIn_r _ [8, 9, 10, 2, 11, 12, 13, 14, 15, 16, 17, 18, 19, 20, 21, 22] (by decide +kernel) (by decide +kernel)
set_option maxRecDepth 20000 in
theorem gX7_restore_X7_record : GoodIn wsX7_restore (wsV RX7 37 RX7 yX7_record wsX7_record) := goodIn_app (goodIn_of _ (by decide +kernel)) ggX7_restore_X7_record
theorem dX7_restore_0 : decode cX7_restore 0 = .ok (.aload_n 0, 1) := by decide +kernel
theorem dX7_restore_1 : decode cX7_restore 1 = .ok (.getfield 33, 3) := by decide +kernel
theorem dX7_restore_4 : decode cX7_restore 4 = .ok (.ifCond .ne 6, 3) := by decide +kernel
theorem dX7_restore_7 : decode cX7_restore 7 = .ok (.bipush (-3), 2) := by decide +kernel
theorem dX7_restore_9 : decode cX7_restore 9 = .ok (.ireturn, 1) := by decide +kernel
theorem dX7_restore_10 : decode cX7_restore 10 = .ok (.aload_n 0, 1) := by decide +kernel
theorem dX7_restore_11 : decode cX7_restore 11 = .ok (.invokevirtual 37, 3) := by decide +kernel
theorem dX7_restore_14 : decode cX7_restore 14 = .ok (.iconst 0, 1) := by decide +kernel
theorem dX7_restore_15 : decode cX7_restore 15 = .ok (.istore_n 1, 1) := by decide +kernel
theorem dX7_restore_16 : decode cX7_restore 16 = .ok (.iload_n 1, 1) := by decide +kernel
theorem dX7_restore_17 : decode cX7_restore 17 = .ok (.sipush 370, 3) := by decide +kernel
theorem dX7_restore_20 : decode cX7_restore 20 = .ok (.if_icmp .ge 21, 3) := by decide +kernel
theorem dX7_restore_23 : decode cX7_restore 23 = .ok (.aload_n 0, 1) := by decide +kernel
theorem dX7_restore_24 : decode cX7_restore 24 = .ok (.getfield 7, 3) := by decide +kernel
theorem dX7_restore_27 : decode cX7_restore 27 = .ok (.iload_n 1, 1) := by decide +kernel
theorem dX7_restore_28 : decode cX7_restore 28 = .ok (.aload_n 0, 1) := by decide +kernel
theorem dX7_restore_29 : decode cX7_restore 29 = .ok (.getfield 16, 3) := by decide +kernel
theorem dX7_restore_32 : decode cX7_restore 32 = .ok (.iload_n 1, 1) := by decide +kernel
theorem dX7_restore_33 : decode cX7_restore 33 = .ok (.iaload, 1) := by decide +kernel
theorem dX7_restore_34 : decode cX7_restore 34 = .ok (.iastore, 1) := by decide +kernel
theorem dX7_restore_35 : decode cX7_restore 35 = .ok (.iinc 1 1, 3) := by decide +kernel
theorem dX7_restore_38 : decode cX7_restore 38 = .ok (.goto (-22), 3) := by decide +kernel
theorem dX7_restore_41 : decode cX7_restore 41 = .ok (.aload_n 0, 1) := by decide +kernel
theorem dX7_restore_42 : decode cX7_restore 42 = .ok (.getfield 7, 3) := by decide +kernel
theorem dX7_restore_45 : decode cX7_restore 45 = .ok (.iconst 3, 1) := by decide +kernel
theorem dX7_restore_46 : decode cX7_restore 46 = .ok (.iaload, 1) := by decide +kernel
theorem dX7_restore_47 : decode cX7_restore 47 = .ok (.ireturn, 1) := by decide +kernel
theorem dX7_place_0 : decode cX7_place 0 = .ok (.aload_n 0, 1) := by decide +kernel
theorem dX7_place_1 : decode cX7_place 1 = .ok (.getfield 7, 3) := by decide +kernel
theorem dX7_place_4 : decode cX7_place 4 = .ok (.sipush 250, 3) := by decide +kernel
theorem dX7_place_7 : decode cX7_place 7 = .ok (.iload_n 1, 1) := by decide +kernel
theorem dX7_place_8 : decode cX7_place 8 = .ok (.iadd, 1) := by decide +kernel
theorem dX7_place_9 : decode cX7_place 9 = .ok (.iaload, 1) := by decide +kernel
theorem dX7_place_10 : decode cX7_place 10 = .ok (.ireturn, 1) := by decide +kernel
set_option maxRecDepth 20000 in
theorem ggX7_rowsAt_X7_place : GoodIn wsX7_rowsAt wsX7_place := goodIn_r _ [6, 1, 7, 8, 9, 10, 11, 12, 13, 14, 15, 16, 17, 18] (by decide +kernel) (by decide +kernel)
set_option maxRecDepth 20000 in
theorem gX7_rowsAt_X7_place : GoodIn wsX7_rowsAt (wsV RX7 40 RX7 yX7_place wsX7_place) := goodIn_app (goodIn_of _ (by decide +kernel)) ggX7_rowsAt_X7_place
theorem dX7_rowsAt_0 : decode cX7_rowsAt 0 = .ok (.iconst 0, 1) := by decide +kernel
theorem dX7_rowsAt_1 : decode cX7_rowsAt 1 = .ok (.istore_n 2, 1) := by decide +kernel
theorem dX7_rowsAt_2 : decode cX7_rowsAt 2 = .ok (.iconst 0, 1) := by decide +kernel
theorem dX7_rowsAt_3 : decode cX7_rowsAt 3 = .ok (.istore_n 3, 1) := by decide +kernel
theorem dX7_rowsAt_4 : decode cX7_rowsAt 4 = .ok (.iload_n 3, 1) := by decide +kernel
theorem dX7_rowsAt_5 : decode cX7_rowsAt 5 = .ok (.aload_n 0, 1) := by decide +kernel
theorem dX7_rowsAt_6 : decode cX7_rowsAt 6 = .ok (.getfield 7, 3) := by decide +kernel
theorem dX7_rowsAt_9 : decode cX7_rowsAt 9 = .ok (.iconst 3, 1) := by decide +kernel
theorem dX7_rowsAt_10 : decode cX7_rowsAt 10 = .ok (.iaload, 1) := by decide +kernel
theorem dX7_rowsAt_11 : decode cX7_rowsAt 11 = .ok (.if_icmp .ge 26, 3) := by decide +kernel
theorem dX7_rowsAt_14 : decode cX7_rowsAt 14 = .ok (.iload_n 2, 1) := by decide +kernel
theorem dX7_rowsAt_15 : decode cX7_rowsAt 15 = .ok (.aload_n 0, 1) := by decide +kernel
theorem dX7_rowsAt_16 : decode cX7_rowsAt 16 = .ok (.iload_n 3, 1) := by decide +kernel
theorem dX7_rowsAt_17 : decode cX7_rowsAt 17 = .ok (.invokevirtual 40, 3) := by decide +kernel
theorem dX7_rowsAt_20 : decode cX7_rowsAt 20 = .ok (.iload_n 1, 1) := by decide +kernel
theorem dX7_rowsAt_21 : decode cX7_rowsAt 21 = .ok (.if_icmp .ne 7, 3) := by decide +kernel
theorem dX7_rowsAt_24 : decode cX7_rowsAt 24 = .ok (.iconst 1, 1) := by decide +kernel
theorem dX7_rowsAt_25 : decode cX7_rowsAt 25 = .ok (.goto 4, 3) := by decide +kernel
theorem dX7_rowsAt_28 : decode cX7_rowsAt 28 = .ok (.iconst 0, 1) := by decide +kernel
theorem dX7_rowsAt_29 : decode cX7_rowsAt 29 = .ok (.iadd, 1) := by decide +kernel
theorem dX7_rowsAt_30 : decode cX7_rowsAt 30 = .ok (.istore_n 2, 1) := by decide +kernel
theorem dX7_rowsAt_31 : decode cX7_rowsAt 31 = .ok (.iinc 3 1, 3) := by decide +kernel
theorem dX7_rowsAt_34 : decode cX7_rowsAt 34 = .ok (.goto (-30), 3) := by decide +kernel
theorem dX7_rowsAt_37 : decode cX7_rowsAt 37 = .ok (.iload_n 2, 1) := by decide +kernel
theorem dX7_rowsAt_38 : decode cX7_rowsAt 38 = .ok (.ireturn, 1) := by decide +kernel
set_option maxRecDepth 20000 in
theorem ggX7_isRun_X7_in : GoodIn wsX7_isRun wsX7_in := goodIn_r _ [5] (by decide +kernel) (by decide +kernel)
set_option maxRecDepth 20000 in
theorem gX7_isRun_X7_in : GoodIn wsX7_isRun (va_wsS RX7 44 yX7_in wsX7_in) := goodIn_app (goodIn_of _ (by decide +kernel)) ggX7_isRun_X7_in
set_option maxRecDepth 20000 in
theorem ggX7_isRun_X7_rowsAt : GoodIn wsX7_isRun wsX7_rowsAt := goodIn_r _ [9, 1, 10, 11, 12, 4, 13, 14, 15, 16, 17, 18, 19, 20, 21, 22, 23, 24, 25] (by decide +kernel) (by decide +kernel)
set_option maxRecDepth 20000 in
theorem gX7_isRun_X7_rowsAt : GoodIn wsX7_isRun (wsV RX7 48 RX7 yX7_rowsAt wsX7_rowsAt) := goodIn_app (goodIn_of _ (by decide +kernel)) ggX7_isRun_X7_rowsAt
theorem dX7_isRun_0 : decode cX7_isRun 0 = .ok (.iload_n 1, 1) := by decide +kernel
theorem dX7_isRun_1 : decode cX7_isRun 1 = .ok (.iconst 0, 1) := by decide +kernel
theorem dX7_isRun_2 : decode cX7_isRun 2 = .ok (.aload_n 0, 1) := by decide +kernel
theorem dX7_isRun_3 : decode cX7_isRun 3 = .ok (.getfield 7, 3) := by decide +kernel
theorem dX7_isRun_6 : decode cX7_isRun 6 = .ok (.iconst 4, 1) := by decide +kernel
theorem dX7_isRun_7 : decode cX7_isRun 7 = .ok (.iaload, 1) := by decide +kernel
theorem dX7_isRun_8 : decode cX7_isRun 8 = .ok (.iconst 1, 1) := by decide +kernel
theorem dX7_isRun_9 : decode cX7_isRun 9 = .ok (.isub, 1) := by decide +kernel
theorem dX7_isRun_10 : decode cX7_isRun 10 = .ok (.invokestatic 44, 3) := by decide +kernel
theorem dX7_isRun_13 : decode cX7_isRun 13 = .ok (.ifCond .eq 20, 3) := by decide +kernel
theorem dX7_isRun_16 : decode cX7_isRun 16 = .ok (.aload_n 0, 1) := by decide +kernel
theorem dX7_isRun_17 : decode cX7_isRun 17 = .ok (.bipush 10, 2) := by decide +kernel
theorem dX7_isRun_19 : decode cX7_isRun 19 = .ok (.iconst 2, 1) := by decide +kernel
theorem dX7_isRun_20 : decode cX7_isRun 20 = .ok (.iload_n 1, 1) := by decide +kernel
theorem dX7_isRun_21 : decode cX7_isRun 21 = .ok (.imul, 1) := by decide +kernel
theorem dX7_isRun_22 : decode cX7_isRun 22 = .ok (.iadd, 1) := by decide +kernel
theorem dX7_isRun_23 : decode cX7_isRun 23 = .ok (.invokevirtual 48, 3) := by decide +kernel
theorem dX7_isRun_26 : decode cX7_isRun 26 = .ok (.ifCond .le 7, 3) := by decide +kernel
theorem dX7_isRun_29 : decode cX7_isRun 29 = .ok (.iconst 1, 1) := by decide +kernel
theorem dX7_isRun_30 : decode cX7_isRun 30 = .ok (.goto 4, 3) := by decide +kernel
theorem dX7_isRun_33 : decode cX7_isRun 33 = .ok (.iconst 0, 1) := by decide +kernel
theorem dX7_isRun_34 : decode cX7_isRun 34 = .ok (.ireturn, 1) := by decide +kernel
set_option maxRecDepth 20000 in
theorem ggX7_nextPlace_X7_place : GoodIn wsX7_nextPlace wsX7_place := goodIn_r _ [6, 1, 7, 8, 9, 10, 11, 12, 13, 14, 15, 16, 17, 18] (by decide +kernel) (by decide +kernel)
set_option maxRecDepth 20000 in
theorem gX7_nextPlace_X7_place : GoodIn wsX7_nextPlace (wsV RX7 40 RX7 yX7_place wsX7_place) := goodIn_app (goodIn_of _ (by decide +kernel)) ggX7_nextPlace_X7_place
theorem dX7_nextPlace_0 : decode cX7_nextPlace 0 = .ok (.bipush (-6), 2) := by decide +kernel
theorem dX7_nextPlace_2 : decode cX7_nextPlace 2 = .ok (.istore_n 3, 1) := by decide +kernel
theorem dX7_nextPlace_3 : decode cX7_nextPlace 3 = .ok (.iconst 0, 1) := by decide +kernel
theorem dX7_nextPlace_4 : decode cX7_nextPlace 4 = .ok (.istore 4, 2) := by decide +kernel
theorem dX7_nextPlace_6 : decode cX7_nextPlace 6 = .ok (.iload 4, 2) := by decide +kernel
theorem dX7_nextPlace_8 : decode cX7_nextPlace 8 = .ok (.aload_n 0, 1) := by decide +kernel
theorem dX7_nextPlace_9 : decode cX7_nextPlace 9 = .ok (.getfield 7, 3) := by decide +kernel
theorem dX7_nextPlace_12 : decode cX7_nextPlace 12 = .ok (.iconst 3, 1) := by decide +kernel
theorem dX7_nextPlace_13 : decode cX7_nextPlace 13 = .ok (.iaload, 1) := by decide +kernel
theorem dX7_nextPlace_14 : decode cX7_nextPlace 14 = .ok (.if_icmp .ge 57, 3) := by decide +kernel
theorem dX7_nextPlace_17 : decode cX7_nextPlace 17 = .ok (.aload_n 0, 1) := by decide +kernel
theorem dX7_nextPlace_18 : decode cX7_nextPlace 18 = .ok (.iload 4, 2) := by decide +kernel
theorem dX7_nextPlace_20 : decode cX7_nextPlace 20 = .ok (.invokevirtual 40, 3) := by decide +kernel
theorem dX7_nextPlace_23 : decode cX7_nextPlace 23 = .ok (.istore 5, 2) := by decide +kernel
theorem dX7_nextPlace_25 : decode cX7_nextPlace 25 = .ok (.iload 5, 2) := by decide +kernel
theorem dX7_nextPlace_27 : decode cX7_nextPlace 27 = .ok (.bipush 10, 2) := by decide +kernel
theorem dX7_nextPlace_29 : decode cX7_nextPlace 29 = .ok (.if_icmp .lt 34, 3) := by decide +kernel
theorem dX7_nextPlace_32 : decode cX7_nextPlace 32 = .ok (.iload 5, 2) := by decide +kernel
theorem dX7_nextPlace_34 : decode cX7_nextPlace 34 = .ok (.iload_n 1, 1) := by decide +kernel
theorem dX7_nextPlace_35 : decode cX7_nextPlace 35 = .ok (.if_icmp .le 28, 3) := by decide +kernel
theorem dX7_nextPlace_38 : decode cX7_nextPlace 38 = .ok (.iload 5, 2) := by decide +kernel
theorem dX7_nextPlace_40 : decode cX7_nextPlace 40 = .ok (.iconst 2, 1) := by decide +kernel
theorem dX7_nextPlace_41 : decode cX7_nextPlace 41 = .ok (.irem, 1) := by decide +kernel
theorem dX7_nextPlace_42 : decode cX7_nextPlace 42 = .ok (.iload_n 2, 1) := by decide +kernel
theorem dX7_nextPlace_43 : decode cX7_nextPlace 43 = .ok (.if_icmp .ne 20, 3) := by decide +kernel
theorem dX7_nextPlace_46 : decode cX7_nextPlace 46 = .ok (.iload_n 3, 1) := by decide +kernel
theorem dX7_nextPlace_47 : decode cX7_nextPlace 47 = .ok (.bipush (-6), 2) := by decide +kernel
theorem dX7_nextPlace_49 : decode cX7_nextPlace 49 = .ok (.if_icmp .eq 9, 3) := by decide +kernel
theorem dX7_nextPlace_52 : decode cX7_nextPlace 52 = .ok (.iload 5, 2) := by decide +kernel
theorem dX7_nextPlace_54 : decode cX7_nextPlace 54 = .ok (.iload_n 3, 1) := by decide +kernel
theorem dX7_nextPlace_55 : decode cX7_nextPlace 55 = .ok (.if_icmp .ge 8, 3) := by decide +kernel
theorem dX7_nextPlace_58 : decode cX7_nextPlace 58 = .ok (.iload 5, 2) := by decide +kernel
theorem dX7_nextPlace_60 : decode cX7_nextPlace 60 = .ok (.goto 4, 3) := by decide +kernel
theorem dX7_nextPlace_63 : decode cX7_nextPlace 63 = .ok (.iload_n 3, 1) := by decide +kernel
theorem dX7_nextPlace_64 : decode cX7_nextPlace 64 = .ok (.istore_n 3, 1) := by decide +kernel
theorem dX7_nextPlace_65 : decode cX7_nextPlace 65 = .ok (.iinc 4 1, 3) := by decide +kernel
theorem dX7_nextPlace_68 : decode cX7_nextPlace 68 = .ok (.goto (-62), 3) := by decide +kernel
theorem dX7_nextPlace_71 : decode cX7_nextPlace 71 = .ok (.iload_n 3, 1) := by decide +kernel
theorem dX7_nextPlace_72 : decode cX7_nextPlace 72 = .ok (.ireturn, 1) := by decide +kernel
set_option maxRecDepth 20000 in
theorem ggX7_many_X7_nextPlace : GoodIn wsX7_many wsX7_nextPlace := goodIn_r _ [5, 6, 7, 8, 9, 4, 10, 11, 12, 13, 14, 15, 16, 17, 18, 19, 20, 21, 22] (by decide +kernel) (by decide +kernel)
set_option maxRecDepth 20000 in
theorem gX7_many_X7_nextPlace : GoodIn wsX7_many (wsV RX7 51 RX7 yX7_nextPlace wsX7_nextPlace) := goodIn_app (goodIn_of _ (by decide +kernel)) ggX7_many_X7_nextPlace
theorem dX7_many_0 : decode cX7_many 0 = .ok (.iconst 0, 1) := by decide +kernel
theorem dX7_many_1 : decode cX7_many 1 = .ok (.istore_n 2, 1) := by decide +kernel
theorem dX7_many_2 : decode cX7_many 2 = .ok (.aload_n 0, 1) := by decide +kernel
theorem dX7_many_3 : decode cX7_many 3 = .ok (.iconst 0, 1) := by decide +kernel
theorem dX7_many_4 : decode cX7_many 4 = .ok (.iload_n 1, 1) := by decide +kernel
theorem dX7_many_5 : decode cX7_many 5 = .ok (.invokevirtual 51, 3) := by decide +kernel
theorem dX7_many_8 : decode cX7_many 8 = .ok (.istore_n 3, 1) := by decide +kernel
theorem dX7_many_9 : decode cX7_many 9 = .ok (.iload_n 3, 1) := by decide +kernel
theorem dX7_many_10 : decode cX7_many 10 = .ok (.bipush (-6), 2) := by decide +kernel
theorem dX7_many_12 : decode cX7_many 12 = .ok (.if_icmp .eq 16, 3) := by decide +kernel
theorem dX7_many_15 : decode cX7_many 15 = .ok (.iinc 2 1, 3) := by decide +kernel
theorem dX7_many_18 : decode cX7_many 18 = .ok (.aload_n 0, 1) := by decide +kernel
theorem dX7_many_19 : decode cX7_many 19 = .ok (.iload_n 3, 1) := by decide +kernel
theorem dX7_many_20 : decode cX7_many 20 = .ok (.iload_n 1, 1) := by decide +kernel
theorem dX7_many_21 : decode cX7_many 21 = .ok (.invokevirtual 51, 3) := by decide +kernel
theorem dX7_many_24 : decode cX7_many 24 = .ok (.istore_n 3, 1) := by decide +kernel
theorem dX7_many_25 : decode cX7_many 25 = .ok (.goto (-16), 3) := by decide +kernel
theorem dX7_many_28 : decode cX7_many 28 = .ok (.iload_n 2, 1) := by decide +kernel
theorem dX7_many_29 : decode cX7_many 29 = .ok (.ireturn, 1) := by decide +kernel
set_option maxRecDepth 20000 in
theorem ggX7_runMany_X7_many : GoodIn wsX7_runMany wsX7_many := goodIn_r _ [5, 6, 7, 8, 4, 9, 10, 11, 12, 13, 14, 15, 16, 17, 18, 19, 20, 21, 22, 23, 24, 25, 26] (by decide +kernel) (by decide +kernel)
set_option maxRecDepth 20000 in
theorem gX7_runMany_X7_many : GoodIn wsX7_runMany (wsV RX7 55 RX7 yX7_many wsX7_many) := goodIn_app (goodIn_of _ (by decide +kernel)) ggX7_runMany_X7_many
theorem dX7_runMany_0 : decode cX7_runMany 0 = .ok (.aload_n 0, 1) := by decide +kernel
theorem dX7_runMany_1 : decode cX7_runMany 1 = .ok (.iconst 0, 1) := by decide +kernel
theorem dX7_runMany_2 : decode cX7_runMany 2 = .ok (.invokevirtual 55, 3) := by decide +kernel
theorem dX7_runMany_5 : decode cX7_runMany 5 = .ok (.ireturn, 1) := by decide +kernel
set_option maxRecDepth 20000 in
theorem ggX7_becomesRun_X7_place : GoodIn wsX7_becomesRun wsX7_place := goodIn_r _ [6, 1, 7, 8, 9, 10, 11, 12, 13, 14, 15, 16, 17, 18] (by decide +kernel) (by decide +kernel)
set_option maxRecDepth 20000 in
theorem gX7_becomesRun_X7_place : GoodIn wsX7_becomesRun (wsV RX7 40 RX7 yX7_place wsX7_place) := goodIn_app (goodIn_of _ (by decide +kernel)) ggX7_becomesRun_X7_place
theorem dX7_becomesRun_0 : decode cX7_becomesRun 0 = .ok (.iconst 0, 1) := by decide +kernel
theorem dX7_becomesRun_1 : decode cX7_becomesRun 1 = .ok (.istore_n 2, 1) := by decide +kernel
theorem dX7_becomesRun_2 : decode cX7_becomesRun 2 = .ok (.iload_n 2, 1) := by decide +kernel
theorem dX7_becomesRun_3 : decode cX7_becomesRun 3 = .ok (.aload_n 0, 1) := by decide +kernel
theorem dX7_becomesRun_4 : decode cX7_becomesRun 4 = .ok (.getfield 7, 3) := by decide +kernel
theorem dX7_becomesRun_7 : decode cX7_becomesRun 7 = .ok (.iconst 3, 1) := by decide +kernel
theorem dX7_becomesRun_8 : decode cX7_becomesRun 8 = .ok (.iaload, 1) := by decide +kernel
theorem dX7_becomesRun_9 : decode cX7_becomesRun 9 = .ok (.if_icmp .ge 47, 3) := by decide +kernel
theorem dX7_becomesRun_12 : decode cX7_becomesRun 12 = .ok (.aload_n 0, 1) := by decide +kernel
theorem dX7_becomesRun_13 : decode cX7_becomesRun 13 = .ok (.getfield 7, 3) := by decide +kernel
theorem dX7_becomesRun_16 : decode cX7_becomesRun 16 = .ok (.sipush 250, 3) := by decide +kernel
theorem dX7_becomesRun_19 : decode cX7_becomesRun 19 = .ok (.iload_n 2, 1) := by decide +kernel
theorem dX7_becomesRun_20 : decode cX7_becomesRun 20 = .ok (.iadd, 1) := by decide +kernel
theorem dX7_becomesRun_21 : decode cX7_becomesRun 21 = .ok (.aload_n 0, 1) := by decide +kernel
theorem dX7_becomesRun_22 : decode cX7_becomesRun 22 = .ok (.iload_n 2, 1) := by decide +kernel
theorem dX7_becomesRun_23 : decode cX7_becomesRun 23 = .ok (.invokevirtual 40, 3) := by decide +kernel
theorem dX7_becomesRun_26 : decode cX7_becomesRun 26 = .ok (.iload_n 1, 1) := by decide +kernel
theorem dX7_becomesRun_27 : decode cX7_becomesRun 27 = .ok (.if_icmp .ne 17, 3) := by decide +kernel
theorem dX7_becomesRun_30 : decode cX7_becomesRun 30 = .ok (.bipush 10, 2) := by decide +kernel
theorem dX7_becomesRun_32 : decode cX7_becomesRun 32 = .ok (.iconst 2, 1) := by decide +kernel
theorem dX7_becomesRun_33 : decode cX7_becomesRun 33 = .ok (.aload_n 0, 1) := by decide +kernel
theorem dX7_becomesRun_34 : decode cX7_becomesRun 34 = .ok (.getfield 7, 3) := by decide +kernel
theorem dX7_becomesRun_37 : decode cX7_becomesRun 37 = .ok (.iconst 4, 1) := by decide +kernel
theorem dX7_becomesRun_38 : decode cX7_becomesRun 38 = .ok (.iaload, 1) := by decide +kernel
theorem dX7_becomesRun_39 : decode cX7_becomesRun 39 = .ok (.imul, 1) := by decide +kernel
theorem dX7_becomesRun_40 : decode cX7_becomesRun 40 = .ok (.iadd, 1) := by decide +kernel
theorem dX7_becomesRun_41 : decode cX7_becomesRun 41 = .ok (.goto 8, 3) := by decide +kernel
theorem dX7_becomesRun_44 : decode cX7_becomesRun 44 = .ok (.aload_n 0, 1) := by decide +kernel
theorem dX7_becomesRun_45 : decode cX7_becomesRun 45 = .ok (.iload_n 2, 1) := by decide +kernel
theorem dX7_becomesRun_46 : decode cX7_becomesRun 46 = .ok (.invokevirtual 40, 3) := by decide +kernel
theorem dX7_becomesRun_49 : decode cX7_becomesRun 49 = .ok (.iastore, 1) := by decide +kernel
theorem dX7_becomesRun_50 : decode cX7_becomesRun 50 = .ok (.iinc 2 1, 3) := by decide +kernel
theorem dX7_becomesRun_53 : decode cX7_becomesRun 53 = .ok (.goto (-51), 3) := by decide +kernel
theorem dX7_becomesRun_56 : decode cX7_becomesRun 56 = .ok (.aload_n 0, 1) := by decide +kernel
theorem dX7_becomesRun_57 : decode cX7_becomesRun 57 = .ok (.getfield 7, 3) := by decide +kernel
theorem dX7_becomesRun_60 : decode cX7_becomesRun 60 = .ok (.iconst 4, 1) := by decide +kernel
theorem dX7_becomesRun_61 : decode cX7_becomesRun 61 = .ok (.dup2, 1) := by decide +kernel
theorem dX7_becomesRun_62 : decode cX7_becomesRun 62 = .ok (.iaload, 1) := by decide +kernel
theorem dX7_becomesRun_63 : decode cX7_becomesRun 63 = .ok (.iconst 1, 1) := by decide +kernel
theorem dX7_becomesRun_64 : decode cX7_becomesRun 64 = .ok (.iadd, 1) := by decide +kernel
theorem dX7_becomesRun_65 : decode cX7_becomesRun 65 = .ok (.iastore, 1) := by decide +kernel
theorem dX7_becomesRun_66 : decode cX7_becomesRun 66 = .ok (.aload_n 0, 1) := by decide +kernel
theorem dX7_becomesRun_67 : decode cX7_becomesRun 67 = .ok (.getfield 7, 3) := by decide +kernel
theorem dX7_becomesRun_70 : decode cX7_becomesRun 70 = .ok (.iconst 4, 1) := by decide +kernel
theorem dX7_becomesRun_71 : decode cX7_becomesRun 71 = .ok (.iaload, 1) := by decide +kernel
theorem dX7_becomesRun_72 : decode cX7_becomesRun 72 = .ok (.iconst 1, 1) := by decide +kernel
theorem dX7_becomesRun_73 : decode cX7_becomesRun 73 = .ok (.isub, 1) := by decide +kernel
theorem dX7_becomesRun_74 : decode cX7_becomesRun 74 = .ok (.ireturn, 1) := by decide +kernel
set_option maxRecDepth 20000 in
theorem ggX7_writes_X7_rowsAt : GoodIn wsX7_writes wsX7_rowsAt := goodIn_r _ [6, 1, 7, 8, 9, 5, 10, 15, 16, 17, 18, 19, 20, 21, 22, 23, 24, 25, 26] (by decide +kernel) (by decide +kernel)
set_option maxRecDepth 20000 in
theorem gX7_writes_X7_rowsAt : GoodIn wsX7_writes (wsV RX7 48 RX7 yX7_rowsAt wsX7_rowsAt) := goodIn_app (goodIn_of _ (by decide +kernel)) ggX7_writes_X7_rowsAt
set_option maxRecDepth 20000 in
theorem ggX7_writes_X7_becomesRun : GoodIn wsX7_writes wsX7_becomesRun := goodIn_r _ [14, 1, 7, 8, 9, 5, 10, 15, 16, 17, 18, 19, 20, 21, 22, 23, 24, 25, 26] (by decide +kernel) (by decide +kernel)
set_option maxRecDepth 20000 in
theorem gX7_writes_X7_becomesRun : GoodIn wsX7_writes (wsV RX7 58 RX7 yX7_becomesRun wsX7_becomesRun) := goodIn_app (goodIn_of _ (by decide +kernel)) ggX7_writes_X7_becomesRun
theorem dX7_writes_0 : decode cX7_writes 0 = .ok (.aload_n 0, 1) := by decide +kernel
theorem dX7_writes_1 : decode cX7_writes 1 = .ok (.iconst 1, 1) := by decide +kernel
theorem dX7_writes_2 : decode cX7_writes 2 = .ok (.invokevirtual 48, 3) := by decide +kernel
theorem dX7_writes_5 : decode cX7_writes 5 = .ok (.istore_n 1, 1) := by decide +kernel
theorem dX7_writes_6 : decode cX7_writes 6 = .ok (.iload_n 1, 1) := by decide +kernel
theorem dX7_writes_7 : decode cX7_writes 7 = .ok (.ifCond .ne 6, 3) := by decide +kernel
theorem dX7_writes_10 : decode cX7_writes 10 = .ok (.bipush (-6), 2) := by decide +kernel
theorem dX7_writes_12 : decode cX7_writes 12 = .ok (.ireturn, 1) := by decide +kernel
theorem dX7_writes_13 : decode cX7_writes 13 = .ok (.aload_n 0, 1) := by decide +kernel
theorem dX7_writes_14 : decode cX7_writes 14 = .ok (.getfield 7, 3) := by decide +kernel
theorem dX7_writes_17 : decode cX7_writes 17 = .ok (.bipush 7, 2) := by decide +kernel
theorem dX7_writes_19 : decode cX7_writes 19 = .ok (.dup2, 1) := by decide +kernel
theorem dX7_writes_20 : decode cX7_writes 20 = .ok (.iaload, 1) := by decide +kernel
theorem dX7_writes_21 : decode cX7_writes 21 = .ok (.iload_n 1, 1) := by decide +kernel
theorem dX7_writes_22 : decode cX7_writes 22 = .ok (.iadd, 1) := by decide +kernel
theorem dX7_writes_23 : decode cX7_writes 23 = .ok (.iastore, 1) := by decide +kernel
theorem dX7_writes_24 : decode cX7_writes 24 = .ok (.aload_n 0, 1) := by decide +kernel
theorem dX7_writes_25 : decode cX7_writes 25 = .ok (.iconst 1, 1) := by decide +kernel
theorem dX7_writes_26 : decode cX7_writes 26 = .ok (.invokevirtual 58, 3) := by decide +kernel
theorem dX7_writes_29 : decode cX7_writes 29 = .ok (.ireturn, 1) := by decide +kernel
set_option maxRecDepth 20000 in
theorem ggX7_sameInMemory_X7_place : GoodIn wsX7_sameInMemory wsX7_place := goodIn_r _ [6, 1, 7, 8, 9, 10, 11, 12, 13, 14, 15, 16, 17, 18] (by decide +kernel) (by decide +kernel)
set_option maxRecDepth 20000 in
theorem gX7_sameInMemory_X7_place : GoodIn wsX7_sameInMemory (wsV RX7 40 RX7 yX7_place wsX7_place) := goodIn_app (goodIn_of _ (by decide +kernel)) ggX7_sameInMemory_X7_place
theorem dX7_sameInMemory_0 : decode cX7_sameInMemory 0 = .ok (.bipush (-6), 2) := by decide +kernel
theorem dX7_sameInMemory_2 : decode cX7_sameInMemory 2 = .ok (.istore_n 2, 1) := by decide +kernel
theorem dX7_sameInMemory_3 : decode cX7_sameInMemory 3 = .ok (.iconst 0, 1) := by decide +kernel
theorem dX7_sameInMemory_4 : decode cX7_sameInMemory 4 = .ok (.istore_n 3, 1) := by decide +kernel
theorem dX7_sameInMemory_5 : decode cX7_sameInMemory 5 = .ok (.iload_n 3, 1) := by decide +kernel
theorem dX7_sameInMemory_6 : decode cX7_sameInMemory 6 = .ok (.aload_n 0, 1) := by decide +kernel
theorem dX7_sameInMemory_7 : decode cX7_sameInMemory 7 = .ok (.getfield 7, 3) := by decide +kernel
theorem dX7_sameInMemory_10 : decode cX7_sameInMemory 10 = .ok (.iconst 3, 1) := by decide +kernel
theorem dX7_sameInMemory_11 : decode cX7_sameInMemory 11 = .ok (.iaload, 1) := by decide +kernel
theorem dX7_sameInMemory_12 : decode cX7_sameInMemory 12 = .ok (.if_icmp .ge 37, 3) := by decide +kernel
theorem dX7_sameInMemory_15 : decode cX7_sameInMemory 15 = .ok (.aload_n 0, 1) := by decide +kernel
theorem dX7_sameInMemory_16 : decode cX7_sameInMemory 16 = .ok (.iload_n 3, 1) := by decide +kernel
theorem dX7_sameInMemory_17 : decode cX7_sameInMemory 17 = .ok (.invokevirtual 40, 3) := by decide +kernel
theorem dX7_sameInMemory_20 : decode cX7_sameInMemory 20 = .ok (.iconst 1, 1) := by decide +kernel
theorem dX7_sameInMemory_21 : decode cX7_sameInMemory 21 = .ok (.if_icmp .ne 20, 3) := by decide +kernel
theorem dX7_sameInMemory_24 : decode cX7_sameInMemory 24 = .ok (.aload_n 0, 1) := by decide +kernel
theorem dX7_sameInMemory_25 : decode cX7_sameInMemory 25 = .ok (.getfield 7, 3) := by decide +kernel
theorem dX7_sameInMemory_28 : decode cX7_sameInMemory 28 = .ok (.bipush 10, 2) := by decide +kernel
theorem dX7_sameInMemory_30 : decode cX7_sameInMemory 30 = .ok (.iload_n 3, 1) := by decide +kernel
theorem dX7_sameInMemory_31 : decode cX7_sameInMemory 31 = .ok (.iadd, 1) := by decide +kernel
theorem dX7_sameInMemory_32 : decode cX7_sameInMemory 32 = .ok (.iaload, 1) := by decide +kernel
theorem dX7_sameInMemory_33 : decode cX7_sameInMemory 33 = .ok (.iload_n 1, 1) := by decide +kernel
theorem dX7_sameInMemory_34 : decode cX7_sameInMemory 34 = .ok (.if_icmp .ne 7, 3) := by decide +kernel
theorem dX7_sameInMemory_37 : decode cX7_sameInMemory 37 = .ok (.iload_n 3, 1) := by decide +kernel
theorem dX7_sameInMemory_38 : decode cX7_sameInMemory 38 = .ok (.goto 4, 3) := by decide +kernel
theorem dX7_sameInMemory_41 : decode cX7_sameInMemory 41 = .ok (.iload_n 2, 1) := by decide +kernel
theorem dX7_sameInMemory_42 : decode cX7_sameInMemory 42 = .ok (.istore_n 2, 1) := by decide +kernel
theorem dX7_sameInMemory_43 : decode cX7_sameInMemory 43 = .ok (.iinc 3 1, 3) := by decide +kernel
theorem dX7_sameInMemory_46 : decode cX7_sameInMemory 46 = .ok (.goto (-41), 3) := by decide +kernel
theorem dX7_sameInMemory_49 : decode cX7_sameInMemory 49 = .ok (.iload_n 2, 1) := by decide +kernel
theorem dX7_sameInMemory_50 : decode cX7_sameInMemory 50 = .ok (.ireturn, 1) := by decide +kernel
set_option maxRecDepth 20000 in
theorem ggX7_adds_X7_sameInMemory : GoodIn wsX7_adds wsX7_sameInMemory := goodIn_r _ [6, 1, 7, 8, 9, 5, 10, 23, 24, 25, 26, 27, 28, 29, 30, 31, 32, 33, 34] (by decide +kernel) (by decide +kernel)
set_option maxRecDepth 20000 in
theorem gX7_adds_X7_sameInMemory : GoodIn wsX7_adds (wsV RX7 61 RX7 yX7_sameInMemory wsX7_sameInMemory) := goodIn_app (goodIn_of _ (by decide +kernel)) ggX7_adds_X7_sameInMemory
set_option maxRecDepth 20000 in
theorem ggX7_adds_X7_rowsAt : GoodIn wsX7_adds wsX7_rowsAt := goodIn_r _ [14, 1, 7, 8, 9, 5, 10, 23, 24, 25, 26, 27, 28, 29, 30, 31, 32, 33, 34] (by decide +kernel) (by decide +kernel)
set_option maxRecDepth 20000 in
theorem gX7_adds_X7_rowsAt : GoodIn wsX7_adds (wsV RX7 48 RX7 yX7_rowsAt wsX7_rowsAt) := goodIn_app (goodIn_of _ (by decide +kernel)) ggX7_adds_X7_rowsAt
set_option maxRecDepth 20000 in
theorem ggX7_adds_X7_writes : GoodIn wsX7_adds wsX7_writes := goodIn_r _ [18, 1, 11, 12, 13, 5, 14, 7, 8, 9, 10, 19, 20, 21, 22, 23, 24, 25, 26, 27, 28, 29, 30, 31, 32, 33, 34] (by decide +kernel) (by decide +kernel)
set_option maxRecDepth 20000 in
theorem gX7_adds_X7_writes : GoodIn wsX7_adds (wsV RX7 64 RX7 yX7_writes wsX7_writes) := goodIn_app (goodIn_of _ (by decide +kernel)) ggX7_adds_X7_writes
theorem dX7_adds_0 : decode cX7_adds 0 = .ok (.aload_n 0, 1) := by decide +kernel
theorem dX7_adds_1 : decode cX7_adds 1 = .ok (.getfield 7, 3) := by decide +kernel
theorem dX7_adds_4 : decode cX7_adds 4 = .ok (.iconst 1, 1) := by decide +kernel
theorem dX7_adds_5 : decode cX7_adds 5 = .ok (.iaload, 1) := by decide +kernel
theorem dX7_adds_6 : decode cX7_adds 6 = .ok (.iconst 1, 1) := by decide +kernel
theorem dX7_adds_7 : decode cX7_adds 7 = .ok (.if_icmp .ne 11, 3) := by decide +kernel
theorem dX7_adds_10 : decode cX7_adds 10 = .ok (.aload_n 0, 1) := by decide +kernel
theorem dX7_adds_11 : decode cX7_adds 11 = .ok (.iload_n 1, 1) := by decide +kernel
theorem dX7_adds_12 : decode cX7_adds 12 = .ok (.invokevirtual 61, 3) := by decide +kernel
theorem dX7_adds_15 : decode cX7_adds 15 = .ok (.goto 5, 3) := by decide +kernel
theorem dX7_adds_18 : decode cX7_adds 18 = .ok (.bipush (-6), 2) := by decide +kernel
theorem dX7_adds_20 : decode cX7_adds 20 = .ok (.istore_n 2, 1) := by decide +kernel
theorem dX7_adds_21 : decode cX7_adds 21 = .ok (.aload_n 0, 1) := by decide +kernel
theorem dX7_adds_22 : decode cX7_adds 22 = .ok (.getfield 7, 3) := by decide +kernel
theorem dX7_adds_25 : decode cX7_adds 25 = .ok (.iconst 3, 1) := by decide +kernel
theorem dX7_adds_26 : decode cX7_adds 26 = .ok (.iaload, 1) := by decide +kernel
theorem dX7_adds_27 : decode cX7_adds 27 = .ok (.istore_n 3, 1) := by decide +kernel
theorem dX7_adds_28 : decode cX7_adds 28 = .ok (.iload_n 2, 1) := by decide +kernel
theorem dX7_adds_29 : decode cX7_adds 29 = .ok (.bipush (-6), 2) := by decide +kernel
theorem dX7_adds_31 : decode cX7_adds 31 = .ok (.if_icmp .ne 22, 3) := by decide +kernel
theorem dX7_adds_34 : decode cX7_adds 34 = .ok (.aload_n 0, 1) := by decide +kernel
theorem dX7_adds_35 : decode cX7_adds 35 = .ok (.iconst 1, 1) := by decide +kernel
theorem dX7_adds_36 : decode cX7_adds 36 = .ok (.invokevirtual 48, 3) := by decide +kernel
theorem dX7_adds_39 : decode cX7_adds 39 = .ok (.aload_n 0, 1) := by decide +kernel
theorem dX7_adds_40 : decode cX7_adds 40 = .ok (.getfield 7, 3) := by decide +kernel
theorem dX7_adds_43 : decode cX7_adds 43 = .ok (.iconst 0, 1) := by decide +kernel
theorem dX7_adds_44 : decode cX7_adds 44 = .ok (.iaload, 1) := by decide +kernel
theorem dX7_adds_45 : decode cX7_adds 45 = .ok (.if_icmp .ne 8, 3) := by decide +kernel
theorem dX7_adds_48 : decode cX7_adds 48 = .ok (.aload_n 0, 1) := by decide +kernel
theorem dX7_adds_49 : decode cX7_adds 49 = .ok (.invokevirtual 64, 3) := by decide +kernel
theorem dX7_adds_52 : decode cX7_adds 52 = .ok (.pop, 1) := by decide +kernel
theorem dX7_adds_53 : decode cX7_adds 53 = .ok (.aload_n 0, 1) := by decide +kernel
theorem dX7_adds_54 : decode cX7_adds 54 = .ok (.getfield 7, 3) := by decide +kernel
theorem dX7_adds_57 : decode cX7_adds 57 = .ok (.iconst 3, 1) := by decide +kernel
theorem dX7_adds_58 : decode cX7_adds 58 = .ok (.dup2, 1) := by decide +kernel
theorem dX7_adds_59 : decode cX7_adds 59 = .ok (.iaload, 1) := by decide +kernel
theorem dX7_adds_60 : decode cX7_adds 60 = .ok (.iconst 1, 1) := by decide +kernel
theorem dX7_adds_61 : decode cX7_adds 61 = .ok (.iadd, 1) := by decide +kernel
theorem dX7_adds_62 : decode cX7_adds 62 = .ok (.iastore, 1) := by decide +kernel
theorem dX7_adds_63 : decode cX7_adds 63 = .ok (.aload_n 0, 1) := by decide +kernel
theorem dX7_adds_64 : decode cX7_adds 64 = .ok (.getfield 7, 3) := by decide +kernel
theorem dX7_adds_67 : decode cX7_adds 67 = .ok (.bipush 10, 2) := by decide +kernel
theorem dX7_adds_69 : decode cX7_adds 69 = .ok (.iload_n 3, 1) := by decide +kernel
theorem dX7_adds_70 : decode cX7_adds 70 = .ok (.iadd, 1) := by decide +kernel
theorem dX7_adds_71 : decode cX7_adds 71 = .ok (.iload_n 1, 1) := by decide +kernel
theorem dX7_adds_72 : decode cX7_adds 72 = .ok (.iastore, 1) := by decide +kernel
theorem dX7_adds_73 : decode cX7_adds 73 = .ok (.aload_n 0, 1) := by decide +kernel
theorem dX7_adds_74 : decode cX7_adds 74 = .ok (.getfield 7, 3) := by decide +kernel
theorem dX7_adds_77 : decode cX7_adds 77 = .ok (.sipush 130, 3) := by decide +kernel
theorem dX7_adds_80 : decode cX7_adds 80 = .ok (.iload_n 3, 1) := by decide +kernel
theorem dX7_adds_81 : decode cX7_adds 81 = .ok (.iadd, 1) := by decide +kernel
theorem dX7_adds_82 : decode cX7_adds 82 = .ok (.iload_n 2, 1) := by decide +kernel
theorem dX7_adds_83 : decode cX7_adds 83 = .ok (.bipush (-6), 2) := by decide +kernel
theorem dX7_adds_85 : decode cX7_adds 85 = .ok (.if_icmp .ne 7, 3) := by decide +kernel
theorem dX7_adds_88 : decode cX7_adds 88 = .ok (.iconst 1, 1) := by decide +kernel
theorem dX7_adds_89 : decode cX7_adds 89 = .ok (.goto 4, 3) := by decide +kernel
theorem dX7_adds_92 : decode cX7_adds 92 = .ok (.iconst 0, 1) := by decide +kernel
theorem dX7_adds_93 : decode cX7_adds 93 = .ok (.iastore, 1) := by decide +kernel
theorem dX7_adds_94 : decode cX7_adds 94 = .ok (.aload_n 0, 1) := by decide +kernel
theorem dX7_adds_95 : decode cX7_adds 95 = .ok (.getfield 7, 3) := by decide +kernel
theorem dX7_adds_98 : decode cX7_adds 98 = .ok (.sipush 250, 3) := by decide +kernel
theorem dX7_adds_101 : decode cX7_adds 101 = .ok (.iload_n 3, 1) := by decide +kernel
theorem dX7_adds_102 : decode cX7_adds 102 = .ok (.iadd, 1) := by decide +kernel
theorem dX7_adds_103 : decode cX7_adds 103 = .ok (.iload_n 2, 1) := by decide +kernel
theorem dX7_adds_104 : decode cX7_adds 104 = .ok (.bipush (-6), 2) := by decide +kernel
theorem dX7_adds_106 : decode cX7_adds 106 = .ok (.if_icmp .ne 7, 3) := by decide +kernel
theorem dX7_adds_109 : decode cX7_adds 109 = .ok (.iconst 1, 1) := by decide +kernel
theorem dX7_adds_110 : decode cX7_adds 110 = .ok (.goto 4, 3) := by decide +kernel
theorem dX7_adds_113 : decode cX7_adds 113 = .ok (.iconst 0, 1) := by decide +kernel
theorem dX7_adds_114 : decode cX7_adds 114 = .ok (.iastore, 1) := by decide +kernel
theorem dX7_adds_115 : decode cX7_adds 115 = .ok (.iload_n 2, 1) := by decide +kernel
theorem dX7_adds_116 : decode cX7_adds 116 = .ok (.bipush (-6), 2) := by decide +kernel
theorem dX7_adds_118 : decode cX7_adds 118 = .ok (.if_icmp .eq 17, 3) := by decide +kernel
theorem dX7_adds_121 : decode cX7_adds 121 = .ok (.aload_n 0, 1) := by decide +kernel
theorem dX7_adds_122 : decode cX7_adds 122 = .ok (.getfield 7, 3) := by decide +kernel
theorem dX7_adds_125 : decode cX7_adds 125 = .ok (.sipush 130, 3) := by decide +kernel
theorem dX7_adds_128 : decode cX7_adds 128 = .ok (.iload_n 2, 1) := by decide +kernel
theorem dX7_adds_129 : decode cX7_adds 129 = .ok (.iadd, 1) := by decide +kernel
theorem dX7_adds_130 : decode cX7_adds 130 = .ok (.dup2, 1) := by decide +kernel
theorem dX7_adds_131 : decode cX7_adds 131 = .ok (.iaload, 1) := by decide +kernel
theorem dX7_adds_132 : decode cX7_adds 132 = .ok (.iconst 1, 1) := by decide +kernel
theorem dX7_adds_133 : decode cX7_adds 133 = .ok (.iadd, 1) := by decide +kernel
theorem dX7_adds_134 : decode cX7_adds 134 = .ok (.iastore, 1) := by decide +kernel
theorem dX7_adds_135 : decode cX7_adds 135 = .ok (.iload_n 3, 1) := by decide +kernel
theorem dX7_adds_136 : decode cX7_adds 136 = .ok (.ireturn, 1) := by decide +kernel
def ck_wsX7_add : List (List Cond) := [[.code yX7_add cX7_add 2 (some .int)], wsX7_add_r1, wsX7_add_r2]
theorem ck_wsX7_add_m : ∀ c ∈ ck_wsX7_add, ∀ w ∈ c, w ∈ wsX7_add := List.forall_mem_cons.mpr ⟨fun w h => List.mem_cons.mpr (Or.inl (List.mem_singleton.mp h)), List.forall_mem_cons.mpr ⟨fun _ h => (List.mem_cons_of_mem _ (List.mem_append_left _ (List.mem_append_left _ h))), List.forall_mem_cons.mpr ⟨fun _ h => (List.mem_cons_of_mem _ (List.mem_append_left _ (List.mem_append_right _ h))), fun _ h => absurd h List.not_mem_nil⟩⟩⟩
set_option maxRecDepth 100000 in
theorem ck_wsX7_add_g : ∀ w ∈ wsX7_add, goodWord w = true := List.all_eq_true.mp (by decide +kernel)
set_option maxRecDepth 100000 in
theorem ggX7_add_X7_in : GoodIn wsX7_add wsX7_in := goodIn_2 ck_wsX7_add [(1, 4)] ck_wsX7_add_m ck_wsX7_add_g rfl
set_option maxRecDepth 20000 in
theorem gX7_add_X7_in : GoodIn wsX7_add (va_wsS RX7 44 yX7_in wsX7_in) := goodIn_app (goodIn_of _ (by decide +kernel)) ggX7_add_X7_in
set_option maxRecDepth 100000 in
theorem ggX7_add_X7_record : GoodIn wsX7_add wsX7_record := goodIn_ca (goodIn_2 ck_wsX7_add [(1, 8), (1, 9), (1, 10), (1, 0)] ck_wsX7_add_m ck_wsX7_add_g rfl) (goodIn_b (fun _ h => (List.mem_cons_of_mem _ (List.mem_append_right _ h))) ck_wsX7_add_g)
set_option maxRecDepth 20000 in
theorem gX7_add_X7_record : GoodIn wsX7_add (wsV RX7 37 RX7 yX7_record wsX7_record) := goodIn_app (goodIn_of _ (by decide +kernel)) ggX7_add_X7_record
set_option maxRecDepth 100000 in
theorem ggX7_add_X7_adds : GoodIn wsX7_add wsX7_adds := goodIn_ca (goodIn_2 ck_wsX7_add [(1, 14), (1, 0), (1, 15), (1, 16), (1, 17), (1, 3), (1, 18), (1, 19), (1, 20), (1, 21), (1, 22), (1, 23), (2, 0), (2, 1), (2, 2), (2, 3), (2, 4), (2, 5), (2, 6), (2, 7), (2, 8), (2, 9), (2, 10)] ck_wsX7_add_m ck_wsX7_add_g rfl) (goodIn_b (fun _ h => (List.mem_cons_of_mem _ (List.mem_append_right _ h))) ck_wsX7_add_g)
set_option maxRecDepth 20000 in
theorem gX7_add_X7_adds : GoodIn wsX7_add (wsV RX7 68 RX7 yX7_adds wsX7_adds) := goodIn_app (goodIn_of _ (by decide +kernel)) ggX7_add_X7_adds
theorem dX7_add_0 : decode cX7_add 0 = .ok (.iload_n 1, 1) := by decide +kernel
theorem dX7_add_1 : decode cX7_add 1 = .ok (.iconst 0, 1) := by decide +kernel
theorem dX7_add_2 : decode cX7_add 2 = .ok (.sipush 999, 3) := by decide +kernel
theorem dX7_add_5 : decode cX7_add 5 = .ok (.invokestatic 44, 3) := by decide +kernel
theorem dX7_add_8 : decode cX7_add 8 = .ok (.ifCond .ne 6, 3) := by decide +kernel
theorem dX7_add_11 : decode cX7_add 11 = .ok (.bipush (-2), 2) := by decide +kernel
theorem dX7_add_13 : decode cX7_add 13 = .ok (.ireturn, 1) := by decide +kernel
theorem dX7_add_14 : decode cX7_add 14 = .ok (.aload_n 0, 1) := by decide +kernel
theorem dX7_add_15 : decode cX7_add 15 = .ok (.getfield 7, 3) := by decide +kernel
theorem dX7_add_18 : decode cX7_add 18 = .ok (.iconst 2, 1) := by decide +kernel
theorem dX7_add_19 : decode cX7_add 19 = .ok (.iaload, 1) := by decide +kernel
theorem dX7_add_20 : decode cX7_add 20 = .ok (.ifCond .ne 6, 3) := by decide +kernel
theorem dX7_add_23 : decode cX7_add 23 = .ok (.bipush (-3), 2) := by decide +kernel
theorem dX7_add_25 : decode cX7_add 25 = .ok (.ireturn, 1) := by decide +kernel
theorem dX7_add_26 : decode cX7_add 26 = .ok (.aload_n 0, 1) := by decide +kernel
theorem dX7_add_27 : decode cX7_add 27 = .ok (.getfield 7, 3) := by decide +kernel
theorem dX7_add_30 : decode cX7_add 30 = .ok (.iconst 3, 1) := by decide +kernel
theorem dX7_add_31 : decode cX7_add 31 = .ok (.iaload, 1) := by decide +kernel
theorem dX7_add_32 : decode cX7_add 32 = .ok (.bipush 120, 2) := by decide +kernel
theorem dX7_add_34 : decode cX7_add 34 = .ok (.if_icmp .ne 6, 3) := by decide +kernel
theorem dX7_add_37 : decode cX7_add 37 = .ok (.bipush (-4), 2) := by decide +kernel
theorem dX7_add_39 : decode cX7_add 39 = .ok (.ireturn, 1) := by decide +kernel
theorem dX7_add_40 : decode cX7_add 40 = .ok (.aload_n 0, 1) := by decide +kernel
theorem dX7_add_41 : decode cX7_add 41 = .ok (.invokevirtual 37, 3) := by decide +kernel
theorem dX7_add_44 : decode cX7_add 44 = .ok (.aload_n 0, 1) := by decide +kernel
theorem dX7_add_45 : decode cX7_add 45 = .ok (.iload_n 1, 1) := by decide +kernel
theorem dX7_add_46 : decode cX7_add 46 = .ok (.invokevirtual 68, 3) := by decide +kernel
theorem dX7_add_49 : decode cX7_add 49 = .ok (.ireturn, 1) := by decide +kernel
set_option maxRecDepth 20000 in
theorem ggX7_combine_X7_record : GoodIn wsX7_combine wsX7_record := goodIn_r _ [6, 7, 8, 1, 9, 10, 11, 12, 13, 14, 15, 16, 17, 18, 19, 20] (by decide +kernel) (by decide +kernel)
set_option maxRecDepth 20000 in
theorem gX7_combine_X7_record : GoodIn wsX7_combine (wsV RX7 37 RX7 yX7_record wsX7_record) := goodIn_app (goodIn_of _ (by decide +kernel)) ggX7_combine_X7_record
theorem dX7_combine_0 : decode cX7_combine 0 = .ok (.aload_n 0, 1) := by decide +kernel
theorem dX7_combine_1 : decode cX7_combine 1 = .ok (.getfield 7, 3) := by decide +kernel
theorem dX7_combine_4 : decode cX7_combine 4 = .ok (.iconst 3, 1) := by decide +kernel
theorem dX7_combine_5 : decode cX7_combine 5 = .ok (.iaload, 1) := by decide +kernel
theorem dX7_combine_6 : decode cX7_combine 6 = .ok (.ifCond .le 6, 3) := by decide +kernel
theorem dX7_combine_9 : decode cX7_combine 9 = .ok (.bipush (-3), 2) := by decide +kernel
theorem dX7_combine_11 : decode cX7_combine 11 = .ok (.ireturn, 1) := by decide +kernel
theorem dX7_combine_12 : decode cX7_combine 12 = .ok (.aload_n 0, 1) := by decide +kernel
theorem dX7_combine_13 : decode cX7_combine 13 = .ok (.invokevirtual 37, 3) := by decide +kernel
theorem dX7_combine_16 : decode cX7_combine 16 = .ok (.aload_n 0, 1) := by decide +kernel
theorem dX7_combine_17 : decode cX7_combine 17 = .ok (.getfield 7, 3) := by decide +kernel
theorem dX7_combine_20 : decode cX7_combine 20 = .ok (.iconst 1, 1) := by decide +kernel
theorem dX7_combine_21 : decode cX7_combine 21 = .ok (.iaload, 1) := by decide +kernel
theorem dX7_combine_22 : decode cX7_combine 22 = .ok (.istore_n 2, 1) := by decide +kernel
theorem dX7_combine_23 : decode cX7_combine 23 = .ok (.aload_n 0, 1) := by decide +kernel
theorem dX7_combine_24 : decode cX7_combine 24 = .ok (.getfield 7, 3) := by decide +kernel
theorem dX7_combine_27 : decode cX7_combine 27 = .ok (.iconst 1, 1) := by decide +kernel
theorem dX7_combine_28 : decode cX7_combine 28 = .ok (.iload_n 1, 1) := by decide +kernel
theorem dX7_combine_29 : decode cX7_combine 29 = .ok (.ifCond .eq 7, 3) := by decide +kernel
theorem dX7_combine_32 : decode cX7_combine 32 = .ok (.iconst 1, 1) := by decide +kernel
theorem dX7_combine_33 : decode cX7_combine 33 = .ok (.goto 4, 3) := by decide +kernel
theorem dX7_combine_36 : decode cX7_combine 36 = .ok (.iconst 0, 1) := by decide +kernel
theorem dX7_combine_37 : decode cX7_combine 37 = .ok (.iastore, 1) := by decide +kernel
theorem dX7_combine_38 : decode cX7_combine 38 = .ok (.iload_n 2, 1) := by decide +kernel
theorem dX7_combine_39 : decode cX7_combine 39 = .ok (.ireturn, 1) := by decide +kernel
set_option maxRecDepth 20000 in
theorem ggX7_flush_X7_record : GoodIn wsX7_flush wsX7_record := goodIn_r _ [6, 7, 8, 1, 25, 26, 27, 28, 29, 30, 31, 32, 33, 34, 35, 36] (by decide +kernel) (by decide +kernel)
set_option maxRecDepth 20000 in
theorem gX7_flush_X7_record : GoodIn wsX7_flush (wsV RX7 37 RX7 yX7_record wsX7_record) := goodIn_app (goodIn_of _ (by decide +kernel)) ggX7_flush_X7_record
set_option maxRecDepth 20000 in
theorem ggX7_flush_X7_writes : GoodIn wsX7_flush wsX7_writes := goodIn_r _ [12, 1, 13, 14, 15, 5, 16, 17, 18, 19, 20, 21, 22, 23, 24, 25, 26, 27, 28, 29, 30, 31, 32, 33, 34, 35, 36] (by decide +kernel) (by decide +kernel)
set_option maxRecDepth 20000 in
theorem gX7_flush_X7_writes : GoodIn wsX7_flush (wsV RX7 64 RX7 yX7_writes wsX7_writes) := goodIn_app (goodIn_of _ (by decide +kernel)) ggX7_flush_X7_writes
theorem dX7_flush_0 : decode cX7_flush 0 = .ok (.aload_n 0, 1) := by decide +kernel
theorem dX7_flush_1 : decode cX7_flush 1 = .ok (.getfield 7, 3) := by decide +kernel
theorem dX7_flush_4 : decode cX7_flush 4 = .ok (.iconst 2, 1) := by decide +kernel
theorem dX7_flush_5 : decode cX7_flush 5 = .ok (.iaload, 1) := by decide +kernel
theorem dX7_flush_6 : decode cX7_flush 6 = .ok (.ifCond .ne 6, 3) := by decide +kernel
theorem dX7_flush_9 : decode cX7_flush 9 = .ok (.bipush (-3), 2) := by decide +kernel
theorem dX7_flush_11 : decode cX7_flush 11 = .ok (.ireturn, 1) := by decide +kernel
theorem dX7_flush_12 : decode cX7_flush 12 = .ok (.aload_n 0, 1) := by decide +kernel
theorem dX7_flush_13 : decode cX7_flush 13 = .ok (.invokevirtual 37, 3) := by decide +kernel
theorem dX7_flush_16 : decode cX7_flush 16 = .ok (.aload_n 0, 1) := by decide +kernel
theorem dX7_flush_17 : decode cX7_flush 17 = .ok (.invokevirtual 64, 3) := by decide +kernel
theorem dX7_flush_20 : decode cX7_flush 20 = .ok (.ireturn, 1) := by decide +kernel
set_option maxRecDepth 20000 in
theorem ggX7_finishes_X7_writes : GoodIn wsX7_finishes wsX7_writes := goodIn_r _ [6, 1, 7, 8, 9, 5, 10, 11, 12, 13, 14, 15, 16, 17, 18, 19, 20, 21, 22, 23, 24, 25, 26, 27, 28, 29, 30] (by decide +kernel) (by decide +kernel)
set_option maxRecDepth 20000 in
theorem gX7_finishes_X7_writes : GoodIn wsX7_finishes (wsV RX7 64 RX7 yX7_writes wsX7_writes) := goodIn_app (goodIn_of _ (by decide +kernel)) ggX7_finishes_X7_writes
theorem dX7_finishes_0 : decode cX7_finishes 0 = .ok (.aload_n 0, 1) := by decide +kernel
theorem dX7_finishes_1 : decode cX7_finishes 1 = .ok (.invokevirtual 64, 3) := by decide +kernel
theorem dX7_finishes_4 : decode cX7_finishes 4 = .ok (.pop, 1) := by decide +kernel
theorem dX7_finishes_5 : decode cX7_finishes 5 = .ok (.aload_n 0, 1) := by decide +kernel
theorem dX7_finishes_6 : decode cX7_finishes 6 = .ok (.getfield 7, 3) := by decide +kernel
theorem dX7_finishes_9 : decode cX7_finishes 9 = .ok (.iconst 2, 1) := by decide +kernel
theorem dX7_finishes_10 : decode cX7_finishes 10 = .ok (.iconst 0, 1) := by decide +kernel
theorem dX7_finishes_11 : decode cX7_finishes 11 = .ok (.iastore, 1) := by decide +kernel
theorem dX7_finishes_12 : decode cX7_finishes 12 = .ok (.return_, 1) := by decide +kernel
def ck_wsX7_finish : List (List Cond) := [[.code yX7_finish cX7_finish 1 (some .int)], wsX7_finish_r1, wsX7_finish_r2]
theorem ck_wsX7_finish_m : ∀ c ∈ ck_wsX7_finish, ∀ w ∈ c, w ∈ wsX7_finish := List.forall_mem_cons.mpr ⟨fun w h => List.mem_cons.mpr (Or.inl (List.mem_singleton.mp h)), List.forall_mem_cons.mpr ⟨fun _ h => (List.mem_cons_of_mem _ (List.mem_append_left _ (List.mem_append_left _ h))), List.forall_mem_cons.mpr ⟨fun _ h => (List.mem_cons_of_mem _ (List.mem_append_left _ (List.mem_append_right _ h))), fun _ h => absurd h List.not_mem_nil⟩⟩⟩
set_option maxRecDepth 100000 in
theorem ck_wsX7_finish_g : ∀ w ∈ wsX7_finish, goodWord w = true := List.all_eq_true.mp (by decide +kernel)
set_option maxRecDepth 100000 in
theorem ggX7_finish_X7_record : GoodIn wsX7_finish wsX7_record := goodIn_ca (goodIn_2 ck_wsX7_finish [(1, 5), (1, 6), (1, 7), (1, 0)] ck_wsX7_finish_m ck_wsX7_finish_g rfl) (goodIn_b (fun _ h => (List.mem_cons_of_mem _ (List.mem_append_right _ h))) ck_wsX7_finish_g)
set_option maxRecDepth 20000 in
theorem gX7_finish_X7_record : GoodIn wsX7_finish (wsV RX7 37 RX7 yX7_record wsX7_record) := goodIn_app (goodIn_of _ (by decide +kernel)) ggX7_finish_X7_record
set_option maxRecDepth 100000 in
theorem ggX7_finish_X7_finishes : GoodIn wsX7_finish wsX7_finishes := goodIn_ca (goodIn_2 ck_wsX7_finish [(1, 11), (1, 0), (1, 12), (1, 13), (1, 14), (1, 4), (1, 15), (1, 16), (1, 17), (1, 18), (1, 19), (1, 20), (1, 21), (1, 22), (1, 23), (2, 0), (2, 1), (2, 2), (2, 3)] ck_wsX7_finish_m ck_wsX7_finish_g rfl) (goodIn_b (fun _ h => (List.mem_cons_of_mem _ (List.mem_append_right _ h))) ck_wsX7_finish_g)
set_option maxRecDepth 20000 in
theorem gX7_finish_X7_finishes : GoodIn wsX7_finish (wsV RX7 71 RX7 yX7_finishes wsX7_finishes) := goodIn_app (goodIn_of _ (by decide +kernel)) ggX7_finish_X7_finishes
set_option maxRecDepth 100000 in
theorem ggX7_finish_X7_runMany : GoodIn wsX7_finish wsX7_runMany := goodIn_ca (goodIn_2 ck_wsX7_finish [(2, 7), (2, 8), (2, 9), (2, 10), (1, 4), (2, 11), (2, 12), (2, 13), (2, 14), (2, 15), (1, 0), (1, 20), (1, 21), (1, 22), (1, 23)] ck_wsX7_finish_m ck_wsX7_finish_g rfl) (goodIn_b (fun _ h => (List.mem_cons_of_mem _ (List.mem_append_right _ h))) ck_wsX7_finish_g)
set_option maxRecDepth 20000 in
theorem gX7_finish_X7_runMany : GoodIn wsX7_finish (wsV RX7 74 RX7 yX7_runMany wsX7_runMany) := goodIn_app (goodIn_of _ (by decide +kernel)) ggX7_finish_X7_runMany
theorem dX7_finish_0 : decode cX7_finish 0 = .ok (.aload_n 0, 1) := by decide +kernel
theorem dX7_finish_1 : decode cX7_finish 1 = .ok (.getfield 7, 3) := by decide +kernel
theorem dX7_finish_4 : decode cX7_finish 4 = .ok (.iconst 2, 1) := by decide +kernel
theorem dX7_finish_5 : decode cX7_finish 5 = .ok (.iaload, 1) := by decide +kernel
theorem dX7_finish_6 : decode cX7_finish 6 = .ok (.ifCond .ne 6, 3) := by decide +kernel
theorem dX7_finish_9 : decode cX7_finish 9 = .ok (.bipush (-3), 2) := by decide +kernel
theorem dX7_finish_11 : decode cX7_finish 11 = .ok (.ireturn, 1) := by decide +kernel
theorem dX7_finish_12 : decode cX7_finish 12 = .ok (.aload_n 0, 1) := by decide +kernel
theorem dX7_finish_13 : decode cX7_finish 13 = .ok (.invokevirtual 37, 3) := by decide +kernel
theorem dX7_finish_16 : decode cX7_finish 16 = .ok (.aload_n 0, 1) := by decide +kernel
theorem dX7_finish_17 : decode cX7_finish 17 = .ok (.invokevirtual 71, 3) := by decide +kernel
theorem dX7_finish_20 : decode cX7_finish 20 = .ok (.aload_n 0, 1) := by decide +kernel
theorem dX7_finish_21 : decode cX7_finish 21 = .ok (.invokevirtual 74, 3) := by decide +kernel
theorem dX7_finish_24 : decode cX7_finish 24 = .ok (.ireturn, 1) := by decide +kernel
theorem dX7_isCollecting_0 : decode cX7_isCollecting 0 = .ok (.aload_n 0, 1) := by decide +kernel
theorem dX7_isCollecting_1 : decode cX7_isCollecting 1 = .ok (.getfield 7, 3) := by decide +kernel
theorem dX7_isCollecting_4 : decode cX7_isCollecting 4 = .ok (.iconst 2, 1) := by decide +kernel
theorem dX7_isCollecting_5 : decode cX7_isCollecting 5 = .ok (.iaload, 1) := by decide +kernel
theorem dX7_isCollecting_6 : decode cX7_isCollecting 6 = .ok (.ireturn, 1) := by decide +kernel
theorem dX7_waysOf_0 : decode cX7_waysOf 0 = .ok (.iload_n 0, 1) := by decide +kernel
theorem dX7_waysOf_1 : decode cX7_waysOf 1 = .ok (.iconst 1, 1) := by decide +kernel
theorem dX7_waysOf_2 : decode cX7_waysOf 2 = .ok (.isub, 1) := by decide +kernel
theorem dX7_waysOf_3 : decode cX7_waysOf 3 = .ok (.bipush 8, 2) := by decide +kernel
theorem dX7_waysOf_5 : decode cX7_waysOf 5 = .ok (.if_icmp .ge 9, 3) := by decide +kernel
theorem dX7_waysOf_8 : decode cX7_waysOf 8 = .ok (.iload_n 0, 1) := by decide +kernel
theorem dX7_waysOf_9 : decode cX7_waysOf 9 = .ok (.iconst 1, 1) := by decide +kernel
theorem dX7_waysOf_10 : decode cX7_waysOf 10 = .ok (.isub, 1) := by decide +kernel
theorem dX7_waysOf_11 : decode cX7_waysOf 11 = .ok (.goto 5, 3) := by decide +kernel
theorem dX7_waysOf_14 : decode cX7_waysOf 14 = .ok (.bipush 8, 2) := by decide +kernel
theorem dX7_waysOf_16 : decode cX7_waysOf 16 = .ok (.ireturn, 1) := by decide +kernel
set_option maxRecDepth 20000 in
theorem ggX7_inputsLeft_X7_many : GoodIn wsX7_inputsLeft wsX7_many := goodIn_r _ [5, 6, 7, 8, 4, 9, 10, 11, 12, 13, 14, 15, 16, 17, 18, 19, 20, 21, 22, 23, 24, 25, 26] (by decide +kernel) (by decide +kernel)
set_option maxRecDepth 20000 in
theorem gX7_inputsLeft_X7_many : GoodIn wsX7_inputsLeft (wsV RX7 55 RX7 yX7_many wsX7_many) := goodIn_app (goodIn_of _ (by decide +kernel)) ggX7_inputsLeft_X7_many
theorem dX7_inputsLeft_0 : decode cX7_inputsLeft 0 = .ok (.aload_n 0, 1) := by decide +kernel
theorem dX7_inputsLeft_1 : decode cX7_inputsLeft 1 = .ok (.iconst 1, 1) := by decide +kernel
theorem dX7_inputsLeft_2 : decode cX7_inputsLeft 2 = .ok (.invokevirtual 55, 3) := by decide +kernel
theorem dX7_inputsLeft_5 : decode cX7_inputsLeft 5 = .ok (.ireturn, 1) := by decide +kernel
set_option maxRecDepth 20000 in
theorem ggX7_cut_X7_rowsAt : GoodIn wsX7_cut wsX7_rowsAt := goodIn_r _ [6, 1, 7, 8, 9, 5, 10, 19, 20, 21, 22, 23, 24, 25, 26, 27, 28, 29, 30] (by decide +kernel) (by decide +kernel)
set_option maxRecDepth 20000 in
theorem gX7_cut_X7_rowsAt : GoodIn wsX7_cut (wsV RX7 48 RX7 yX7_rowsAt wsX7_rowsAt) := goodIn_app (goodIn_of _ (by decide +kernel)) ggX7_cut_X7_rowsAt
set_option maxRecDepth 20000 in
theorem ggX7_cut_X7_becomesRun : GoodIn wsX7_cut wsX7_becomesRun := goodIn_r _ [14, 1, 7, 8, 9, 5, 10, 19, 20, 21, 22, 23, 24, 25, 26, 27, 28, 29, 30] (by decide +kernel) (by decide +kernel)
set_option maxRecDepth 20000 in
theorem gX7_cut_X7_becomesRun : GoodIn wsX7_cut (wsV RX7 58 RX7 yX7_becomesRun wsX7_becomesRun) := goodIn_app (goodIn_of _ (by decide +kernel)) ggX7_cut_X7_becomesRun
set_option maxRecDepth 20000 in
theorem ggX7_cut_X7_nextPlace : GoodIn wsX7_cut wsX7_nextPlace := goodIn_r _ [18, 1, 7, 8, 9, 5, 10, 19, 20, 21, 22, 23, 24, 25, 26, 27, 28, 29, 30] (by decide +kernel) (by decide +kernel)
set_option maxRecDepth 20000 in
theorem gX7_cut_X7_nextPlace : GoodIn wsX7_cut (wsV RX7 51 RX7 yX7_nextPlace wsX7_nextPlace) := goodIn_app (goodIn_of _ (by decide +kernel)) ggX7_cut_X7_nextPlace
theorem dX7_cut_0 : decode cX7_cut 0 = .ok (.aload_n 0, 1) := by decide +kernel
theorem dX7_cut_1 : decode cX7_cut 1 = .ok (.getfield 7, 3) := by decide +kernel
theorem dX7_cut_4 : decode cX7_cut 4 = .ok (.iconst 4, 1) := by decide +kernel
theorem dX7_cut_5 : decode cX7_cut 5 = .ok (.iaload, 1) := by decide +kernel
theorem dX7_cut_6 : decode cX7_cut 6 = .ok (.istore_n 1, 1) := by decide +kernel
theorem dX7_cut_7 : decode cX7_cut 7 = .ok (.aload_n 0, 1) := by decide +kernel
theorem dX7_cut_8 : decode cX7_cut 8 = .ok (.iconst 2, 1) := by decide +kernel
theorem dX7_cut_9 : decode cX7_cut 9 = .ok (.invokevirtual 48, 3) := by decide +kernel
theorem dX7_cut_12 : decode cX7_cut 12 = .ok (.ifCond .le 9, 3) := by decide +kernel
theorem dX7_cut_15 : decode cX7_cut 15 = .ok (.aload_n 0, 1) := by decide +kernel
theorem dX7_cut_16 : decode cX7_cut 16 = .ok (.iconst 2, 1) := by decide +kernel
theorem dX7_cut_17 : decode cX7_cut 17 = .ok (.invokevirtual 58, 3) := by decide +kernel
theorem dX7_cut_20 : decode cX7_cut 20 = .ok (.pop, 1) := by decide +kernel
theorem dX7_cut_21 : decode cX7_cut 21 = .ok (.aload_n 0, 1) := by decide +kernel
theorem dX7_cut_22 : decode cX7_cut 22 = .ok (.iconst 0, 1) := by decide +kernel
theorem dX7_cut_23 : decode cX7_cut 23 = .ok (.iconst 1, 1) := by decide +kernel
theorem dX7_cut_24 : decode cX7_cut 24 = .ok (.invokevirtual 51, 3) := by decide +kernel
theorem dX7_cut_27 : decode cX7_cut 27 = .ok (.istore_n 2, 1) := by decide +kernel
theorem dX7_cut_28 : decode cX7_cut 28 = .ok (.iload_n 2, 1) := by decide +kernel
theorem dX7_cut_29 : decode cX7_cut 29 = .ok (.bipush (-6), 2) := by decide +kernel
theorem dX7_cut_31 : decode cX7_cut 31 = .ok (.if_icmp .eq 19, 3) := by decide +kernel
theorem dX7_cut_34 : decode cX7_cut 34 = .ok (.aload_n 0, 1) := by decide +kernel
theorem dX7_cut_35 : decode cX7_cut 35 = .ok (.iload_n 2, 1) := by decide +kernel
theorem dX7_cut_36 : decode cX7_cut 36 = .ok (.invokevirtual 58, 3) := by decide +kernel
theorem dX7_cut_39 : decode cX7_cut 39 = .ok (.pop, 1) := by decide +kernel
theorem dX7_cut_40 : decode cX7_cut 40 = .ok (.aload_n 0, 1) := by decide +kernel
theorem dX7_cut_41 : decode cX7_cut 41 = .ok (.iload_n 2, 1) := by decide +kernel
theorem dX7_cut_42 : decode cX7_cut 42 = .ok (.iconst 1, 1) := by decide +kernel
theorem dX7_cut_43 : decode cX7_cut 43 = .ok (.invokevirtual 51, 3) := by decide +kernel
theorem dX7_cut_46 : decode cX7_cut 46 = .ok (.istore_n 2, 1) := by decide +kernel
theorem dX7_cut_47 : decode cX7_cut 47 = .ok (.goto (-19), 3) := by decide +kernel
theorem dX7_cut_50 : decode cX7_cut 50 = .ok (.aload_n 0, 1) := by decide +kernel
theorem dX7_cut_51 : decode cX7_cut 51 = .ok (.getfield 7, 3) := by decide +kernel
theorem dX7_cut_54 : decode cX7_cut 54 = .ok (.iconst 5, 1) := by decide +kernel
theorem dX7_cut_55 : decode cX7_cut 55 = .ok (.iconst 0, 1) := by decide +kernel
theorem dX7_cut_56 : decode cX7_cut 56 = .ok (.iastore, 1) := by decide +kernel
theorem dX7_cut_57 : decode cX7_cut 57 = .ok (.aload_n 0, 1) := by decide +kernel
theorem dX7_cut_58 : decode cX7_cut 58 = .ok (.getfield 7, 3) := by decide +kernel
theorem dX7_cut_61 : decode cX7_cut 61 = .ok (.bipush 9, 2) := by decide +kernel
theorem dX7_cut_63 : decode cX7_cut 63 = .ok (.dup2, 1) := by decide +kernel
theorem dX7_cut_64 : decode cX7_cut 64 = .ok (.iaload, 1) := by decide +kernel
theorem dX7_cut_65 : decode cX7_cut 65 = .ok (.iconst 1, 1) := by decide +kernel
theorem dX7_cut_66 : decode cX7_cut 66 = .ok (.iadd, 1) := by decide +kernel
theorem dX7_cut_67 : decode cX7_cut 67 = .ok (.iastore, 1) := by decide +kernel
theorem dX7_cut_68 : decode cX7_cut 68 = .ok (.aload_n 0, 1) := by decide +kernel
theorem dX7_cut_69 : decode cX7_cut 69 = .ok (.getfield 7, 3) := by decide +kernel
theorem dX7_cut_72 : decode cX7_cut 72 = .ok (.iconst 4, 1) := by decide +kernel
theorem dX7_cut_73 : decode cX7_cut 73 = .ok (.iaload, 1) := by decide +kernel
theorem dX7_cut_74 : decode cX7_cut 74 = .ok (.iload_n 1, 1) := by decide +kernel
theorem dX7_cut_75 : decode cX7_cut 75 = .ok (.isub, 1) := by decide +kernel
theorem dX7_cut_76 : decode cX7_cut 76 = .ok (.ireturn, 1) := by decide +kernel
def ck_wsX7_grants : List (List Cond) := [[.code yX7_grants cX7_grants 2 (some .int)], wsX7_grants_r1, wsX7_grants_r2]
theorem ck_wsX7_grants_m : ∀ c ∈ ck_wsX7_grants, ∀ w ∈ c, w ∈ wsX7_grants := List.forall_mem_cons.mpr ⟨fun w h => List.mem_cons.mpr (Or.inl (List.mem_singleton.mp h)), List.forall_mem_cons.mpr ⟨fun _ h => (List.mem_cons_of_mem _ (List.mem_append_left _ (List.mem_append_left _ h))), List.forall_mem_cons.mpr ⟨fun _ h => (List.mem_cons_of_mem _ (List.mem_append_left _ (List.mem_append_right _ h))), fun _ h => absurd h List.not_mem_nil⟩⟩⟩
set_option maxRecDepth 100000 in
theorem ck_wsX7_grants_g : ∀ w ∈ wsX7_grants, goodWord w = true := List.all_eq_true.mp (by decide +kernel)
set_option maxRecDepth 100000 in
theorem ggX7_grants_X7_rowsAt : GoodIn wsX7_grants wsX7_rowsAt := goodIn_ca (goodIn_2 ck_wsX7_grants [(1, 5), (1, 0), (1, 6), (1, 7), (1, 8), (1, 4), (1, 9)] ck_wsX7_grants_m ck_wsX7_grants_g rfl) (goodIn_b (fun _ h => (List.mem_cons_of_mem _ (List.mem_append_right _ h))) ck_wsX7_grants_g)
set_option maxRecDepth 20000 in
theorem gX7_grants_X7_rowsAt : GoodIn wsX7_grants (wsV RX7 48 RX7 yX7_rowsAt wsX7_rowsAt) := goodIn_app (goodIn_of _ (by decide +kernel)) ggX7_grants_X7_rowsAt
set_option maxRecDepth 100000 in
theorem ggX7_grants_X7_writes : GoodIn wsX7_grants wsX7_writes := goodIn_ca (goodIn_2 ck_wsX7_grants [(1, 13), (1, 0), (1, 1), (1, 2), (1, 3), (1, 4), (1, 5), (1, 6), (1, 7), (1, 8), (1, 9), (1, 14), (1, 15), (1, 16), (1, 17)] ck_wsX7_grants_m ck_wsX7_grants_g rfl) (goodIn_b (fun _ h => (List.mem_cons_of_mem _ (List.mem_append_right _ h))) ck_wsX7_grants_g)
set_option maxRecDepth 20000 in
theorem gX7_grants_X7_writes : GoodIn wsX7_grants (wsV RX7 64 RX7 yX7_writes wsX7_writes) := goodIn_app (goodIn_of _ (by decide +kernel)) ggX7_grants_X7_writes
set_option maxRecDepth 100000 in
theorem ggX7_grants_X7_inputsLeft : GoodIn wsX7_grants wsX7_inputsLeft := goodIn_ca (goodIn_2 ck_wsX7_grants [(1, 21), (1, 22), (1, 23), (2, 0), (1, 4), (2, 1), (2, 2), (2, 3), (2, 4), (2, 5), (1, 0), (1, 6), (1, 7), (1, 8), (1, 9)] ck_wsX7_grants_m ck_wsX7_grants_g rfl) (goodIn_b (fun _ h => (List.mem_cons_of_mem _ (List.mem_append_right _ h))) ck_wsX7_grants_g)
set_option maxRecDepth 20000 in
theorem gX7_grants_X7_inputsLeft : GoodIn wsX7_grants (wsV RX7 77 RX7 yX7_inputsLeft wsX7_inputsLeft) := goodIn_app (goodIn_of _ (by decide +kernel)) ggX7_grants_X7_inputsLeft
set_option maxRecDepth 100000 in
theorem ggX7_grants_X7_waysOf : GoodIn wsX7_grants wsX7_waysOf := goodIn_2 ck_wsX7_grants [(2, 8)] ck_wsX7_grants_m ck_wsX7_grants_g rfl
set_option maxRecDepth 20000 in
theorem gX7_grants_X7_waysOf : GoodIn wsX7_grants (va_wsS RX7 80 yX7_waysOf wsX7_waysOf) := goodIn_app (goodIn_of _ (by decide +kernel)) ggX7_grants_X7_waysOf
set_option maxRecDepth 100000 in
theorem ggX7_grants_X7_cut : GoodIn wsX7_grants wsX7_cut := goodIn_ca (goodIn_2 ck_wsX7_grants [(2, 12), (1, 0), (1, 1), (1, 2), (1, 3), (1, 4), (1, 5), (1, 6), (1, 7), (1, 8), (1, 9), (1, 14), (1, 15), (1, 16), (1, 17), (2, 2), (2, 3), (2, 4), (2, 5)] ck_wsX7_grants_m ck_wsX7_grants_g rfl) (goodIn_b (fun _ h => (List.mem_cons_of_mem _ (List.mem_append_right _ h))) ck_wsX7_grants_g)
set_option maxRecDepth 20000 in
theorem gX7_grants_X7_cut : GoodIn wsX7_grants (wsV RX7 83 RX7 yX7_cut wsX7_cut) := goodIn_app (goodIn_of _ (by decide +kernel)) ggX7_grants_X7_cut
theorem dX7_grants_0 : decode cX7_grants 0 = .ok (.aload_n 0, 1) := by decide +kernel
theorem dX7_grants_1 : decode cX7_grants 1 = .ok (.getfield 7, 3) := by decide +kernel
theorem dX7_grants_4 : decode cX7_grants 4 = .ok (.iconst 0, 1) := by decide +kernel
theorem dX7_grants_5 : decode cX7_grants 5 = .ok (.iload_n 1, 1) := by decide +kernel
theorem dX7_grants_6 : decode cX7_grants 6 = .ok (.iastore, 1) := by decide +kernel
theorem dX7_grants_7 : decode cX7_grants 7 = .ok (.aload_n 0, 1) := by decide +kernel
theorem dX7_grants_8 : decode cX7_grants 8 = .ok (.getfield 7, 3) := by decide +kernel
theorem dX7_grants_11 : decode cX7_grants 11 = .ok (.iconst 2, 1) := by decide +kernel
theorem dX7_grants_12 : decode cX7_grants 12 = .ok (.iaload, 1) := by decide +kernel
theorem dX7_grants_13 : decode cX7_grants 13 = .ok (.iconst 1, 1) := by decide +kernel
theorem dX7_grants_14 : decode cX7_grants 14 = .ok (.if_icmp .ne 19, 3) := by decide +kernel
theorem dX7_grants_17 : decode cX7_grants 17 = .ok (.aload_n 0, 1) := by decide +kernel
theorem dX7_grants_18 : decode cX7_grants 18 = .ok (.iconst 1, 1) := by decide +kernel
theorem dX7_grants_19 : decode cX7_grants 19 = .ok (.invokevirtual 48, 3) := by decide +kernel
theorem dX7_grants_22 : decode cX7_grants 22 = .ok (.iload_n 1, 1) := by decide +kernel
theorem dX7_grants_23 : decode cX7_grants 23 = .ok (.if_icmp .le 10, 3) := by decide +kernel
theorem dX7_grants_26 : decode cX7_grants 26 = .ok (.aload_n 0, 1) := by decide +kernel
theorem dX7_grants_27 : decode cX7_grants 27 = .ok (.invokevirtual 64, 3) := by decide +kernel
theorem dX7_grants_30 : decode cX7_grants 30 = .ok (.pop, 1) := by decide +kernel
theorem dX7_grants_31 : decode cX7_grants 31 = .ok (.iconst 1, 1) := by decide +kernel
theorem dX7_grants_32 : decode cX7_grants 32 = .ok (.ireturn, 1) := by decide +kernel
theorem dX7_grants_33 : decode cX7_grants 33 = .ok (.aload_n 0, 1) := by decide +kernel
theorem dX7_grants_34 : decode cX7_grants 34 = .ok (.getfield 7, 3) := by decide +kernel
theorem dX7_grants_37 : decode cX7_grants 37 = .ok (.iconst 5, 1) := by decide +kernel
theorem dX7_grants_38 : decode cX7_grants 38 = .ok (.iaload, 1) := by decide +kernel
theorem dX7_grants_39 : decode cX7_grants 39 = .ok (.iconst 1, 1) := by decide +kernel
theorem dX7_grants_40 : decode cX7_grants 40 = .ok (.if_icmp .ne 21, 3) := by decide +kernel
theorem dX7_grants_43 : decode cX7_grants 43 = .ok (.aload_n 0, 1) := by decide +kernel
theorem dX7_grants_44 : decode cX7_grants 44 = .ok (.invokevirtual 77, 3) := by decide +kernel
theorem dX7_grants_47 : decode cX7_grants 47 = .ok (.iload_n 1, 1) := by decide +kernel
theorem dX7_grants_48 : decode cX7_grants 48 = .ok (.invokestatic 80, 3) := by decide +kernel
theorem dX7_grants_51 : decode cX7_grants 51 = .ok (.if_icmp .le 10, 3) := by decide +kernel
theorem dX7_grants_54 : decode cX7_grants 54 = .ok (.aload_n 0, 1) := by decide +kernel
theorem dX7_grants_55 : decode cX7_grants 55 = .ok (.invokevirtual 83, 3) := by decide +kernel
theorem dX7_grants_58 : decode cX7_grants 58 = .ok (.goto 4, 3) := by decide +kernel
theorem dX7_grants_61 : decode cX7_grants 61 = .ok (.iconst 0, 1) := by decide +kernel
theorem dX7_grants_62 : decode cX7_grants 62 = .ok (.ireturn, 1) := by decide +kernel
set_option maxRecDepth 20000 in
theorem ggX7_isSize_X7_in : GoodIn wsX7_isSize wsX7_in := goodIn_r _ [4] (by decide +kernel) (by decide +kernel)
set_option maxRecDepth 20000 in
theorem gX7_isSize_X7_in : GoodIn wsX7_isSize (va_wsS RX7 44 yX7_in wsX7_in) := goodIn_app (goodIn_of _ (by decide +kernel)) ggX7_isSize_X7_in
theorem dX7_isSize_0 : decode cX7_isSize 0 = .ok (.iload_n 0, 1) := by decide +kernel
theorem dX7_isSize_1 : decode cX7_isSize 1 = .ok (.iconst 2, 1) := by decide +kernel
theorem dX7_isSize_2 : decode cX7_isSize 2 = .ok (.bipush 20, 2) := by decide +kernel
theorem dX7_isSize_4 : decode cX7_isSize 4 = .ok (.invokestatic 44, 3) := by decide +kernel
theorem dX7_isSize_7 : decode cX7_isSize 7 = .ok (.ireturn, 1) := by decide +kernel
def ck_wsX7_grant : List (List Cond) := [[.code yX7_grant cX7_grant 2 (some .int)], wsX7_grant_r1, wsX7_grant_r2, wsX7_grant_r3]
theorem ck_wsX7_grant_m : ∀ c ∈ ck_wsX7_grant, ∀ w ∈ c, w ∈ wsX7_grant := List.forall_mem_cons.mpr ⟨fun w h => List.mem_cons.mpr (Or.inl (List.mem_singleton.mp h)), List.forall_mem_cons.mpr ⟨fun _ h => (List.mem_cons_of_mem _ (List.mem_append_left _ (List.mem_append_left _ h))), List.forall_mem_cons.mpr ⟨fun _ h => (List.mem_cons_of_mem _ (List.mem_append_left _ (List.mem_append_right _ (List.mem_append_left _ h)))), List.forall_mem_cons.mpr ⟨fun _ h => (List.mem_cons_of_mem _ (List.mem_append_left _ (List.mem_append_right _ (List.mem_append_right _ h)))), fun _ h => absurd h List.not_mem_nil⟩⟩⟩⟩
set_option maxRecDepth 100000 in
theorem ck_wsX7_grant_g : ∀ w ∈ wsX7_grant, goodWord w = true := List.all_eq_true.mp (by decide +kernel)
set_option maxRecDepth 100000 in
theorem ggX7_grant_X7_isSize : GoodIn wsX7_grant wsX7_isSize := goodIn_2 ck_wsX7_grant [(1, 3), (1, 4), (1, 5), (1, 2), (1, 6)] ck_wsX7_grant_m ck_wsX7_grant_g rfl
set_option maxRecDepth 20000 in
theorem gX7_grant_X7_isSize : GoodIn wsX7_grant (va_wsS RX7 86 yX7_isSize wsX7_isSize) := goodIn_app (goodIn_of _ (by decide +kernel)) ggX7_grant_X7_isSize
set_option maxRecDepth 100000 in
theorem ggX7_grant_X7_record : GoodIn wsX7_grant wsX7_record := goodIn_ca (goodIn_2 ck_wsX7_grant [(1, 10), (1, 11), (1, 12), (1, 13)] ck_wsX7_grant_m ck_wsX7_grant_g rfl) (goodIn_b (fun _ h => (List.mem_cons_of_mem _ (List.mem_append_right _ h))) ck_wsX7_grant_g)
set_option maxRecDepth 20000 in
theorem gX7_grant_X7_record : GoodIn wsX7_grant (wsV RX7 37 RX7 yX7_record wsX7_record) := goodIn_app (goodIn_of _ (by decide +kernel)) ggX7_grant_X7_record
set_option maxRecDepth 100000 in
theorem ggX7_grant_X7_grants : GoodIn wsX7_grant wsX7_grants := goodIn_ca (goodIn_2 ck_wsX7_grant [(1, 17), (1, 13), (1, 18), (1, 19), (1, 20), (1, 2), (1, 21), (1, 22), (1, 23), (2, 0), (2, 1), (2, 2), (2, 3), (2, 4), (2, 5), (2, 6), (2, 7), (2, 8), (2, 9), (2, 10), (2, 11), (2, 12), (2, 13), (2, 14), (2, 15), (2, 16), (2, 17), (2, 18), (2, 19), (2, 20), (2, 21), (2, 22), (2, 23), (3, 0), (3, 1), (3, 2), (3, 3), (3, 4)] ck_wsX7_grant_m ck_wsX7_grant_g rfl) (goodIn_b (fun _ h => (List.mem_cons_of_mem _ (List.mem_append_right _ h))) ck_wsX7_grant_g)
set_option maxRecDepth 20000 in
theorem gX7_grant_X7_grants : GoodIn wsX7_grant (wsV RX7 90 RX7 yX7_grants wsX7_grants) := goodIn_app (goodIn_of _ (by decide +kernel)) ggX7_grant_X7_grants
theorem dX7_grant_0 : decode cX7_grant 0 = .ok (.iload_n 1, 1) := by decide +kernel
theorem dX7_grant_1 : decode cX7_grant 1 = .ok (.invokestatic 86, 3) := by decide +kernel
theorem dX7_grant_4 : decode cX7_grant 4 = .ok (.ifCond .ne 6, 3) := by decide +kernel
theorem dX7_grant_7 : decode cX7_grant 7 = .ok (.bipush (-2), 2) := by decide +kernel
theorem dX7_grant_9 : decode cX7_grant 9 = .ok (.ireturn, 1) := by decide +kernel
theorem dX7_grant_10 : decode cX7_grant 10 = .ok (.aload_n 0, 1) := by decide +kernel
theorem dX7_grant_11 : decode cX7_grant 11 = .ok (.invokevirtual 37, 3) := by decide +kernel
theorem dX7_grant_14 : decode cX7_grant 14 = .ok (.aload_n 0, 1) := by decide +kernel
theorem dX7_grant_15 : decode cX7_grant 15 = .ok (.iload_n 1, 1) := by decide +kernel
theorem dX7_grant_16 : decode cX7_grant 16 = .ok (.invokevirtual 90, 3) := by decide +kernel
theorem dX7_grant_19 : decode cX7_grant 19 = .ok (.ireturn, 1) := by decide +kernel
def ck_wsX7_memory : List (List Cond) := [[.code yX7_memory cX7_memory 2 (some .int)], wsX7_memory_r1, wsX7_memory_r2]
theorem ck_wsX7_memory_m : ∀ c ∈ ck_wsX7_memory, ∀ w ∈ c, w ∈ wsX7_memory := List.forall_mem_cons.mpr ⟨fun w h => List.mem_cons.mpr (Or.inl (List.mem_singleton.mp h)), List.forall_mem_cons.mpr ⟨fun _ h => (List.mem_cons_of_mem _ (List.mem_append_left _ (List.mem_append_left _ h))), List.forall_mem_cons.mpr ⟨fun _ h => (List.mem_cons_of_mem _ (List.mem_append_left _ (List.mem_append_right _ h))), fun _ h => absurd h List.not_mem_nil⟩⟩⟩
set_option maxRecDepth 100000 in
theorem ck_wsX7_memory_g : ∀ w ∈ wsX7_memory, goodWord w = true := List.all_eq_true.mp (by decide +kernel)
set_option maxRecDepth 100000 in
theorem ggX7_memory_X7_rowsAt : GoodIn wsX7_memory wsX7_rowsAt := goodIn_ca (goodIn_2 ck_wsX7_memory [(1, 5), (1, 0), (1, 6), (1, 7), (1, 8), (1, 4), (1, 9)] ck_wsX7_memory_m ck_wsX7_memory_g rfl) (goodIn_b (fun _ h => (List.mem_cons_of_mem _ (List.mem_append_right _ h))) ck_wsX7_memory_g)
set_option maxRecDepth 20000 in
theorem gX7_memory_X7_rowsAt : GoodIn wsX7_memory (wsV RX7 48 RX7 yX7_rowsAt wsX7_rowsAt) := goodIn_app (goodIn_of _ (by decide +kernel)) ggX7_memory_X7_rowsAt
set_option maxRecDepth 100000 in
theorem ggX7_memory_X7_inputsLeft : GoodIn wsX7_memory wsX7_inputsLeft := goodIn_ca (goodIn_2 ck_wsX7_memory [(1, 13), (1, 14), (1, 15), (1, 16), (1, 4), (1, 17), (1, 18), (1, 19), (1, 20), (1, 21), (1, 0), (1, 6), (1, 7), (1, 8), (1, 9)] ck_wsX7_memory_m ck_wsX7_memory_g rfl) (goodIn_b (fun _ h => (List.mem_cons_of_mem _ (List.mem_append_right _ h))) ck_wsX7_memory_g)
set_option maxRecDepth 20000 in
theorem gX7_memory_X7_inputsLeft : GoodIn wsX7_memory (wsV RX7 77 RX7 yX7_inputsLeft wsX7_inputsLeft) := goodIn_app (goodIn_of _ (by decide +kernel)) ggX7_memory_X7_inputsLeft
set_option maxRecDepth 100000 in
theorem ggX7_memory_X7_waysOf : GoodIn wsX7_memory wsX7_waysOf := goodIn_2 ck_wsX7_memory [(2, 0)] ck_wsX7_memory_m ck_wsX7_memory_g rfl
set_option maxRecDepth 20000 in
theorem gX7_memory_X7_waysOf : GoodIn wsX7_memory (va_wsS RX7 80 yX7_waysOf wsX7_waysOf) := goodIn_app (goodIn_of _ (by decide +kernel)) ggX7_memory_X7_waysOf
theorem dX7_memory_0 : decode cX7_memory 0 = .ok (.iload_n 1, 1) := by decide +kernel
theorem dX7_memory_1 : decode cX7_memory 1 = .ok (.tableswitch 83 0 2 #[27, 34, 73], 27) := by decide +kernel
theorem dX7_memory_28 : decode cX7_memory 28 = .ok (.aload_n 0, 1) := by decide +kernel
theorem dX7_memory_29 : decode cX7_memory 29 = .ok (.getfield 7, 3) := by decide +kernel
theorem dX7_memory_32 : decode cX7_memory 32 = .ok (.iconst 0, 1) := by decide +kernel
theorem dX7_memory_33 : decode cX7_memory 33 = .ok (.iaload, 1) := by decide +kernel
theorem dX7_memory_34 : decode cX7_memory 34 = .ok (.ireturn, 1) := by decide +kernel
theorem dX7_memory_35 : decode cX7_memory 35 = .ok (.aload_n 0, 1) := by decide +kernel
theorem dX7_memory_36 : decode cX7_memory 36 = .ok (.getfield 7, 3) := by decide +kernel
theorem dX7_memory_39 : decode cX7_memory 39 = .ok (.iconst 2, 1) := by decide +kernel
theorem dX7_memory_40 : decode cX7_memory 40 = .ok (.iaload, 1) := by decide +kernel
theorem dX7_memory_41 : decode cX7_memory 41 = .ok (.iconst 1, 1) := by decide +kernel
theorem dX7_memory_42 : decode cX7_memory 42 = .ok (.if_icmp .ne 11, 3) := by decide +kernel
theorem dX7_memory_45 : decode cX7_memory 45 = .ok (.aload_n 0, 1) := by decide +kernel
theorem dX7_memory_46 : decode cX7_memory 46 = .ok (.iconst 1, 1) := by decide +kernel
theorem dX7_memory_47 : decode cX7_memory 47 = .ok (.invokevirtual 48, 3) := by decide +kernel
theorem dX7_memory_50 : decode cX7_memory 50 = .ok (.goto 23, 3) := by decide +kernel
theorem dX7_memory_53 : decode cX7_memory 53 = .ok (.aload_n 0, 1) := by decide +kernel
theorem dX7_memory_54 : decode cX7_memory 54 = .ok (.getfield 7, 3) := by decide +kernel
theorem dX7_memory_57 : decode cX7_memory 57 = .ok (.iconst 5, 1) := by decide +kernel
theorem dX7_memory_58 : decode cX7_memory 58 = .ok (.iaload, 1) := by decide +kernel
theorem dX7_memory_59 : decode cX7_memory 59 = .ok (.iconst 1, 1) := by decide +kernel
theorem dX7_memory_60 : decode cX7_memory 60 = .ok (.if_icmp .ne 12, 3) := by decide +kernel
theorem dX7_memory_63 : decode cX7_memory 63 = .ok (.aload_n 0, 1) := by decide +kernel
theorem dX7_memory_64 : decode cX7_memory 64 = .ok (.invokevirtual 77, 3) := by decide +kernel
theorem dX7_memory_67 : decode cX7_memory 67 = .ok (.iconst 1, 1) := by decide +kernel
theorem dX7_memory_68 : decode cX7_memory 68 = .ok (.iadd, 1) := by decide +kernel
theorem dX7_memory_69 : decode cX7_memory 69 = .ok (.goto 4, 3) := by decide +kernel
theorem dX7_memory_72 : decode cX7_memory 72 = .ok (.iconst 0, 1) := by decide +kernel
theorem dX7_memory_73 : decode cX7_memory 73 = .ok (.ireturn, 1) := by decide +kernel
theorem dX7_memory_74 : decode cX7_memory 74 = .ok (.aload_n 0, 1) := by decide +kernel
theorem dX7_memory_75 : decode cX7_memory 75 = .ok (.getfield 7, 3) := by decide +kernel
theorem dX7_memory_78 : decode cX7_memory 78 = .ok (.iconst 0, 1) := by decide +kernel
theorem dX7_memory_79 : decode cX7_memory 79 = .ok (.iaload, 1) := by decide +kernel
theorem dX7_memory_80 : decode cX7_memory 80 = .ok (.invokestatic 80, 3) := by decide +kernel
theorem dX7_memory_83 : decode cX7_memory 83 = .ok (.ireturn, 1) := by decide +kernel
theorem dX7_memory_84 : decode cX7_memory 84 = .ok (.bipush (-2), 2) := by decide +kernel
theorem dX7_memory_86 : decode cX7_memory 86 = .ok (.ireturn, 1) := by decide +kernel
set_option maxRecDepth 20000 in
theorem ggX7_inMemory_X7_place : GoodIn wsX7_inMemory wsX7_place := goodIn_r _ [6, 1, 7, 8, 9, 10, 11, 12, 13, 14, 15, 16, 17, 18] (by decide +kernel) (by decide +kernel)
set_option maxRecDepth 20000 in
theorem gX7_inMemory_X7_place : GoodIn wsX7_inMemory (wsV RX7 40 RX7 yX7_place wsX7_place) := goodIn_app (goodIn_of _ (by decide +kernel)) ggX7_inMemory_X7_place
theorem dX7_inMemory_0 : decode cX7_inMemory 0 = .ok (.iload_n 1, 1) := by decide +kernel
theorem dX7_inMemory_1 : decode cX7_inMemory 1 = .ok (.istore_n 2, 1) := by decide +kernel
theorem dX7_inMemory_2 : decode cX7_inMemory 2 = .ok (.iconst 0, 1) := by decide +kernel
theorem dX7_inMemory_3 : decode cX7_inMemory 3 = .ok (.istore_n 3, 1) := by decide +kernel
theorem dX7_inMemory_4 : decode cX7_inMemory 4 = .ok (.iload_n 3, 1) := by decide +kernel
theorem dX7_inMemory_5 : decode cX7_inMemory 5 = .ok (.aload_n 0, 1) := by decide +kernel
theorem dX7_inMemory_6 : decode cX7_inMemory 6 = .ok (.getfield 7, 3) := by decide +kernel
theorem dX7_inMemory_9 : decode cX7_inMemory 9 = .ok (.iconst 3, 1) := by decide +kernel
theorem dX7_inMemory_10 : decode cX7_inMemory 10 = .ok (.iaload, 1) := by decide +kernel
theorem dX7_inMemory_11 : decode cX7_inMemory 11 = .ok (.if_icmp .ge 39, 3) := by decide +kernel
theorem dX7_inMemory_14 : decode cX7_inMemory 14 = .ok (.iload_n 1, 1) := by decide +kernel
theorem dX7_inMemory_15 : decode cX7_inMemory 15 = .ok (.ifCond .lt 35, 3) := by decide +kernel
theorem dX7_inMemory_18 : decode cX7_inMemory 18 = .ok (.aload_n 0, 1) := by decide +kernel
theorem dX7_inMemory_19 : decode cX7_inMemory 19 = .ok (.iload_n 3, 1) := by decide +kernel
theorem dX7_inMemory_20 : decode cX7_inMemory 20 = .ok (.invokevirtual 40, 3) := by decide +kernel
theorem dX7_inMemory_23 : decode cX7_inMemory 23 = .ok (.iconst 1, 1) := by decide +kernel
theorem dX7_inMemory_24 : decode cX7_inMemory 24 = .ok (.if_icmp .ne 20, 3) := by decide +kernel
theorem dX7_inMemory_27 : decode cX7_inMemory 27 = .ok (.iload_n 2, 1) := by decide +kernel
theorem dX7_inMemory_28 : decode cX7_inMemory 28 = .ok (.ifCond .ne 13, 3) := by decide +kernel
theorem dX7_inMemory_31 : decode cX7_inMemory 31 = .ok (.aload_n 0, 1) := by decide +kernel
theorem dX7_inMemory_32 : decode cX7_inMemory 32 = .ok (.getfield 7, 3) := by decide +kernel
theorem dX7_inMemory_35 : decode cX7_inMemory 35 = .ok (.bipush 10, 2) := by decide +kernel
theorem dX7_inMemory_37 : decode cX7_inMemory 37 = .ok (.iload_n 3, 1) := by decide +kernel
theorem dX7_inMemory_38 : decode cX7_inMemory 38 = .ok (.iadd, 1) := by decide +kernel
theorem dX7_inMemory_39 : decode cX7_inMemory 39 = .ok (.iaload, 1) := by decide +kernel
theorem dX7_inMemory_40 : decode cX7_inMemory 40 = .ok (.ireturn, 1) := by decide +kernel
theorem dX7_inMemory_41 : decode cX7_inMemory 41 = .ok (.iinc 2 (-1), 3) := by decide +kernel
theorem dX7_inMemory_44 : decode cX7_inMemory 44 = .ok (.iinc 3 1, 3) := by decide +kernel
theorem dX7_inMemory_47 : decode cX7_inMemory 47 = .ok (.goto (-43), 3) := by decide +kernel
theorem dX7_inMemory_50 : decode cX7_inMemory 50 = .ok (.iconst (-1), 1) := by decide +kernel
theorem dX7_inMemory_51 : decode cX7_inMemory 51 = .ok (.ireturn, 1) := by decide +kernel
set_option maxRecDepth 20000 in
theorem ggX7_smallest_X7_nextPlace : GoodIn wsX7_smallest wsX7_nextPlace := goodIn_r _ [5, 6, 7, 8, 9, 4, 10, 15, 16, 17, 18, 19, 20, 21, 22, 23, 24, 25, 26] (by decide +kernel) (by decide +kernel)
set_option maxRecDepth 20000 in
theorem gX7_smallest_X7_nextPlace : GoodIn wsX7_smallest (wsV RX7 51 RX7 yX7_nextPlace wsX7_nextPlace) := goodIn_app (goodIn_of _ (by decide +kernel)) ggX7_smallest_X7_nextPlace
set_option maxRecDepth 20000 in
theorem ggX7_smallest_X7_rowsAt : GoodIn wsX7_smallest wsX7_rowsAt := goodIn_r _ [14, 6, 7, 8, 9, 4, 10, 15, 16, 17, 18, 19, 20, 21, 22, 23, 24, 25, 26] (by decide +kernel) (by decide +kernel)
set_option maxRecDepth 20000 in
theorem gX7_smallest_X7_rowsAt : GoodIn wsX7_smallest (wsV RX7 48 RX7 yX7_rowsAt wsX7_rowsAt) := goodIn_app (goodIn_of _ (by decide +kernel)) ggX7_smallest_X7_rowsAt
theorem dX7_smallest_0 : decode cX7_smallest 0 = .ok (.bipush (-6), 2) := by decide +kernel
theorem dX7_smallest_2 : decode cX7_smallest 2 = .ok (.istore_n 1, 1) := by decide +kernel
theorem dX7_smallest_3 : decode cX7_smallest 3 = .ok (.iconst 0, 1) := by decide +kernel
theorem dX7_smallest_4 : decode cX7_smallest 4 = .ok (.istore_n 2, 1) := by decide +kernel
theorem dX7_smallest_5 : decode cX7_smallest 5 = .ok (.aload_n 0, 1) := by decide +kernel
theorem dX7_smallest_6 : decode cX7_smallest 6 = .ok (.iconst 0, 1) := by decide +kernel
theorem dX7_smallest_7 : decode cX7_smallest 7 = .ok (.iconst 0, 1) := by decide +kernel
theorem dX7_smallest_8 : decode cX7_smallest 8 = .ok (.invokevirtual 51, 3) := by decide +kernel
theorem dX7_smallest_11 : decode cX7_smallest 11 = .ok (.istore_n 3, 1) := by decide +kernel
theorem dX7_smallest_12 : decode cX7_smallest 12 = .ok (.iload_n 3, 1) := by decide +kernel
theorem dX7_smallest_13 : decode cX7_smallest 13 = .ok (.bipush (-6), 2) := by decide +kernel
theorem dX7_smallest_15 : decode cX7_smallest 15 = .ok (.if_icmp .eq 62, 3) := by decide +kernel
theorem dX7_smallest_18 : decode cX7_smallest 18 = .ok (.aload_n 0, 1) := by decide +kernel
theorem dX7_smallest_19 : decode cX7_smallest 19 = .ok (.iload_n 3, 1) := by decide +kernel
theorem dX7_smallest_20 : decode cX7_smallest 20 = .ok (.invokevirtual 48, 3) := by decide +kernel
theorem dX7_smallest_23 : decode cX7_smallest 23 = .ok (.istore 4, 2) := by decide +kernel
theorem dX7_smallest_25 : decode cX7_smallest 25 = .ok (.iload_n 1, 1) := by decide +kernel
theorem dX7_smallest_26 : decode cX7_smallest 26 = .ok (.bipush (-6), 2) := by decide +kernel
theorem dX7_smallest_28 : decode cX7_smallest 28 = .ok (.if_icmp .eq 9, 3) := by decide +kernel
theorem dX7_smallest_31 : decode cX7_smallest 31 = .ok (.iload 4, 2) := by decide +kernel
theorem dX7_smallest_33 : decode cX7_smallest 33 = .ok (.iload_n 2, 1) := by decide +kernel
theorem dX7_smallest_34 : decode cX7_smallest 34 = .ok (.if_icmp .ge 7, 3) := by decide +kernel
theorem dX7_smallest_37 : decode cX7_smallest 37 = .ok (.iconst 1, 1) := by decide +kernel
theorem dX7_smallest_38 : decode cX7_smallest 38 = .ok (.goto 4, 3) := by decide +kernel
theorem dX7_smallest_41 : decode cX7_smallest 41 = .ok (.iconst 0, 1) := by decide +kernel
theorem dX7_smallest_42 : decode cX7_smallest 42 = .ok (.istore 5, 2) := by decide +kernel
theorem dX7_smallest_44 : decode cX7_smallest 44 = .ok (.iload 5, 2) := by decide +kernel
theorem dX7_smallest_46 : decode cX7_smallest 46 = .ok (.ifCond .eq 7, 3) := by decide +kernel
theorem dX7_smallest_49 : decode cX7_smallest 49 = .ok (.iload_n 3, 1) := by decide +kernel
theorem dX7_smallest_50 : decode cX7_smallest 50 = .ok (.goto 4, 3) := by decide +kernel
theorem dX7_smallest_53 : decode cX7_smallest 53 = .ok (.iload_n 1, 1) := by decide +kernel
theorem dX7_smallest_54 : decode cX7_smallest 54 = .ok (.istore_n 1, 1) := by decide +kernel
theorem dX7_smallest_55 : decode cX7_smallest 55 = .ok (.iload 5, 2) := by decide +kernel
theorem dX7_smallest_57 : decode cX7_smallest 57 = .ok (.ifCond .eq 8, 3) := by decide +kernel
theorem dX7_smallest_60 : decode cX7_smallest 60 = .ok (.iload 4, 2) := by decide +kernel
theorem dX7_smallest_62 : decode cX7_smallest 62 = .ok (.goto 4, 3) := by decide +kernel
theorem dX7_smallest_65 : decode cX7_smallest 65 = .ok (.iload_n 2, 1) := by decide +kernel
theorem dX7_smallest_66 : decode cX7_smallest 66 = .ok (.istore_n 2, 1) := by decide +kernel
theorem dX7_smallest_67 : decode cX7_smallest 67 = .ok (.aload_n 0, 1) := by decide +kernel
theorem dX7_smallest_68 : decode cX7_smallest 68 = .ok (.iload_n 3, 1) := by decide +kernel
theorem dX7_smallest_69 : decode cX7_smallest 69 = .ok (.iconst 0, 1) := by decide +kernel
theorem dX7_smallest_70 : decode cX7_smallest 70 = .ok (.invokevirtual 51, 3) := by decide +kernel
theorem dX7_smallest_73 : decode cX7_smallest 73 = .ok (.istore_n 3, 1) := by decide +kernel
theorem dX7_smallest_74 : decode cX7_smallest 74 = .ok (.goto (-62), 3) := by decide +kernel
theorem dX7_smallest_77 : decode cX7_smallest 77 = .ok (.iload_n 1, 1) := by decide +kernel
theorem dX7_smallest_78 : decode cX7_smallest 78 = .ok (.ireturn, 1) := by decide +kernel
def ck_wsX7_begins : List (List Cond) := [[.code yX7_begins cX7_begins 6 none], wsX7_begins_r1, wsX7_begins_r2]
theorem ck_wsX7_begins_m : ∀ c ∈ ck_wsX7_begins, ∀ w ∈ c, w ∈ wsX7_begins := List.forall_mem_cons.mpr ⟨fun w h => List.mem_cons.mpr (Or.inl (List.mem_singleton.mp h)), List.forall_mem_cons.mpr ⟨fun _ h => (List.mem_cons_of_mem _ (List.mem_append_left _ (List.mem_append_left _ h))), List.forall_mem_cons.mpr ⟨fun _ h => (List.mem_cons_of_mem _ (List.mem_append_left _ (List.mem_append_right _ h))), fun _ h => absurd h List.not_mem_nil⟩⟩⟩
set_option maxRecDepth 100000 in
theorem ck_wsX7_begins_g : ∀ w ∈ wsX7_begins, goodWord w = true := List.all_eq_true.mp (by decide +kernel)
set_option maxRecDepth 100000 in
theorem ggX7_begins_X7_runMany : GoodIn wsX7_begins wsX7_runMany := goodIn_ca (goodIn_2 ck_wsX7_begins [(1, 5), (1, 6), (1, 7), (1, 8), (1, 4), (1, 9), (1, 10), (1, 11), (1, 12), (1, 13), (1, 0), (1, 14), (1, 15), (1, 16), (1, 17)] ck_wsX7_begins_m ck_wsX7_begins_g rfl) (goodIn_b (fun _ h => (List.mem_cons_of_mem _ (List.mem_append_right _ h))) ck_wsX7_begins_g)
set_option maxRecDepth 20000 in
theorem gX7_begins_X7_runMany : GoodIn wsX7_begins (wsV RX7 74 RX7 yX7_runMany wsX7_runMany) := goodIn_app (goodIn_of _ (by decide +kernel)) ggX7_begins_X7_runMany
set_option maxRecDepth 100000 in
theorem ggX7_begins_X7_waysOf : GoodIn wsX7_begins wsX7_waysOf := goodIn_2 ck_wsX7_begins [(1, 20)] ck_wsX7_begins_m ck_wsX7_begins_g rfl
set_option maxRecDepth 20000 in
theorem gX7_begins_X7_waysOf : GoodIn wsX7_begins (va_wsS RX7 80 yX7_waysOf wsX7_waysOf) := goodIn_app (goodIn_of _ (by decide +kernel)) ggX7_begins_X7_waysOf
set_option maxRecDepth 100000 in
theorem ggX7_begins_X7_smallest : GoodIn wsX7_begins wsX7_smallest := goodIn_ca (goodIn_2 ck_wsX7_begins [(2, 0), (1, 10), (1, 11), (1, 12), (1, 4), (1, 13), (1, 0), (1, 14), (1, 15), (1, 16), (1, 17), (2, 1), (2, 2), (2, 3), (2, 4)] ck_wsX7_begins_m ck_wsX7_begins_g rfl) (goodIn_b (fun _ h => (List.mem_cons_of_mem _ (List.mem_append_right _ h))) ck_wsX7_begins_g)
set_option maxRecDepth 20000 in
theorem gX7_begins_X7_smallest : GoodIn wsX7_begins (wsV RX7 93 RX7 yX7_smallest wsX7_smallest) := goodIn_app (goodIn_of _ (by decide +kernel)) ggX7_begins_X7_smallest
set_option maxRecDepth 100000 in
theorem ggX7_begins_X7_place : GoodIn wsX7_begins wsX7_place := goodIn_ca (goodIn_2 ck_wsX7_begins [(1, 17), (1, 0)] ck_wsX7_begins_m ck_wsX7_begins_g rfl) (goodIn_b (fun _ h => (List.mem_cons_of_mem _ (List.mem_append_right _ h))) ck_wsX7_begins_g)
set_option maxRecDepth 20000 in
theorem gX7_begins_X7_place : GoodIn wsX7_begins (wsV RX7 40 RX7 yX7_place wsX7_place) := goodIn_app (goodIn_of _ (by decide +kernel)) ggX7_begins_X7_place
theorem dX7_begins_0 : decode cX7_begins 0 = .ok (.aload_n 0, 1) := by decide +kernel
theorem dX7_begins_1 : decode cX7_begins 1 = .ok (.invokevirtual 74, 3) := by decide +kernel
theorem dX7_begins_4 : decode cX7_begins 4 = .ok (.istore_n 1, 1) := by decide +kernel
theorem dX7_begins_5 : decode cX7_begins 5 = .ok (.aload_n 0, 1) := by decide +kernel
theorem dX7_begins_6 : decode cX7_begins 6 = .ok (.getfield 7, 3) := by decide +kernel
theorem dX7_begins_9 : decode cX7_begins 9 = .ok (.iconst 0, 1) := by decide +kernel
theorem dX7_begins_10 : decode cX7_begins 10 = .ok (.iaload, 1) := by decide +kernel
theorem dX7_begins_11 : decode cX7_begins 11 = .ok (.invokestatic 80, 3) := by decide +kernel
theorem dX7_begins_14 : decode cX7_begins 14 = .ok (.istore_n 2, 1) := by decide +kernel
theorem dX7_begins_15 : decode cX7_begins 15 = .ok (.aload_n 0, 1) := by decide +kernel
theorem dX7_begins_16 : decode cX7_begins 16 = .ok (.getfield 7, 3) := by decide +kernel
theorem dX7_begins_19 : decode cX7_begins 19 = .ok (.bipush 6, 2) := by decide +kernel
theorem dX7_begins_21 : decode cX7_begins 21 = .ok (.iload_n 1, 1) := by decide +kernel
theorem dX7_begins_22 : decode cX7_begins 22 = .ok (.iload_n 2, 1) := by decide +kernel
theorem dX7_begins_23 : decode cX7_begins 23 = .ok (.if_icmp .ge 7, 3) := by decide +kernel
theorem dX7_begins_26 : decode cX7_begins 26 = .ok (.iload_n 1, 1) := by decide +kernel
theorem dX7_begins_27 : decode cX7_begins 27 = .ok (.goto 4, 3) := by decide +kernel
theorem dX7_begins_30 : decode cX7_begins 30 = .ok (.iload_n 2, 1) := by decide +kernel
theorem dX7_begins_31 : decode cX7_begins 31 = .ok (.iastore, 1) := by decide +kernel
theorem dX7_begins_32 : decode cX7_begins 32 = .ok (.iconst 0, 1) := by decide +kernel
theorem dX7_begins_33 : decode cX7_begins 33 = .ok (.istore_n 3, 1) := by decide +kernel
theorem dX7_begins_34 : decode cX7_begins 34 = .ok (.iload_n 3, 1) := by decide +kernel
theorem dX7_begins_35 : decode cX7_begins 35 = .ok (.aload_n 0, 1) := by decide +kernel
theorem dX7_begins_36 : decode cX7_begins 36 = .ok (.getfield 7, 3) := by decide +kernel
theorem dX7_begins_39 : decode cX7_begins 39 = .ok (.bipush 6, 2) := by decide +kernel
theorem dX7_begins_41 : decode cX7_begins 41 = .ok (.iaload, 1) := by decide +kernel
theorem dX7_begins_42 : decode cX7_begins 42 = .ok (.if_icmp .ge 70, 3) := by decide +kernel
theorem dX7_begins_45 : decode cX7_begins 45 = .ok (.aload_n 0, 1) := by decide +kernel
theorem dX7_begins_46 : decode cX7_begins 46 = .ok (.invokevirtual 93, 3) := by decide +kernel
theorem dX7_begins_49 : decode cX7_begins 49 = .ok (.istore 4, 2) := by decide +kernel
theorem dX7_begins_51 : decode cX7_begins 51 = .ok (.iconst 0, 1) := by decide +kernel
theorem dX7_begins_52 : decode cX7_begins 52 = .ok (.istore 5, 2) := by decide +kernel
theorem dX7_begins_54 : decode cX7_begins 54 = .ok (.iload 5, 2) := by decide +kernel
theorem dX7_begins_56 : decode cX7_begins 56 = .ok (.aload_n 0, 1) := by decide +kernel
theorem dX7_begins_57 : decode cX7_begins 57 = .ok (.getfield 7, 3) := by decide +kernel
theorem dX7_begins_60 : decode cX7_begins 60 = .ok (.iconst 3, 1) := by decide +kernel
theorem dX7_begins_61 : decode cX7_begins 61 = .ok (.iaload, 1) := by decide +kernel
theorem dX7_begins_62 : decode cX7_begins 62 = .ok (.if_icmp .ge 44, 3) := by decide +kernel
theorem dX7_begins_65 : decode cX7_begins 65 = .ok (.aload_n 0, 1) := by decide +kernel
theorem dX7_begins_66 : decode cX7_begins 66 = .ok (.getfield 7, 3) := by decide +kernel
theorem dX7_begins_69 : decode cX7_begins 69 = .ok (.sipush 250, 3) := by decide +kernel
theorem dX7_begins_72 : decode cX7_begins 72 = .ok (.iload 5, 2) := by decide +kernel
theorem dX7_begins_74 : decode cX7_begins 74 = .ok (.iadd, 1) := by decide +kernel
theorem dX7_begins_75 : decode cX7_begins 75 = .ok (.aload_n 0, 1) := by decide +kernel
theorem dX7_begins_76 : decode cX7_begins 76 = .ok (.iload 5, 2) := by decide +kernel
theorem dX7_begins_78 : decode cX7_begins 78 = .ok (.invokevirtual 40, 3) := by decide +kernel
theorem dX7_begins_81 : decode cX7_begins 81 = .ok (.iload 4, 2) := by decide +kernel
theorem dX7_begins_83 : decode cX7_begins 83 = .ok (.if_icmp .ne 10, 3) := by decide +kernel
theorem dX7_begins_86 : decode cX7_begins 86 = .ok (.iload 4, 2) := by decide +kernel
theorem dX7_begins_88 : decode cX7_begins 88 = .ok (.iconst 1, 1) := by decide +kernel
theorem dX7_begins_89 : decode cX7_begins 89 = .ok (.iadd, 1) := by decide +kernel
theorem dX7_begins_90 : decode cX7_begins 90 = .ok (.goto 9, 3) := by decide +kernel
theorem dX7_begins_93 : decode cX7_begins 93 = .ok (.aload_n 0, 1) := by decide +kernel
theorem dX7_begins_94 : decode cX7_begins 94 = .ok (.iload 5, 2) := by decide +kernel
theorem dX7_begins_96 : decode cX7_begins 96 = .ok (.invokevirtual 40, 3) := by decide +kernel
theorem dX7_begins_99 : decode cX7_begins 99 = .ok (.iastore, 1) := by decide +kernel
theorem dX7_begins_100 : decode cX7_begins 100 = .ok (.iinc 5 1, 3) := by decide +kernel
theorem dX7_begins_103 : decode cX7_begins 103 = .ok (.goto (-49), 3) := by decide +kernel
theorem dX7_begins_106 : decode cX7_begins 106 = .ok (.iinc 3 1, 3) := by decide +kernel
theorem dX7_begins_109 : decode cX7_begins 109 = .ok (.goto (-75), 3) := by decide +kernel
theorem dX7_begins_112 : decode cX7_begins 112 = .ok (.aload_n 0, 1) := by decide +kernel
theorem dX7_begins_113 : decode cX7_begins 113 = .ok (.getfield 7, 3) := by decide +kernel
theorem dX7_begins_116 : decode cX7_begins 116 = .ok (.iconst 5, 1) := by decide +kernel
theorem dX7_begins_117 : decode cX7_begins 117 = .ok (.iconst 1, 1) := by decide +kernel
theorem dX7_begins_118 : decode cX7_begins 118 = .ok (.iastore, 1) := by decide +kernel
theorem dX7_begins_119 : decode cX7_begins 119 = .ok (.aload_n 0, 1) := by decide +kernel
theorem dX7_begins_120 : decode cX7_begins 120 = .ok (.getfield 7, 3) := by decide +kernel
theorem dX7_begins_123 : decode cX7_begins 123 = .ok (.bipush 8, 2) := by decide +kernel
theorem dX7_begins_125 : decode cX7_begins 125 = .ok (.dup2, 1) := by decide +kernel
theorem dX7_begins_126 : decode cX7_begins 126 = .ok (.iaload, 1) := by decide +kernel
theorem dX7_begins_127 : decode cX7_begins 127 = .ok (.iconst 1, 1) := by decide +kernel
theorem dX7_begins_128 : decode cX7_begins 128 = .ok (.iadd, 1) := by decide +kernel
theorem dX7_begins_129 : decode cX7_begins 129 = .ok (.iastore, 1) := by decide +kernel
theorem dX7_begins_130 : decode cX7_begins 130 = .ok (.return_, 1) := by decide +kernel
def ck_wsX7_merge : List (List Cond) := [[.code yX7_merge cX7_merge 1 (some .int)], wsX7_merge_r1, wsX7_merge_r2]
theorem ck_wsX7_merge_m : ∀ c ∈ ck_wsX7_merge, ∀ w ∈ c, w ∈ wsX7_merge := List.forall_mem_cons.mpr ⟨fun w h => List.mem_cons.mpr (Or.inl (List.mem_singleton.mp h)), List.forall_mem_cons.mpr ⟨fun _ h => (List.mem_cons_of_mem _ (List.mem_append_left _ (List.mem_append_left _ h))), List.forall_mem_cons.mpr ⟨fun _ h => (List.mem_cons_of_mem _ (List.mem_append_left _ (List.mem_append_right _ h))), fun _ h => absurd h List.not_mem_nil⟩⟩⟩
set_option maxRecDepth 100000 in
theorem ck_wsX7_merge_g : ∀ w ∈ wsX7_merge, goodWord w = true := List.all_eq_true.mp (by decide +kernel)
set_option maxRecDepth 100000 in
theorem ggX7_merge_X7_runMany : GoodIn wsX7_merge wsX7_runMany := goodIn_ca (goodIn_2 ck_wsX7_merge [(1, 5), (1, 6), (1, 7), (1, 8), (1, 4), (1, 9), (1, 10), (1, 11), (1, 12), (1, 13), (1, 0), (1, 14), (1, 15), (1, 16), (1, 17)] ck_wsX7_merge_m ck_wsX7_merge_g rfl) (goodIn_b (fun _ h => (List.mem_cons_of_mem _ (List.mem_append_right _ h))) ck_wsX7_merge_g)
set_option maxRecDepth 20000 in
theorem gX7_merge_X7_runMany : GoodIn wsX7_merge (wsV RX7 74 RX7 yX7_runMany wsX7_runMany) := goodIn_app (goodIn_of _ (by decide +kernel)) ggX7_merge_X7_runMany
set_option maxRecDepth 100000 in
theorem ggX7_merge_X7_waysOf : GoodIn wsX7_merge wsX7_waysOf := goodIn_2 ck_wsX7_merge [(1, 20)] ck_wsX7_merge_m ck_wsX7_merge_g rfl
set_option maxRecDepth 20000 in
theorem gX7_merge_X7_waysOf : GoodIn wsX7_merge (va_wsS RX7 80 yX7_waysOf wsX7_waysOf) := goodIn_app (goodIn_of _ (by decide +kernel)) ggX7_merge_X7_waysOf
set_option maxRecDepth 100000 in
theorem ggX7_merge_X7_record : GoodIn wsX7_merge wsX7_record := goodIn_ca (goodIn_2 ck_wsX7_merge [(2, 0), (2, 1), (2, 2), (1, 0)] ck_wsX7_merge_m ck_wsX7_merge_g rfl) (goodIn_b (fun _ h => (List.mem_cons_of_mem _ (List.mem_append_right _ h))) ck_wsX7_merge_g)
set_option maxRecDepth 20000 in
theorem gX7_merge_X7_record : GoodIn wsX7_merge (wsV RX7 37 RX7 yX7_record wsX7_record) := goodIn_app (goodIn_of _ (by decide +kernel)) ggX7_merge_X7_record
set_option maxRecDepth 100000 in
theorem ggX7_merge_X7_begins : GoodIn wsX7_merge wsX7_begins := goodIn_ca (goodIn_2 ck_wsX7_merge [(2, 6), (1, 0), (1, 1), (1, 2), (1, 3), (1, 4), (1, 5), (1, 6), (1, 7), (1, 8), (1, 9), (1, 10), (1, 11), (1, 12), (1, 13), (1, 14), (1, 15), (1, 16), (1, 17), (1, 18), (1, 19), (1, 20), (2, 7), (2, 8), (2, 9), (2, 10), (2, 11), (2, 12), (2, 13), (2, 14)] ck_wsX7_merge_m ck_wsX7_merge_g rfl) (goodIn_b (fun _ h => (List.mem_cons_of_mem _ (List.mem_append_right _ h))) ck_wsX7_merge_g)
set_option maxRecDepth 20000 in
theorem gX7_merge_X7_begins : GoodIn wsX7_merge (wsV RX7 96 RX7 yX7_begins wsX7_begins) := goodIn_app (goodIn_of _ (by decide +kernel)) ggX7_merge_X7_begins
theorem dX7_merge_0 : decode cX7_merge 0 = .ok (.aload_n 0, 1) := by decide +kernel
theorem dX7_merge_1 : decode cX7_merge 1 = .ok (.getfield 7, 3) := by decide +kernel
theorem dX7_merge_4 : decode cX7_merge 4 = .ok (.iconst 2, 1) := by decide +kernel
theorem dX7_merge_5 : decode cX7_merge 5 = .ok (.iaload, 1) := by decide +kernel
theorem dX7_merge_6 : decode cX7_merge 6 = .ok (.iconst 1, 1) := by decide +kernel
theorem dX7_merge_7 : decode cX7_merge 7 = .ok (.if_icmp .eq 34, 3) := by decide +kernel
theorem dX7_merge_10 : decode cX7_merge 10 = .ok (.aload_n 0, 1) := by decide +kernel
theorem dX7_merge_11 : decode cX7_merge 11 = .ok (.getfield 7, 3) := by decide +kernel
theorem dX7_merge_14 : decode cX7_merge 14 = .ok (.iconst 5, 1) := by decide +kernel
theorem dX7_merge_15 : decode cX7_merge 15 = .ok (.iaload, 1) := by decide +kernel
theorem dX7_merge_16 : decode cX7_merge 16 = .ok (.iconst 1, 1) := by decide +kernel
theorem dX7_merge_17 : decode cX7_merge 17 = .ok (.if_icmp .eq 24, 3) := by decide +kernel
theorem dX7_merge_20 : decode cX7_merge 20 = .ok (.aload_n 0, 1) := by decide +kernel
theorem dX7_merge_21 : decode cX7_merge 21 = .ok (.invokevirtual 74, 3) := by decide +kernel
theorem dX7_merge_24 : decode cX7_merge 24 = .ok (.iconst 2, 1) := by decide +kernel
theorem dX7_merge_25 : decode cX7_merge 25 = .ok (.if_icmp .lt 16, 3) := by decide +kernel
theorem dX7_merge_28 : decode cX7_merge 28 = .ok (.aload_n 0, 1) := by decide +kernel
theorem dX7_merge_29 : decode cX7_merge 29 = .ok (.getfield 7, 3) := by decide +kernel
theorem dX7_merge_32 : decode cX7_merge 32 = .ok (.iconst 0, 1) := by decide +kernel
theorem dX7_merge_33 : decode cX7_merge 33 = .ok (.iaload, 1) := by decide +kernel
theorem dX7_merge_34 : decode cX7_merge 34 = .ok (.invokestatic 80, 3) := by decide +kernel
theorem dX7_merge_37 : decode cX7_merge 37 = .ok (.iconst 2, 1) := by decide +kernel
theorem dX7_merge_38 : decode cX7_merge 38 = .ok (.if_icmp .ge 6, 3) := by decide +kernel
theorem dX7_merge_41 : decode cX7_merge 41 = .ok (.bipush (-3), 2) := by decide +kernel
theorem dX7_merge_43 : decode cX7_merge 43 = .ok (.ireturn, 1) := by decide +kernel
theorem dX7_merge_44 : decode cX7_merge 44 = .ok (.aload_n 0, 1) := by decide +kernel
theorem dX7_merge_45 : decode cX7_merge 45 = .ok (.invokevirtual 37, 3) := by decide +kernel
theorem dX7_merge_48 : decode cX7_merge 48 = .ok (.aload_n 0, 1) := by decide +kernel
theorem dX7_merge_49 : decode cX7_merge 49 = .ok (.invokevirtual 96, 3) := by decide +kernel
theorem dX7_merge_52 : decode cX7_merge 52 = .ok (.aload_n 0, 1) := by decide +kernel
theorem dX7_merge_53 : decode cX7_merge 53 = .ok (.getfield 7, 3) := by decide +kernel
theorem dX7_merge_56 : decode cX7_merge 56 = .ok (.bipush 6, 2) := by decide +kernel
theorem dX7_merge_58 : decode cX7_merge 58 = .ok (.iaload, 1) := by decide +kernel
theorem dX7_merge_59 : decode cX7_merge 59 = .ok (.ireturn, 1) := by decide +kernel
set_option maxRecDepth 20000 in
theorem ggX7_liesInInput_X7_place : GoodIn wsX7_liesInInput wsX7_place := goodIn_r _ [5, 6, 7, 8, 9, 10, 11, 12, 13, 14, 15, 16, 17, 18] (by decide +kernel) (by decide +kernel)
set_option maxRecDepth 20000 in
theorem gX7_liesInInput_X7_place : GoodIn wsX7_liesInInput (wsV RX7 40 RX7 yX7_place wsX7_place) := goodIn_app (goodIn_of _ (by decide +kernel)) ggX7_liesInInput_X7_place
theorem dX7_liesInInput_0 : decode cX7_liesInInput 0 = .ok (.aload_n 0, 1) := by decide +kernel
theorem dX7_liesInInput_1 : decode cX7_liesInInput 1 = .ok (.iload_n 1, 1) := by decide +kernel
theorem dX7_liesInInput_2 : decode cX7_liesInInput 2 = .ok (.invokevirtual 40, 3) := by decide +kernel
theorem dX7_liesInInput_5 : decode cX7_liesInInput 5 = .ok (.bipush 11, 2) := by decide +kernel
theorem dX7_liesInInput_7 : decode cX7_liesInInput 7 = .ok (.if_icmp .lt 18, 3) := by decide +kernel
theorem dX7_liesInInput_10 : decode cX7_liesInInput 10 = .ok (.aload_n 0, 1) := by decide +kernel
theorem dX7_liesInInput_11 : decode cX7_liesInInput 11 = .ok (.iload_n 1, 1) := by decide +kernel
theorem dX7_liesInInput_12 : decode cX7_liesInInput 12 = .ok (.invokevirtual 40, 3) := by decide +kernel
theorem dX7_liesInInput_15 : decode cX7_liesInInput 15 = .ok (.iconst 2, 1) := by decide +kernel
theorem dX7_liesInInput_16 : decode cX7_liesInInput 16 = .ok (.irem, 1) := by decide +kernel
theorem dX7_liesInInput_17 : decode cX7_liesInInput 17 = .ok (.iconst 1, 1) := by decide +kernel
theorem dX7_liesInInput_18 : decode cX7_liesInInput 18 = .ok (.if_icmp .ne 7, 3) := by decide +kernel
theorem dX7_liesInInput_21 : decode cX7_liesInInput 21 = .ok (.iconst 1, 1) := by decide +kernel
theorem dX7_liesInInput_22 : decode cX7_liesInInput 22 = .ok (.goto 4, 3) := by decide +kernel
theorem dX7_liesInInput_25 : decode cX7_liesInInput 25 = .ok (.iconst 0, 1) := by decide +kernel
theorem dX7_liesInInput_26 : decode cX7_liesInInput 26 = .ok (.ireturn, 1) := by decide +kernel
set_option maxRecDepth 20000 in
theorem ggX7_rowsInInputs_X7_liesInInput : GoodIn wsX7_rowsInInputs wsX7_liesInInput := goodIn_r _ [6, 7, 8, 9, 5, 10, 1, 11, 12, 13, 14, 15, 16, 17, 18, 19, 20, 21, 22] (by decide +kernel) (by decide +kernel)
set_option maxRecDepth 20000 in
theorem gX7_rowsInInputs_X7_liesInInput : GoodIn wsX7_rowsInInputs (wsV RX7 99 RX7 yX7_liesInInput wsX7_liesInInput) := goodIn_app (goodIn_of _ (by decide +kernel)) ggX7_rowsInInputs_X7_liesInInput
theorem dX7_rowsInInputs_0 : decode cX7_rowsInInputs 0 = .ok (.iconst 0, 1) := by decide +kernel
theorem dX7_rowsInInputs_1 : decode cX7_rowsInInputs 1 = .ok (.istore_n 1, 1) := by decide +kernel
theorem dX7_rowsInInputs_2 : decode cX7_rowsInInputs 2 = .ok (.iconst 0, 1) := by decide +kernel
theorem dX7_rowsInInputs_3 : decode cX7_rowsInInputs 3 = .ok (.istore_n 2, 1) := by decide +kernel
theorem dX7_rowsInInputs_4 : decode cX7_rowsInInputs 4 = .ok (.iload_n 2, 1) := by decide +kernel
theorem dX7_rowsInInputs_5 : decode cX7_rowsInInputs 5 = .ok (.aload_n 0, 1) := by decide +kernel
theorem dX7_rowsInInputs_6 : decode cX7_rowsInInputs 6 = .ok (.getfield 7, 3) := by decide +kernel
theorem dX7_rowsInInputs_9 : decode cX7_rowsInInputs 9 = .ok (.iconst 3, 1) := by decide +kernel
theorem dX7_rowsInInputs_10 : decode cX7_rowsInInputs 10 = .ok (.iaload, 1) := by decide +kernel
theorem dX7_rowsInInputs_11 : decode cX7_rowsInInputs 11 = .ok (.if_icmp .ge 25, 3) := by decide +kernel
theorem dX7_rowsInInputs_14 : decode cX7_rowsInInputs 14 = .ok (.iload_n 1, 1) := by decide +kernel
theorem dX7_rowsInInputs_15 : decode cX7_rowsInInputs 15 = .ok (.aload_n 0, 1) := by decide +kernel
theorem dX7_rowsInInputs_16 : decode cX7_rowsInInputs 16 = .ok (.iload_n 2, 1) := by decide +kernel
theorem dX7_rowsInInputs_17 : decode cX7_rowsInInputs 17 = .ok (.invokevirtual 99, 3) := by decide +kernel
theorem dX7_rowsInInputs_20 : decode cX7_rowsInInputs 20 = .ok (.ifCond .eq 7, 3) := by decide +kernel
theorem dX7_rowsInInputs_23 : decode cX7_rowsInInputs 23 = .ok (.iconst 1, 1) := by decide +kernel
theorem dX7_rowsInInputs_24 : decode cX7_rowsInInputs 24 = .ok (.goto 4, 3) := by decide +kernel
theorem dX7_rowsInInputs_27 : decode cX7_rowsInInputs 27 = .ok (.iconst 0, 1) := by decide +kernel
theorem dX7_rowsInInputs_28 : decode cX7_rowsInInputs 28 = .ok (.iadd, 1) := by decide +kernel
theorem dX7_rowsInInputs_29 : decode cX7_rowsInInputs 29 = .ok (.istore_n 1, 1) := by decide +kernel
theorem dX7_rowsInInputs_30 : decode cX7_rowsInInputs 30 = .ok (.iinc 2 1, 3) := by decide +kernel
theorem dX7_rowsInInputs_33 : decode cX7_rowsInInputs 33 = .ok (.goto (-29), 3) := by decide +kernel
theorem dX7_rowsInInputs_36 : decode cX7_rowsInInputs 36 = .ok (.iload_n 1, 1) := by decide +kernel
theorem dX7_rowsInInputs_37 : decode cX7_rowsInInputs 37 = .ok (.ireturn, 1) := by decide +kernel
set_option maxRecDepth 20000 in
theorem ggX7_firstRow_X7_liesInInput : GoodIn wsX7_firstRow wsX7_liesInInput := goodIn_r _ [6, 7, 8, 9, 5, 10, 1, 11, 12, 13, 14, 15, 16, 17, 18, 19, 20, 21, 22] (by decide +kernel) (by decide +kernel)
set_option maxRecDepth 20000 in
theorem gX7_firstRow_X7_liesInInput : GoodIn wsX7_firstRow (wsV RX7 99 RX7 yX7_liesInInput wsX7_liesInInput) := goodIn_app (goodIn_of _ (by decide +kernel)) ggX7_firstRow_X7_liesInInput
theorem dX7_firstRow_0 : decode cX7_firstRow 0 = .ok (.bipush (-6), 2) := by decide +kernel
theorem dX7_firstRow_2 : decode cX7_firstRow 2 = .ok (.istore_n 1, 1) := by decide +kernel
theorem dX7_firstRow_3 : decode cX7_firstRow 3 = .ok (.iconst 0, 1) := by decide +kernel
theorem dX7_firstRow_4 : decode cX7_firstRow 4 = .ok (.istore_n 2, 1) := by decide +kernel
theorem dX7_firstRow_5 : decode cX7_firstRow 5 = .ok (.iload_n 2, 1) := by decide +kernel
theorem dX7_firstRow_6 : decode cX7_firstRow 6 = .ok (.aload_n 0, 1) := by decide +kernel
theorem dX7_firstRow_7 : decode cX7_firstRow 7 = .ok (.getfield 7, 3) := by decide +kernel
theorem dX7_firstRow_10 : decode cX7_firstRow 10 = .ok (.iconst 3, 1) := by decide +kernel
theorem dX7_firstRow_11 : decode cX7_firstRow 11 = .ok (.iaload, 1) := by decide +kernel
theorem dX7_firstRow_12 : decode cX7_firstRow 12 = .ok (.if_icmp .ge 50, 3) := by decide +kernel
theorem dX7_firstRow_15 : decode cX7_firstRow 15 = .ok (.aload_n 0, 1) := by decide +kernel
theorem dX7_firstRow_16 : decode cX7_firstRow 16 = .ok (.iload_n 2, 1) := by decide +kernel
theorem dX7_firstRow_17 : decode cX7_firstRow 17 = .ok (.invokevirtual 99, 3) := by decide +kernel
theorem dX7_firstRow_20 : decode cX7_firstRow 20 = .ok (.ifCond .eq 34, 3) := by decide +kernel
theorem dX7_firstRow_23 : decode cX7_firstRow 23 = .ok (.iload_n 1, 1) := by decide +kernel
theorem dX7_firstRow_24 : decode cX7_firstRow 24 = .ok (.bipush (-6), 2) := by decide +kernel
theorem dX7_firstRow_26 : decode cX7_firstRow 26 = .ok (.if_icmp .eq 24, 3) := by decide +kernel
theorem dX7_firstRow_29 : decode cX7_firstRow 29 = .ok (.aload_n 0, 1) := by decide +kernel
theorem dX7_firstRow_30 : decode cX7_firstRow 30 = .ok (.getfield 7, 3) := by decide +kernel
theorem dX7_firstRow_33 : decode cX7_firstRow 33 = .ok (.bipush 10, 2) := by decide +kernel
theorem dX7_firstRow_35 : decode cX7_firstRow 35 = .ok (.iload_n 2, 1) := by decide +kernel
theorem dX7_firstRow_36 : decode cX7_firstRow 36 = .ok (.iadd, 1) := by decide +kernel
theorem dX7_firstRow_37 : decode cX7_firstRow 37 = .ok (.iaload, 1) := by decide +kernel
theorem dX7_firstRow_38 : decode cX7_firstRow 38 = .ok (.aload_n 0, 1) := by decide +kernel
theorem dX7_firstRow_39 : decode cX7_firstRow 39 = .ok (.getfield 7, 3) := by decide +kernel
theorem dX7_firstRow_42 : decode cX7_firstRow 42 = .ok (.bipush 10, 2) := by decide +kernel
theorem dX7_firstRow_44 : decode cX7_firstRow 44 = .ok (.iload_n 1, 1) := by decide +kernel
theorem dX7_firstRow_45 : decode cX7_firstRow 45 = .ok (.iadd, 1) := by decide +kernel
theorem dX7_firstRow_46 : decode cX7_firstRow 46 = .ok (.iaload, 1) := by decide +kernel
theorem dX7_firstRow_47 : decode cX7_firstRow 47 = .ok (.if_icmp .ge 7, 3) := by decide +kernel
theorem dX7_firstRow_50 : decode cX7_firstRow 50 = .ok (.iload_n 2, 1) := by decide +kernel
theorem dX7_firstRow_51 : decode cX7_firstRow 51 = .ok (.goto 4, 3) := by decide +kernel
theorem dX7_firstRow_54 : decode cX7_firstRow 54 = .ok (.iload_n 1, 1) := by decide +kernel
theorem dX7_firstRow_55 : decode cX7_firstRow 55 = .ok (.istore_n 1, 1) := by decide +kernel
theorem dX7_firstRow_56 : decode cX7_firstRow 56 = .ok (.iinc 2 1, 3) := by decide +kernel
theorem dX7_firstRow_59 : decode cX7_firstRow 59 = .ok (.goto (-54), 3) := by decide +kernel
theorem dX7_firstRow_62 : decode cX7_firstRow 62 = .ok (.iload_n 1, 1) := by decide +kernel
theorem dX7_firstRow_63 : decode cX7_firstRow 63 = .ok (.ireturn, 1) := by decide +kernel
set_option maxRecDepth 20000 in
theorem ggX7_lastOfOutput_X7_place : GoodIn wsX7_lastOfOutput wsX7_place := goodIn_r _ [6, 1, 7, 8, 9, 10, 11, 12, 13, 14, 15, 16, 17, 18] (by decide +kernel) (by decide +kernel)
set_option maxRecDepth 20000 in
theorem gX7_lastOfOutput_X7_place : GoodIn wsX7_lastOfOutput (wsV RX7 40 RX7 yX7_place wsX7_place) := goodIn_app (goodIn_of _ (by decide +kernel)) ggX7_lastOfOutput_X7_place
theorem dX7_lastOfOutput_0 : decode cX7_lastOfOutput 0 = .ok (.bipush (-6), 2) := by decide +kernel
theorem dX7_lastOfOutput_2 : decode cX7_lastOfOutput 2 = .ok (.istore_n 1, 1) := by decide +kernel
theorem dX7_lastOfOutput_3 : decode cX7_lastOfOutput 3 = .ok (.iconst 0, 1) := by decide +kernel
theorem dX7_lastOfOutput_4 : decode cX7_lastOfOutput 4 = .ok (.istore_n 2, 1) := by decide +kernel
theorem dX7_lastOfOutput_5 : decode cX7_lastOfOutput 5 = .ok (.iload_n 2, 1) := by decide +kernel
theorem dX7_lastOfOutput_6 : decode cX7_lastOfOutput 6 = .ok (.aload_n 0, 1) := by decide +kernel
theorem dX7_lastOfOutput_7 : decode cX7_lastOfOutput 7 = .ok (.getfield 7, 3) := by decide +kernel
theorem dX7_lastOfOutput_10 : decode cX7_lastOfOutput 10 = .ok (.iconst 3, 1) := by decide +kernel
theorem dX7_lastOfOutput_11 : decode cX7_lastOfOutput 11 = .ok (.iaload, 1) := by decide +kernel
theorem dX7_lastOfOutput_12 : decode cX7_lastOfOutput 12 = .ok (.if_icmp .ge 51, 3) := by decide +kernel
theorem dX7_lastOfOutput_15 : decode cX7_lastOfOutput 15 = .ok (.aload_n 0, 1) := by decide +kernel
theorem dX7_lastOfOutput_16 : decode cX7_lastOfOutput 16 = .ok (.iload_n 2, 1) := by decide +kernel
theorem dX7_lastOfOutput_17 : decode cX7_lastOfOutput 17 = .ok (.invokevirtual 40, 3) := by decide +kernel
theorem dX7_lastOfOutput_20 : decode cX7_lastOfOutput 20 = .ok (.iconst 2, 1) := by decide +kernel
theorem dX7_lastOfOutput_21 : decode cX7_lastOfOutput 21 = .ok (.if_icmp .ne 34, 3) := by decide +kernel
theorem dX7_lastOfOutput_24 : decode cX7_lastOfOutput 24 = .ok (.iload_n 1, 1) := by decide +kernel
theorem dX7_lastOfOutput_25 : decode cX7_lastOfOutput 25 = .ok (.bipush (-6), 2) := by decide +kernel
theorem dX7_lastOfOutput_27 : decode cX7_lastOfOutput 27 = .ok (.if_icmp .eq 24, 3) := by decide +kernel
theorem dX7_lastOfOutput_30 : decode cX7_lastOfOutput 30 = .ok (.aload_n 0, 1) := by decide +kernel
theorem dX7_lastOfOutput_31 : decode cX7_lastOfOutput 31 = .ok (.getfield 7, 3) := by decide +kernel
theorem dX7_lastOfOutput_34 : decode cX7_lastOfOutput 34 = .ok (.bipush 10, 2) := by decide +kernel
theorem dX7_lastOfOutput_36 : decode cX7_lastOfOutput 36 = .ok (.iload_n 2, 1) := by decide +kernel
theorem dX7_lastOfOutput_37 : decode cX7_lastOfOutput 37 = .ok (.iadd, 1) := by decide +kernel
theorem dX7_lastOfOutput_38 : decode cX7_lastOfOutput 38 = .ok (.iaload, 1) := by decide +kernel
theorem dX7_lastOfOutput_39 : decode cX7_lastOfOutput 39 = .ok (.aload_n 0, 1) := by decide +kernel
theorem dX7_lastOfOutput_40 : decode cX7_lastOfOutput 40 = .ok (.getfield 7, 3) := by decide +kernel
theorem dX7_lastOfOutput_43 : decode cX7_lastOfOutput 43 = .ok (.bipush 10, 2) := by decide +kernel
theorem dX7_lastOfOutput_45 : decode cX7_lastOfOutput 45 = .ok (.iload_n 1, 1) := by decide +kernel
theorem dX7_lastOfOutput_46 : decode cX7_lastOfOutput 46 = .ok (.iadd, 1) := by decide +kernel
theorem dX7_lastOfOutput_47 : decode cX7_lastOfOutput 47 = .ok (.iaload, 1) := by decide +kernel
theorem dX7_lastOfOutput_48 : decode cX7_lastOfOutput 48 = .ok (.if_icmp .lt 7, 3) := by decide +kernel
theorem dX7_lastOfOutput_51 : decode cX7_lastOfOutput 51 = .ok (.iload_n 2, 1) := by decide +kernel
theorem dX7_lastOfOutput_52 : decode cX7_lastOfOutput 52 = .ok (.goto 4, 3) := by decide +kernel
theorem dX7_lastOfOutput_55 : decode cX7_lastOfOutput 55 = .ok (.iload_n 1, 1) := by decide +kernel
theorem dX7_lastOfOutput_56 : decode cX7_lastOfOutput 56 = .ok (.istore_n 1, 1) := by decide +kernel
theorem dX7_lastOfOutput_57 : decode cX7_lastOfOutput 57 = .ok (.iinc 2 1, 3) := by decide +kernel
theorem dX7_lastOfOutput_60 : decode cX7_lastOfOutput 60 = .ok (.goto (-55), 3) := by decide +kernel
theorem dX7_lastOfOutput_63 : decode cX7_lastOfOutput 63 = .ok (.iload_n 1, 1) := by decide +kernel
theorem dX7_lastOfOutput_64 : decode cX7_lastOfOutput 64 = .ok (.ireturn, 1) := by decide +kernel
def ck_wsX7_steps : List (List Cond) := [[.code yX7_steps cX7_steps 3 none], wsX7_steps_r1, wsX7_steps_r2]
theorem ck_wsX7_steps_m : ∀ c ∈ ck_wsX7_steps, ∀ w ∈ c, w ∈ wsX7_steps := List.forall_mem_cons.mpr ⟨fun w h => List.mem_cons.mpr (Or.inl (List.mem_singleton.mp h)), List.forall_mem_cons.mpr ⟨fun _ h => (List.mem_cons_of_mem _ (List.mem_append_left _ (List.mem_append_left _ h))), List.forall_mem_cons.mpr ⟨fun _ h => (List.mem_cons_of_mem _ (List.mem_append_left _ (List.mem_append_right _ h))), fun _ h => absurd h List.not_mem_nil⟩⟩⟩
set_option maxRecDepth 100000 in
theorem ck_wsX7_steps_g : ∀ w ∈ wsX7_steps, goodWord w = true := List.all_eq_true.mp (by decide +kernel)
set_option maxRecDepth 100000 in
theorem ggX7_steps_X7_firstRow : GoodIn wsX7_steps wsX7_firstRow := goodIn_ca (goodIn_2 ck_wsX7_steps [(1, 5), (1, 0), (1, 6), (1, 7), (1, 8), (1, 4), (1, 9), (1, 10), (1, 11), (1, 12), (1, 13)] ck_wsX7_steps_m ck_wsX7_steps_g rfl) (goodIn_b (fun _ h => (List.mem_cons_of_mem _ (List.mem_append_right _ h))) ck_wsX7_steps_g)
set_option maxRecDepth 20000 in
theorem gX7_steps_X7_firstRow : GoodIn wsX7_steps (wsV RX7 102 RX7 yX7_firstRow wsX7_firstRow) := goodIn_app (goodIn_of _ (by decide +kernel)) ggX7_steps_X7_firstRow
set_option maxRecDepth 100000 in
theorem ggX7_steps_X7_lastOfOutput : GoodIn wsX7_steps wsX7_lastOfOutput := goodIn_ca (goodIn_2 ck_wsX7_steps [(1, 17), (1, 0), (1, 10), (1, 11), (1, 12), (1, 4), (1, 13)] ck_wsX7_steps_m ck_wsX7_steps_g rfl) (goodIn_b (fun _ h => (List.mem_cons_of_mem _ (List.mem_append_right _ h))) ck_wsX7_steps_g)
set_option maxRecDepth 20000 in
theorem gX7_steps_X7_lastOfOutput : GoodIn wsX7_steps (wsV RX7 105 RX7 yX7_lastOfOutput wsX7_lastOfOutput) := goodIn_app (goodIn_of _ (by decide +kernel)) ggX7_steps_X7_lastOfOutput
set_option maxRecDepth 100000 in
theorem ggX7_steps_X7_rowsInInputs : GoodIn wsX7_steps wsX7_rowsInInputs := goodIn_ca (goodIn_2 ck_wsX7_steps [(1, 21), (1, 0), (1, 6), (1, 7), (1, 8), (1, 4), (1, 9), (1, 10), (1, 11), (1, 12), (1, 13)] ck_wsX7_steps_m ck_wsX7_steps_g rfl) (goodIn_b (fun _ h => (List.mem_cons_of_mem _ (List.mem_append_right _ h))) ck_wsX7_steps_g)
set_option maxRecDepth 20000 in
theorem gX7_steps_X7_rowsInInputs : GoodIn wsX7_steps (wsV RX7 108 RX7 yX7_rowsInInputs wsX7_rowsInInputs) := goodIn_app (goodIn_of _ (by decide +kernel)) ggX7_steps_X7_rowsInInputs
set_option maxRecDepth 100000 in
theorem ggX7_steps_X7_becomesRun : GoodIn wsX7_steps wsX7_becomesRun := goodIn_ca (goodIn_2 ck_wsX7_steps [(2, 1), (1, 0), (1, 10), (1, 11), (1, 12), (1, 4), (1, 13)] ck_wsX7_steps_m ck_wsX7_steps_g rfl) (goodIn_b (fun _ h => (List.mem_cons_of_mem _ (List.mem_append_right _ h))) ck_wsX7_steps_g)
set_option maxRecDepth 20000 in
theorem gX7_steps_X7_becomesRun : GoodIn wsX7_steps (wsV RX7 58 RX7 yX7_becomesRun wsX7_becomesRun) := goodIn_app (goodIn_of _ (by decide +kernel)) ggX7_steps_X7_becomesRun
