theorem dX7_steps_0 : decode cX7_steps 0 = .ok (.aload_n 0, 1) := by decide +kernel
theorem dX7_steps_1 : decode cX7_steps 1 = .ok (.invokevirtual 102, 3) := by decide +kernel
theorem dX7_steps_4 : decode cX7_steps 4 = .ok (.istore_n 1, 1) := by decide +kernel
theorem dX7_steps_5 : decode cX7_steps 5 = .ok (.aload_n 0, 1) := by decide +kernel
theorem dX7_steps_6 : decode cX7_steps 6 = .ok (.invokevirtual 105, 3) := by decide +kernel
theorem dX7_steps_9 : decode cX7_steps 9 = .ok (.istore_n 2, 1) := by decide +kernel
theorem dX7_steps_10 : decode cX7_steps 10 = .ok (.aload_n 0, 1) := by decide +kernel
theorem dX7_steps_11 : decode cX7_steps 11 = .ok (.getfield 7, 3) := by decide +kernel
theorem dX7_steps_14 : decode cX7_steps 14 = .ok (.bipush 7, 2) := by decide +kernel
theorem dX7_steps_16 : decode cX7_steps 16 = .ok (.dup2, 1) := by decide +kernel
theorem dX7_steps_17 : decode cX7_steps 17 = .ok (.iaload, 1) := by decide +kernel
theorem dX7_steps_18 : decode cX7_steps 18 = .ok (.iconst 1, 1) := by decide +kernel
theorem dX7_steps_19 : decode cX7_steps 19 = .ok (.iadd, 1) := by decide +kernel
theorem dX7_steps_20 : decode cX7_steps 20 = .ok (.iastore, 1) := by decide +kernel
theorem dX7_steps_21 : decode cX7_steps 21 = .ok (.aload_n 0, 1) := by decide +kernel
theorem dX7_steps_22 : decode cX7_steps 22 = .ok (.getfield 7, 3) := by decide +kernel
theorem dX7_steps_25 : decode cX7_steps 25 = .ok (.iconst 1, 1) := by decide +kernel
theorem dX7_steps_26 : decode cX7_steps 26 = .ok (.iaload, 1) := by decide +kernel
theorem dX7_steps_27 : decode cX7_steps 27 = .ok (.iconst 1, 1) := by decide +kernel
theorem dX7_steps_28 : decode cX7_steps 28 = .ok (.if_icmp .ne 78, 3) := by decide +kernel
theorem dX7_steps_31 : decode cX7_steps 31 = .ok (.iload_n 2, 1) := by decide +kernel
theorem dX7_steps_32 : decode cX7_steps 32 = .ok (.bipush (-6), 2) := by decide +kernel
theorem dX7_steps_34 : decode cX7_steps 34 = .ok (.if_icmp .eq 72, 3) := by decide +kernel
theorem dX7_steps_37 : decode cX7_steps 37 = .ok (.aload_n 0, 1) := by decide +kernel
theorem dX7_steps_38 : decode cX7_steps 38 = .ok (.getfield 7, 3) := by decide +kernel
theorem dX7_steps_41 : decode cX7_steps 41 = .ok (.bipush 10, 2) := by decide +kernel
theorem dX7_steps_43 : decode cX7_steps 43 = .ok (.iload_n 2, 1) := by decide +kernel
theorem dX7_steps_44 : decode cX7_steps 44 = .ok (.iadd, 1) := by decide +kernel
theorem dX7_steps_45 : decode cX7_steps 45 = .ok (.iaload, 1) := by decide +kernel
theorem dX7_steps_46 : decode cX7_steps 46 = .ok (.aload_n 0, 1) := by decide +kernel
theorem dX7_steps_47 : decode cX7_steps 47 = .ok (.getfield 7, 3) := by decide +kernel
theorem dX7_steps_50 : decode cX7_steps 50 = .ok (.bipush 10, 2) := by decide +kernel
theorem dX7_steps_52 : decode cX7_steps 52 = .ok (.iload_n 1, 1) := by decide +kernel
theorem dX7_steps_53 : decode cX7_steps 53 = .ok (.iadd, 1) := by decide +kernel
theorem dX7_steps_54 : decode cX7_steps 54 = .ok (.iaload, 1) := by decide +kernel
theorem dX7_steps_55 : decode cX7_steps 55 = .ok (.if_icmp .ne 51, 3) := by decide +kernel
theorem dX7_steps_58 : decode cX7_steps 58 = .ok (.aload_n 0, 1) := by decide +kernel
theorem dX7_steps_59 : decode cX7_steps 59 = .ok (.getfield 7, 3) := by decide +kernel
theorem dX7_steps_62 : decode cX7_steps 62 = .ok (.sipush 130, 3) := by decide +kernel
theorem dX7_steps_65 : decode cX7_steps 65 = .ok (.iload_n 2, 1) := by decide +kernel
theorem dX7_steps_66 : decode cX7_steps 66 = .ok (.iadd, 1) := by decide +kernel
theorem dX7_steps_67 : decode cX7_steps 67 = .ok (.dup2, 1) := by decide +kernel
theorem dX7_steps_68 : decode cX7_steps 68 = .ok (.iaload, 1) := by decide +kernel
theorem dX7_steps_69 : decode cX7_steps 69 = .ok (.aload_n 0, 1) := by decide +kernel
theorem dX7_steps_70 : decode cX7_steps 70 = .ok (.getfield 7, 3) := by decide +kernel
theorem dX7_steps_73 : decode cX7_steps 73 = .ok (.sipush 130, 3) := by decide +kernel
theorem dX7_steps_76 : decode cX7_steps 76 = .ok (.iload_n 1, 1) := by decide +kernel
theorem dX7_steps_77 : decode cX7_steps 77 = .ok (.iadd, 1) := by decide +kernel
theorem dX7_steps_78 : decode cX7_steps 78 = .ok (.iaload, 1) := by decide +kernel
theorem dX7_steps_79 : decode cX7_steps 79 = .ok (.iadd, 1) := by decide +kernel
theorem dX7_steps_80 : decode cX7_steps 80 = .ok (.iastore, 1) := by decide +kernel
theorem dX7_steps_81 : decode cX7_steps 81 = .ok (.aload_n 0, 1) := by decide +kernel
theorem dX7_steps_82 : decode cX7_steps 82 = .ok (.getfield 7, 3) := by decide +kernel
theorem dX7_steps_85 : decode cX7_steps 85 = .ok (.sipush 130, 3) := by decide +kernel
theorem dX7_steps_88 : decode cX7_steps 88 = .ok (.iload_n 1, 1) := by decide +kernel
theorem dX7_steps_89 : decode cX7_steps 89 = .ok (.iadd, 1) := by decide +kernel
theorem dX7_steps_90 : decode cX7_steps 90 = .ok (.iconst 0, 1) := by decide +kernel
theorem dX7_steps_91 : decode cX7_steps 91 = .ok (.iastore, 1) := by decide +kernel
theorem dX7_steps_92 : decode cX7_steps 92 = .ok (.aload_n 0, 1) := by decide +kernel
theorem dX7_steps_93 : decode cX7_steps 93 = .ok (.getfield 7, 3) := by decide +kernel
theorem dX7_steps_96 : decode cX7_steps 96 = .ok (.sipush 250, 3) := by decide +kernel
theorem dX7_steps_99 : decode cX7_steps 99 = .ok (.iload_n 1, 1) := by decide +kernel
theorem dX7_steps_100 : decode cX7_steps 100 = .ok (.iadd, 1) := by decide +kernel
theorem dX7_steps_101 : decode cX7_steps 101 = .ok (.iconst 0, 1) := by decide +kernel
theorem dX7_steps_102 : decode cX7_steps 102 = .ok (.iastore, 1) := by decide +kernel
theorem dX7_steps_103 : decode cX7_steps 103 = .ok (.goto 25, 3) := by decide +kernel
theorem dX7_steps_106 : decode cX7_steps 106 = .ok (.aload_n 0, 1) := by decide +kernel
theorem dX7_steps_107 : decode cX7_steps 107 = .ok (.getfield 7, 3) := by decide +kernel
theorem dX7_steps_110 : decode cX7_steps 110 = .ok (.sipush 250, 3) := by decide +kernel
theorem dX7_steps_113 : decode cX7_steps 113 = .ok (.iload_n 1, 1) := by decide +kernel
theorem dX7_steps_114 : decode cX7_steps 114 = .ok (.iadd, 1) := by decide +kernel
theorem dX7_steps_115 : decode cX7_steps 115 = .ok (.iconst 2, 1) := by decide +kernel
theorem dX7_steps_116 : decode cX7_steps 116 = .ok (.iastore, 1) := by decide +kernel
theorem dX7_steps_117 : decode cX7_steps 117 = .ok (.aload_n 0, 1) := by decide +kernel
theorem dX7_steps_118 : decode cX7_steps 118 = .ok (.getfield 7, 3) := by decide +kernel
theorem dX7_steps_121 : decode cX7_steps 121 = .ok (.bipush 7, 2) := by decide +kernel
theorem dX7_steps_123 : decode cX7_steps 123 = .ok (.dup2, 1) := by decide +kernel
theorem dX7_steps_124 : decode cX7_steps 124 = .ok (.iaload, 1) := by decide +kernel
theorem dX7_steps_125 : decode cX7_steps 125 = .ok (.iconst 1, 1) := by decide +kernel
theorem dX7_steps_126 : decode cX7_steps 126 = .ok (.iadd, 1) := by decide +kernel
theorem dX7_steps_127 : decode cX7_steps 127 = .ok (.iastore, 1) := by decide +kernel
theorem dX7_steps_128 : decode cX7_steps 128 = .ok (.aload_n 0, 1) := by decide +kernel
theorem dX7_steps_129 : decode cX7_steps 129 = .ok (.invokevirtual 108, 3) := by decide +kernel
theorem dX7_steps_132 : decode cX7_steps 132 = .ok (.ifCond .ne 16, 3) := by decide +kernel
theorem dX7_steps_135 : decode cX7_steps 135 = .ok (.aload_n 0, 1) := by decide +kernel
theorem dX7_steps_136 : decode cX7_steps 136 = .ok (.iconst 2, 1) := by decide +kernel
theorem dX7_steps_137 : decode cX7_steps 137 = .ok (.invokevirtual 58, 3) := by decide +kernel
theorem dX7_steps_140 : decode cX7_steps 140 = .ok (.pop, 1) := by decide +kernel
theorem dX7_steps_141 : decode cX7_steps 141 = .ok (.aload_n 0, 1) := by decide +kernel
theorem dX7_steps_142 : decode cX7_steps 142 = .ok (.getfield 7, 3) := by decide +kernel
theorem dX7_steps_145 : decode cX7_steps 145 = .ok (.iconst 5, 1) := by decide +kernel
theorem dX7_steps_146 : decode cX7_steps 146 = .ok (.iconst 0, 1) := by decide +kernel
theorem dX7_steps_147 : decode cX7_steps 147 = .ok (.iastore, 1) := by decide +kernel
theorem dX7_steps_148 : decode cX7_steps 148 = .ok (.return_, 1) := by decide +kernel
def ck_wsX7_step : List (List Cond) := [[.code yX7_step cX7_step 3 (some .int)], wsX7_step_r1, wsX7_step_r2]
theorem ck_wsX7_step_m : ∀ c ∈ ck_wsX7_step, ∀ w ∈ c, w ∈ wsX7_step := List.forall_mem_cons.mpr ⟨fun w h => List.mem_cons.mpr (Or.inl (List.mem_singleton.mp h)), List.forall_mem_cons.mpr ⟨fun _ h => (List.mem_cons_of_mem _ (List.mem_append_left _ (List.mem_append_left _ h))), List.forall_mem_cons.mpr ⟨fun _ h => (List.mem_cons_of_mem _ (List.mem_append_left _ (List.mem_append_right _ h))), fun _ h => absurd h List.not_mem_nil⟩⟩⟩
set_option maxRecDepth 100000 in
theorem ck_wsX7_step_g : ∀ w ∈ wsX7_step, goodWord w = true := List.all_eq_true.mp (by decide +kernel)
set_option maxRecDepth 100000 in
theorem ggX7_step_X7_in : GoodIn wsX7_step wsX7_in := goodIn_2 ck_wsX7_step [(1, 4)] ck_wsX7_step_m ck_wsX7_step_g rfl
set_option maxRecDepth 20000 in
theorem gX7_step_X7_in : GoodIn wsX7_step (va_wsS RX7 44 yX7_in wsX7_in) := goodIn_app (goodIn_of _ (by decide +kernel)) ggX7_step_X7_in
set_option maxRecDepth 100000 in
theorem ggX7_step_X7_record : GoodIn wsX7_step wsX7_record := goodIn_ca (goodIn_2 ck_wsX7_step [(1, 8), (1, 9), (1, 10), (1, 0)] ck_wsX7_step_m ck_wsX7_step_g rfl) (goodIn_b (fun _ h => (List.mem_cons_of_mem _ (List.mem_append_right _ h))) ck_wsX7_step_g)
set_option maxRecDepth 20000 in
theorem gX7_step_X7_record : GoodIn wsX7_step (wsV RX7 37 RX7 yX7_record wsX7_record) := goodIn_app (goodIn_of _ (by decide +kernel)) ggX7_step_X7_record
set_option maxRecDepth 100000 in
theorem ggX7_step_X7_steps : GoodIn wsX7_step wsX7_steps := goodIn_ca (goodIn_2 ck_wsX7_step [(1, 14), (1, 0), (1, 15), (1, 16), (1, 17), (1, 3), (1, 18), (1, 19), (1, 20), (1, 21), (1, 22), (1, 23), (2, 0), (2, 1), (2, 2), (2, 3), (2, 4), (2, 5), (2, 6), (2, 7), (2, 8), (2, 9), (2, 10), (2, 11), (2, 12), (2, 13), (2, 14)] ck_wsX7_step_m ck_wsX7_step_g rfl) (goodIn_b (fun _ h => (List.mem_cons_of_mem _ (List.mem_append_right _ h))) ck_wsX7_step_g)
set_option maxRecDepth 20000 in
theorem gX7_step_X7_steps : GoodIn wsX7_step (wsV RX7 111 RX7 yX7_steps wsX7_steps) := goodIn_app (goodIn_of _ (by decide +kernel)) ggX7_step_X7_steps
theorem dX7_step_0 : decode cX7_step 0 = .ok (.iload_n 1, 1) := by decide +kernel
theorem dX7_step_1 : decode cX7_step 1 = .ok (.iconst 1, 1) := by decide +kernel
theorem dX7_step_2 : decode cX7_step 2 = .ok (.sipush 200, 3) := by decide +kernel
theorem dX7_step_5 : decode cX7_step 5 = .ok (.invokestatic 44, 3) := by decide +kernel
theorem dX7_step_8 : decode cX7_step 8 = .ok (.ifCond .ne 6, 3) := by decide +kernel
theorem dX7_step_11 : decode cX7_step 11 = .ok (.bipush (-2), 2) := by decide +kernel
theorem dX7_step_13 : decode cX7_step 13 = .ok (.ireturn, 1) := by decide +kernel
theorem dX7_step_14 : decode cX7_step 14 = .ok (.aload_n 0, 1) := by decide +kernel
theorem dX7_step_15 : decode cX7_step 15 = .ok (.getfield 7, 3) := by decide +kernel
theorem dX7_step_18 : decode cX7_step 18 = .ok (.iconst 5, 1) := by decide +kernel
theorem dX7_step_19 : decode cX7_step 19 = .ok (.iaload, 1) := by decide +kernel
theorem dX7_step_20 : decode cX7_step 20 = .ok (.ifCond .ne 6, 3) := by decide +kernel
theorem dX7_step_23 : decode cX7_step 23 = .ok (.bipush (-3), 2) := by decide +kernel
theorem dX7_step_25 : decode cX7_step 25 = .ok (.ireturn, 1) := by decide +kernel
theorem dX7_step_26 : decode cX7_step 26 = .ok (.aload_n 0, 1) := by decide +kernel
theorem dX7_step_27 : decode cX7_step 27 = .ok (.invokevirtual 37, 3) := by decide +kernel
theorem dX7_step_30 : decode cX7_step 30 = .ok (.iconst 0, 1) := by decide +kernel
theorem dX7_step_31 : decode cX7_step 31 = .ok (.istore_n 2, 1) := by decide +kernel
theorem dX7_step_32 : decode cX7_step 32 = .ok (.iload_n 2, 1) := by decide +kernel
theorem dX7_step_33 : decode cX7_step 33 = .ok (.iload_n 1, 1) := by decide +kernel
theorem dX7_step_34 : decode cX7_step 34 = .ok (.if_icmp .ge 23, 3) := by decide +kernel
theorem dX7_step_37 : decode cX7_step 37 = .ok (.aload_n 0, 1) := by decide +kernel
theorem dX7_step_38 : decode cX7_step 38 = .ok (.getfield 7, 3) := by decide +kernel
theorem dX7_step_41 : decode cX7_step 41 = .ok (.iconst 5, 1) := by decide +kernel
theorem dX7_step_42 : decode cX7_step 42 = .ok (.iaload, 1) := by decide +kernel
theorem dX7_step_43 : decode cX7_step 43 = .ok (.iconst 1, 1) := by decide +kernel
theorem dX7_step_44 : decode cX7_step 44 = .ok (.if_icmp .ne 13, 3) := by decide +kernel
theorem dX7_step_47 : decode cX7_step 47 = .ok (.aload_n 0, 1) := by decide +kernel
theorem dX7_step_48 : decode cX7_step 48 = .ok (.invokevirtual 111, 3) := by decide +kernel
theorem dX7_step_51 : decode cX7_step 51 = .ok (.iinc 2 1, 3) := by decide +kernel
theorem dX7_step_54 : decode cX7_step 54 = .ok (.goto (-22), 3) := by decide +kernel
theorem dX7_step_57 : decode cX7_step 57 = .ok (.iload_n 2, 1) := by decide +kernel
theorem dX7_step_58 : decode cX7_step 58 = .ok (.ireturn, 1) := by decide +kernel
set_option maxRecDepth 20000 in
theorem ggX7_runsToCome_X7_runMany : GoodIn wsX7_runsToCome wsX7_runMany := goodIn_r _ [6, 7, 8, 9, 5, 10, 11, 12, 13, 14, 1, 15, 16, 17, 18, 23, 24, 25, 26, 27, 28, 29, 30, 31, 32, 33, 34] (by decide +kernel) (by decide +kernel)
set_option maxRecDepth 20000 in
theorem gX7_runsToCome_X7_runMany : GoodIn wsX7_runsToCome (wsV RX7 74 RX7 yX7_runMany wsX7_runMany) := goodIn_app (goodIn_of _ (by decide +kernel)) ggX7_runsToCome_X7_runMany
set_option maxRecDepth 20000 in
theorem ggX7_runsToCome_X7_rowsAt : GoodIn wsX7_runsToCome wsX7_rowsAt := goodIn_r _ [22, 1, 15, 16, 17, 5, 18, 23, 24, 25, 26, 27, 28, 29, 30, 31, 32, 33, 34] (by decide +kernel) (by decide +kernel)
set_option maxRecDepth 20000 in
theorem gX7_runsToCome_X7_rowsAt : GoodIn wsX7_runsToCome (wsV RX7 48 RX7 yX7_rowsAt wsX7_rowsAt) := goodIn_app (goodIn_of _ (by decide +kernel)) ggX7_runsToCome_X7_rowsAt
theorem dX7_runsToCome_0 : decode cX7_runsToCome 0 = .ok (.aload_n 0, 1) := by decide +kernel
theorem dX7_runsToCome_1 : decode cX7_runsToCome 1 = .ok (.invokevirtual 74, 3) := by decide +kernel
theorem dX7_runsToCome_4 : decode cX7_runsToCome 4 = .ok (.aload_n 0, 1) := by decide +kernel
theorem dX7_runsToCome_5 : decode cX7_runsToCome 5 = .ok (.getfield 7, 3) := by decide +kernel
theorem dX7_runsToCome_8 : decode cX7_runsToCome 8 = .ok (.iconst 2, 1) := by decide +kernel
theorem dX7_runsToCome_9 : decode cX7_runsToCome 9 = .ok (.iaload, 1) := by decide +kernel
theorem dX7_runsToCome_10 : decode cX7_runsToCome 10 = .ok (.iconst 1, 1) := by decide +kernel
theorem dX7_runsToCome_11 : decode cX7_runsToCome 11 = .ok (.if_icmp .ne 11, 3) := by decide +kernel
theorem dX7_runsToCome_14 : decode cX7_runsToCome 14 = .ok (.aload_n 0, 1) := by decide +kernel
theorem dX7_runsToCome_15 : decode cX7_runsToCome 15 = .ok (.iconst 1, 1) := by decide +kernel
theorem dX7_runsToCome_16 : decode cX7_runsToCome 16 = .ok (.invokevirtual 48, 3) := by decide +kernel
theorem dX7_runsToCome_19 : decode cX7_runsToCome 19 = .ok (.ifCond .gt 13, 3) := by decide +kernel
theorem dX7_runsToCome_22 : decode cX7_runsToCome 22 = .ok (.aload_n 0, 1) := by decide +kernel
theorem dX7_runsToCome_23 : decode cX7_runsToCome 23 = .ok (.getfield 7, 3) := by decide +kernel
theorem dX7_runsToCome_26 : decode cX7_runsToCome 26 = .ok (.iconst 5, 1) := by decide +kernel
theorem dX7_runsToCome_27 : decode cX7_runsToCome 27 = .ok (.iaload, 1) := by decide +kernel
theorem dX7_runsToCome_28 : decode cX7_runsToCome 28 = .ok (.iconst 1, 1) := by decide +kernel
theorem dX7_runsToCome_29 : decode cX7_runsToCome 29 = .ok (.if_icmp .ne 7, 3) := by decide +kernel
theorem dX7_runsToCome_32 : decode cX7_runsToCome 32 = .ok (.iconst 1, 1) := by decide +kernel
theorem dX7_runsToCome_33 : decode cX7_runsToCome 33 = .ok (.goto 4, 3) := by decide +kernel
theorem dX7_runsToCome_36 : decode cX7_runsToCome 36 = .ok (.iconst 0, 1) := by decide +kernel
theorem dX7_runsToCome_37 : decode cX7_runsToCome 37 = .ok (.iadd, 1) := by decide +kernel
theorem dX7_runsToCome_38 : decode cX7_runsToCome 38 = .ok (.ireturn, 1) := by decide +kernel
def ck_wsX7_canRun : List (List Cond) := [[.code yX7_canRun cX7_canRun 1 (some .boolean)], wsX7_canRun_r1, wsX7_canRun_r2]
theorem ck_wsX7_canRun_m : ∀ c ∈ ck_wsX7_canRun, ∀ w ∈ c, w ∈ wsX7_canRun := List.forall_mem_cons.mpr ⟨fun w h => List.mem_cons.mpr (Or.inl (List.mem_singleton.mp h)), List.forall_mem_cons.mpr ⟨fun _ h => (List.mem_cons_of_mem _ (List.mem_append_left _ (List.mem_append_left _ h))), List.forall_mem_cons.mpr ⟨fun _ h => (List.mem_cons_of_mem _ (List.mem_append_left _ (List.mem_append_right _ h))), fun _ h => absurd h List.not_mem_nil⟩⟩⟩
set_option maxRecDepth 100000 in
theorem ck_wsX7_canRun_g : ∀ w ∈ wsX7_canRun, goodWord w = true := List.all_eq_true.mp (by decide +kernel)
set_option maxRecDepth 100000 in
theorem ggX7_canRun_X7_runsToCome : GoodIn wsX7_canRun wsX7_runsToCome := goodIn_ca (goodIn_2 ck_wsX7_canRun [(1, 5), (1, 0), (1, 6), (1, 7), (1, 8), (1, 4), (1, 9), (1, 10), (1, 11), (1, 12), (1, 13), (1, 14), (1, 15), (1, 16), (1, 17), (1, 18), (1, 19), (1, 20), (1, 21), (1, 22), (1, 23), (2, 0), (2, 1)] ck_wsX7_canRun_m ck_wsX7_canRun_g rfl) (goodIn_b (fun _ h => (List.mem_cons_of_mem _ (List.mem_append_right _ h))) ck_wsX7_canRun_g)
set_option maxRecDepth 20000 in
theorem gX7_canRun_X7_runsToCome : GoodIn wsX7_canRun (wsV RX7 114 RX7 yX7_runsToCome wsX7_runsToCome) := goodIn_app (goodIn_of _ (by decide +kernel)) ggX7_canRun_X7_runsToCome
set_option maxRecDepth 100000 in
theorem ggX7_canRun_X7_waysOf : GoodIn wsX7_canRun wsX7_waysOf := goodIn_2 ck_wsX7_canRun [(2, 4)] ck_wsX7_canRun_m ck_wsX7_canRun_g rfl
set_option maxRecDepth 20000 in
theorem gX7_canRun_X7_waysOf : GoodIn wsX7_canRun (va_wsS RX7 80 yX7_waysOf wsX7_waysOf) := goodIn_app (goodIn_of _ (by decide +kernel)) ggX7_canRun_X7_waysOf
theorem dX7_canRun_0 : decode cX7_canRun 0 = .ok (.aload_n 0, 1) := by decide +kernel
theorem dX7_canRun_1 : decode cX7_canRun 1 = .ok (.invokevirtual 114, 3) := by decide +kernel
theorem dX7_canRun_4 : decode cX7_canRun 4 = .ok (.iconst 2, 1) := by decide +kernel
theorem dX7_canRun_5 : decode cX7_canRun 5 = .ok (.if_icmp .lt 16, 3) := by decide +kernel
theorem dX7_canRun_8 : decode cX7_canRun 8 = .ok (.aload_n 0, 1) := by decide +kernel
theorem dX7_canRun_9 : decode cX7_canRun 9 = .ok (.getfield 7, 3) := by decide +kernel
theorem dX7_canRun_12 : decode cX7_canRun 12 = .ok (.iconst 0, 1) := by decide +kernel
theorem dX7_canRun_13 : decode cX7_canRun 13 = .ok (.iaload, 1) := by decide +kernel
theorem dX7_canRun_14 : decode cX7_canRun 14 = .ok (.invokestatic 80, 3) := by decide +kernel
theorem dX7_canRun_17 : decode cX7_canRun 17 = .ok (.iconst 1, 1) := by decide +kernel
theorem dX7_canRun_18 : decode cX7_canRun 18 = .ok (.if_icmp .le 7, 3) := by decide +kernel
theorem dX7_canRun_21 : decode cX7_canRun 21 = .ok (.iconst 1, 1) := by decide +kernel
theorem dX7_canRun_22 : decode cX7_canRun 22 = .ok (.goto 4, 3) := by decide +kernel
theorem dX7_canRun_25 : decode cX7_canRun 25 = .ok (.iconst 0, 1) := by decide +kernel
theorem dX7_canRun_26 : decode cX7_canRun 26 = .ok (.ireturn, 1) := by decide +kernel
def ck_wsX7_allSteps : List (List Cond) := [[.code yX7_allSteps cX7_allSteps 2 (some .int)], wsX7_allSteps_r1, wsX7_allSteps_r2, wsX7_allSteps_r3]
theorem ck_wsX7_allSteps_m : ∀ c ∈ ck_wsX7_allSteps, ∀ w ∈ c, w ∈ wsX7_allSteps := List.forall_mem_cons.mpr ⟨fun w h => List.mem_cons.mpr (Or.inl (List.mem_singleton.mp h)), List.forall_mem_cons.mpr ⟨fun _ h => (List.mem_cons_of_mem _ (List.mem_append_left _ (List.mem_append_left _ h))), List.forall_mem_cons.mpr ⟨fun _ h => (List.mem_cons_of_mem _ (List.mem_append_left _ (List.mem_append_right _ (List.mem_append_left _ h)))), List.forall_mem_cons.mpr ⟨fun _ h => (List.mem_cons_of_mem _ (List.mem_append_left _ (List.mem_append_right _ (List.mem_append_right _ h)))), fun _ h => absurd h List.not_mem_nil⟩⟩⟩⟩
set_option maxRecDepth 100000 in
theorem ck_wsX7_allSteps_g : ∀ w ∈ wsX7_allSteps, goodWord w = true := List.all_eq_true.mp (by decide +kernel)
set_option maxRecDepth 100000 in
theorem ggX7_allSteps_X7_finishes : GoodIn wsX7_allSteps wsX7_finishes := goodIn_ca (goodIn_2 ck_wsX7_allSteps [(1, 5), (1, 0), (1, 6), (1, 7), (1, 8), (1, 4), (1, 9), (1, 10), (1, 11), (1, 12), (1, 13), (1, 14), (1, 15), (1, 16), (1, 17), (1, 18), (1, 19), (1, 20), (1, 21)] ck_wsX7_allSteps_m ck_wsX7_allSteps_g rfl) (goodIn_b (fun _ h => (List.mem_cons_of_mem _ (List.mem_append_right _ h))) ck_wsX7_allSteps_g)
set_option maxRecDepth 20000 in
theorem gX7_allSteps_X7_finishes : GoodIn wsX7_allSteps (wsV RX7 71 RX7 yX7_finishes wsX7_finishes) := goodIn_app (goodIn_of _ (by decide +kernel)) ggX7_allSteps_X7_finishes
set_option maxRecDepth 100000 in
theorem ggX7_allSteps_X7_runMany : GoodIn wsX7_allSteps wsX7_runMany := goodIn_ca (goodIn_2 ck_wsX7_allSteps [(2, 1), (2, 2), (2, 3), (2, 4), (1, 4), (2, 5), (2, 6), (2, 7), (2, 8), (2, 9), (1, 0), (1, 14), (1, 15), (1, 16), (1, 17)] ck_wsX7_allSteps_m ck_wsX7_allSteps_g rfl) (goodIn_b (fun _ h => (List.mem_cons_of_mem _ (List.mem_append_right _ h))) ck_wsX7_allSteps_g)
set_option maxRecDepth 20000 in
theorem gX7_allSteps_X7_runMany : GoodIn wsX7_allSteps (wsV RX7 74 RX7 yX7_runMany wsX7_runMany) := goodIn_app (goodIn_of _ (by decide +kernel)) ggX7_allSteps_X7_runMany
set_option maxRecDepth 100000 in
theorem ggX7_allSteps_X7_begins : GoodIn wsX7_allSteps wsX7_begins := goodIn_ca (goodIn_2 ck_wsX7_allSteps [(2, 13), (1, 0), (1, 22), (1, 23), (2, 0), (1, 4), (2, 1), (2, 2), (2, 3), (2, 4), (2, 5), (2, 6), (2, 7), (2, 8), (2, 9), (1, 14), (1, 15), (1, 16), (1, 17), (2, 14), (2, 15), (2, 16), (2, 17), (2, 18), (2, 19), (2, 20), (1, 10), (1, 11), (1, 12), (1, 13)] ck_wsX7_allSteps_m ck_wsX7_allSteps_g rfl) (goodIn_b (fun _ h => (List.mem_cons_of_mem _ (List.mem_append_right _ h))) ck_wsX7_allSteps_g)
set_option maxRecDepth 20000 in
theorem gX7_allSteps_X7_begins : GoodIn wsX7_allSteps (wsV RX7 96 RX7 yX7_begins wsX7_begins) := goodIn_app (goodIn_of _ (by decide +kernel)) ggX7_allSteps_X7_begins
set_option maxRecDepth 100000 in
theorem ggX7_allSteps_X7_steps : GoodIn wsX7_allSteps wsX7_steps := goodIn_ca (goodIn_2 ck_wsX7_allSteps [(3, 0), (1, 0), (3, 1), (3, 2), (3, 3), (1, 4), (3, 4), (3, 5), (3, 6), (3, 7), (3, 8), (1, 14), (1, 15), (1, 16), (1, 17), (3, 9), (3, 10), (3, 11), (3, 12), (3, 13), (3, 14), (3, 15), (3, 16), (1, 18), (1, 19), (1, 20), (1, 21)] ck_wsX7_allSteps_m ck_wsX7_allSteps_g rfl) (goodIn_b (fun _ h => (List.mem_cons_of_mem _ (List.mem_append_right _ h))) ck_wsX7_allSteps_g)
set_option maxRecDepth 20000 in
theorem gX7_allSteps_X7_steps : GoodIn wsX7_allSteps (wsV RX7 111 RX7 yX7_steps wsX7_steps) := goodIn_app (goodIn_of _ (by decide +kernel)) ggX7_allSteps_X7_steps
theorem dX7_allSteps_0 : decode cX7_allSteps 0 = .ok (.aload_n 0, 1) := by decide +kernel
theorem dX7_allSteps_1 : decode cX7_allSteps 1 = .ok (.getfield 7, 3) := by decide +kernel
theorem dX7_allSteps_4 : decode cX7_allSteps 4 = .ok (.iconst 2, 1) := by decide +kernel
theorem dX7_allSteps_5 : decode cX7_allSteps 5 = .ok (.iaload, 1) := by decide +kernel
theorem dX7_allSteps_6 : decode cX7_allSteps 6 = .ok (.iconst 1, 1) := by decide +kernel
theorem dX7_allSteps_7 : decode cX7_allSteps 7 = .ok (.if_icmp .ne 7, 3) := by decide +kernel
theorem dX7_allSteps_10 : decode cX7_allSteps 10 = .ok (.aload_n 0, 1) := by decide +kernel
theorem dX7_allSteps_11 : decode cX7_allSteps 11 = .ok (.invokevirtual 71, 3) := by decide +kernel
theorem dX7_allSteps_14 : decode cX7_allSteps 14 = .ok (.aload_n 0, 1) := by decide +kernel
theorem dX7_allSteps_15 : decode cX7_allSteps 15 = .ok (.getfield 7, 3) := by decide +kernel
theorem dX7_allSteps_18 : decode cX7_allSteps 18 = .ok (.bipush 8, 2) := by decide +kernel
theorem dX7_allSteps_20 : decode cX7_allSteps 20 = .ok (.iaload, 1) := by decide +kernel
theorem dX7_allSteps_21 : decode cX7_allSteps 21 = .ok (.istore_n 1, 1) := by decide +kernel
theorem dX7_allSteps_22 : decode cX7_allSteps 22 = .ok (.aload_n 0, 1) := by decide +kernel
theorem dX7_allSteps_23 : decode cX7_allSteps 23 = .ok (.getfield 7, 3) := by decide +kernel
theorem dX7_allSteps_26 : decode cX7_allSteps 26 = .ok (.iconst 5, 1) := by decide +kernel
theorem dX7_allSteps_27 : decode cX7_allSteps 27 = .ok (.iaload, 1) := by decide +kernel
theorem dX7_allSteps_28 : decode cX7_allSteps 28 = .ok (.iconst 1, 1) := by decide +kernel
theorem dX7_allSteps_29 : decode cX7_allSteps 29 = .ok (.if_icmp .eq 11, 3) := by decide +kernel
theorem dX7_allSteps_32 : decode cX7_allSteps 32 = .ok (.aload_n 0, 1) := by decide +kernel
theorem dX7_allSteps_33 : decode cX7_allSteps 33 = .ok (.invokevirtual 74, 3) := by decide +kernel
theorem dX7_allSteps_36 : decode cX7_allSteps 36 = .ok (.iconst 1, 1) := by decide +kernel
theorem dX7_allSteps_37 : decode cX7_allSteps 37 = .ok (.if_icmp .le 23, 3) := by decide +kernel
theorem dX7_allSteps_40 : decode cX7_allSteps 40 = .ok (.aload_n 0, 1) := by decide +kernel
theorem dX7_allSteps_41 : decode cX7_allSteps 41 = .ok (.getfield 7, 3) := by decide +kernel
theorem dX7_allSteps_44 : decode cX7_allSteps 44 = .ok (.iconst 5, 1) := by decide +kernel
theorem dX7_allSteps_45 : decode cX7_allSteps 45 = .ok (.iaload, 1) := by decide +kernel
theorem dX7_allSteps_46 : decode cX7_allSteps 46 = .ok (.ifCond .ne 7, 3) := by decide +kernel
theorem dX7_allSteps_49 : decode cX7_allSteps 49 = .ok (.aload_n 0, 1) := by decide +kernel
theorem dX7_allSteps_50 : decode cX7_allSteps 50 = .ok (.invokevirtual 96, 3) := by decide +kernel
theorem dX7_allSteps_53 : decode cX7_allSteps 53 = .ok (.aload_n 0, 1) := by decide +kernel
theorem dX7_allSteps_54 : decode cX7_allSteps 54 = .ok (.invokevirtual 111, 3) := by decide +kernel
theorem dX7_allSteps_57 : decode cX7_allSteps 57 = .ok (.goto (-35), 3) := by decide +kernel
theorem dX7_allSteps_60 : decode cX7_allSteps 60 = .ok (.aload_n 0, 1) := by decide +kernel
theorem dX7_allSteps_61 : decode cX7_allSteps 61 = .ok (.getfield 7, 3) := by decide +kernel
theorem dX7_allSteps_64 : decode cX7_allSteps 64 = .ok (.bipush 8, 2) := by decide +kernel
theorem dX7_allSteps_66 : decode cX7_allSteps 66 = .ok (.iaload, 1) := by decide +kernel
theorem dX7_allSteps_67 : decode cX7_allSteps 67 = .ok (.iload_n 1, 1) := by decide +kernel
theorem dX7_allSteps_68 : decode cX7_allSteps 68 = .ok (.isub, 1) := by decide +kernel
theorem dX7_allSteps_69 : decode cX7_allSteps 69 = .ok (.ireturn, 1) := by decide +kernel
def ck_wsX7_run : List (List Cond) := [[.code yX7_run cX7_run 1 (some .int)], wsX7_run_r1, wsX7_run_r2, wsX7_run_r3, wsX7_run_r4]
theorem ck_wsX7_run_m : ∀ c ∈ ck_wsX7_run, ∀ w ∈ c, w ∈ wsX7_run := List.forall_mem_cons.mpr ⟨fun w h => List.mem_cons.mpr (Or.inl (List.mem_singleton.mp h)), List.forall_mem_cons.mpr ⟨fun _ h => (List.mem_cons_of_mem _ (List.mem_append_left _ (List.mem_append_left _ h))), List.forall_mem_cons.mpr ⟨fun _ h => (List.mem_cons_of_mem _ (List.mem_append_left _ (List.mem_append_right _ (List.mem_append_left _ h)))), List.forall_mem_cons.mpr ⟨fun _ h => (List.mem_cons_of_mem _ (List.mem_append_left _ (List.mem_append_right _ (List.mem_append_right _ (List.mem_append_left _ h))))), List.forall_mem_cons.mpr ⟨fun _ h => (List.mem_cons_of_mem _ (List.mem_append_left _ (List.mem_append_right _ (List.mem_append_right _ (List.mem_append_right _ h))))), fun _ h => absurd h List.not_mem_nil⟩⟩⟩⟩⟩
set_option maxRecDepth 100000 in
theorem ck_wsX7_run_g : ∀ w ∈ wsX7_run, goodWord w = true := List.all_eq_true.mp (by decide +kernel)
set_option maxRecDepth 100000 in
theorem ggX7_run_X7_canRun : GoodIn wsX7_run wsX7_canRun := goodIn_ca (goodIn_2 ck_wsX7_run [(1, 4), (1, 5), (1, 6), (1, 7), (1, 8), (1, 3), (1, 9), (1, 10), (1, 11), (1, 12), (1, 13), (1, 14), (1, 15), (1, 16), (1, 17), (1, 18), (1, 19), (1, 20), (1, 21), (1, 22), (1, 23), (2, 0), (2, 1), (2, 2), (2, 3), (2, 4), (2, 5), (2, 6), (2, 7), (2, 8)] ck_wsX7_run_m ck_wsX7_run_g rfl) (goodIn_b (fun _ h => (List.mem_cons_of_mem _ (List.mem_append_right _ h))) ck_wsX7_run_g)
set_option maxRecDepth 20000 in
theorem gX7_run_X7_canRun : GoodIn wsX7_run (wsV RX7 117 RX7 yX7_canRun wsX7_canRun) := goodIn_app (goodIn_of _ (by decide +kernel)) ggX7_run_X7_canRun
set_option maxRecDepth 100000 in
theorem ggX7_run_X7_record : GoodIn wsX7_run wsX7_record := goodIn_ca (goodIn_2 ck_wsX7_run [(2, 12), (2, 13), (2, 14), (1, 5)] ck_wsX7_run_m ck_wsX7_run_g rfl) (goodIn_b (fun _ h => (List.mem_cons_of_mem _ (List.mem_append_right _ h))) ck_wsX7_run_g)
set_option maxRecDepth 20000 in
theorem gX7_run_X7_record : GoodIn wsX7_run (wsV RX7 37 RX7 yX7_record wsX7_record) := goodIn_app (goodIn_of _ (by decide +kernel)) ggX7_run_X7_record
set_option maxRecDepth 100000 in
theorem ggX7_run_X7_allSteps : GoodIn wsX7_run wsX7_allSteps := goodIn_ca (goodIn_2 ck_wsX7_run [(2, 18), (1, 5), (2, 19), (2, 20), (2, 21), (1, 3), (2, 22), (2, 23), (3, 0), (3, 1), (3, 2), (2, 2), (2, 3), (2, 4), (2, 5), (1, 22), (1, 23), (2, 0), (2, 1), (3, 3), (3, 4), (3, 5), (3, 6), (1, 10), (1, 11), (1, 12), (1, 13), (1, 14), (1, 15), (1, 16), (1, 17), (1, 18), (1, 19), (1, 20), (1, 21), (3, 7), (3, 8), (3, 9), (3, 10), (2, 6), (2, 7), (2, 8), (3, 11), (3, 12), (3, 13), (3, 14), (3, 15), (3, 16), (3, 17), (3, 18), (3, 19), (3, 20), (3, 21), (3, 22), (3, 23), (4, 0), (4, 1), (4, 2), (4, 3), (4, 4), (4, 5), (4, 6), (4, 7), (4, 8), (4, 9), (4, 10)] ck_wsX7_run_m ck_wsX7_run_g rfl) (goodIn_b (fun _ h => (List.mem_cons_of_mem _ (List.mem_append_right _ h))) ck_wsX7_run_g)
set_option maxRecDepth 20000 in
theorem gX7_run_X7_allSteps : GoodIn wsX7_run (wsV RX7 121 RX7 yX7_allSteps wsX7_allSteps) := goodIn_app (goodIn_of _ (by decide +kernel)) ggX7_run_X7_allSteps
theorem dX7_run_0 : decode cX7_run 0 = .ok (.aload_n 0, 1) := by decide +kernel
theorem dX7_run_1 : decode cX7_run 1 = .ok (.invokevirtual 117, 3) := by decide +kernel
theorem dX7_run_4 : decode cX7_run 4 = .ok (.ifCond .ne 6, 3) := by decide +kernel
theorem dX7_run_7 : decode cX7_run 7 = .ok (.bipush (-3), 2) := by decide +kernel
theorem dX7_run_9 : decode cX7_run 9 = .ok (.ireturn, 1) := by decide +kernel
theorem dX7_run_10 : decode cX7_run 10 = .ok (.aload_n 0, 1) := by decide +kernel
theorem dX7_run_11 : decode cX7_run 11 = .ok (.invokevirtual 37, 3) := by decide +kernel
theorem dX7_run_14 : decode cX7_run 14 = .ok (.aload_n 0, 1) := by decide +kernel
theorem dX7_run_15 : decode cX7_run 15 = .ok (.invokevirtual 121, 3) := by decide +kernel
theorem dX7_run_18 : decode cX7_run 18 = .ok (.ireturn, 1) := by decide +kernel
theorem dX7_isMerging_0 : decode cX7_isMerging 0 = .ok (.aload_n 0, 1) := by decide +kernel
theorem dX7_isMerging_1 : decode cX7_isMerging 1 = .ok (.getfield 7, 3) := by decide +kernel
theorem dX7_isMerging_4 : decode cX7_isMerging 4 = .ok (.iconst 5, 1) := by decide +kernel
theorem dX7_isMerging_5 : decode cX7_isMerging 5 = .ok (.iaload, 1) := by decide +kernel
theorem dX7_isMerging_6 : decode cX7_isMerging 6 = .ok (.ireturn, 1) := by decide +kernel
set_option maxRecDepth 20000 in
theorem ggX7_isDone_X7_runMany : GoodIn wsX7_isDone wsX7_runMany := goodIn_r _ [6, 7, 8, 9, 5, 10, 11, 12, 13, 14, 1, 15, 16, 17, 18, 19, 20, 21, 22, 23, 24, 25, 26, 27, 28, 29, 30] (by decide +kernel) (by decide +kernel)
set_option maxRecDepth 20000 in
theorem gX7_isDone_X7_runMany : GoodIn wsX7_isDone (wsV RX7 74 RX7 yX7_runMany wsX7_runMany) := goodIn_app (goodIn_of _ (by decide +kernel)) ggX7_isDone_X7_runMany
theorem dX7_isDone_0 : decode cX7_isDone 0 = .ok (.aload_n 0, 1) := by decide +kernel
theorem dX7_isDone_1 : decode cX7_isDone 1 = .ok (.getfield 7, 3) := by decide +kernel
theorem dX7_isDone_4 : decode cX7_isDone 4 = .ok (.iconst 2, 1) := by decide +kernel
theorem dX7_isDone_5 : decode cX7_isDone 5 = .ok (.iaload, 1) := by decide +kernel
theorem dX7_isDone_6 : decode cX7_isDone 6 = .ok (.ifCond .ne 24, 3) := by decide +kernel
theorem dX7_isDone_9 : decode cX7_isDone 9 = .ok (.aload_n 0, 1) := by decide +kernel
theorem dX7_isDone_10 : decode cX7_isDone 10 = .ok (.getfield 7, 3) := by decide +kernel
theorem dX7_isDone_13 : decode cX7_isDone 13 = .ok (.iconst 5, 1) := by decide +kernel
theorem dX7_isDone_14 : decode cX7_isDone 14 = .ok (.iaload, 1) := by decide +kernel
theorem dX7_isDone_15 : decode cX7_isDone 15 = .ok (.ifCond .ne 15, 3) := by decide +kernel
theorem dX7_isDone_18 : decode cX7_isDone 18 = .ok (.aload_n 0, 1) := by decide +kernel
theorem dX7_isDone_19 : decode cX7_isDone 19 = .ok (.invokevirtual 74, 3) := by decide +kernel
theorem dX7_isDone_22 : decode cX7_isDone 22 = .ok (.iconst 2, 1) := by decide +kernel
theorem dX7_isDone_23 : decode cX7_isDone 23 = .ok (.if_icmp .ge 7, 3) := by decide +kernel
theorem dX7_isDone_26 : decode cX7_isDone 26 = .ok (.iconst 1, 1) := by decide +kernel
theorem dX7_isDone_27 : decode cX7_isDone 27 = .ok (.goto 4, 3) := by decide +kernel
theorem dX7_isDone_30 : decode cX7_isDone 30 = .ok (.iconst 0, 1) := by decide +kernel
theorem dX7_isDone_31 : decode cX7_isDone 31 = .ok (.ireturn, 1) := by decide +kernel
def ck_wsX7_ofMerge : List (List Cond) := [[.code yX7_ofMerge cX7_ofMerge 2 (some .int)], wsX7_ofMerge_r1, wsX7_ofMerge_r2]
theorem ck_wsX7_ofMerge_m : ∀ c ∈ ck_wsX7_ofMerge, ∀ w ∈ c, w ∈ wsX7_ofMerge := List.forall_mem_cons.mpr ⟨fun w h => List.mem_cons.mpr (Or.inl (List.mem_singleton.mp h)), List.forall_mem_cons.mpr ⟨fun _ h => (List.mem_cons_of_mem _ (List.mem_append_left _ (List.mem_append_left _ h))), List.forall_mem_cons.mpr ⟨fun _ h => (List.mem_cons_of_mem _ (List.mem_append_left _ (List.mem_append_right _ h))), fun _ h => absurd h List.not_mem_nil⟩⟩⟩
set_option maxRecDepth 100000 in
theorem ck_wsX7_ofMerge_g : ∀ w ∈ wsX7_ofMerge, goodWord w = true := List.all_eq_true.mp (by decide +kernel)
set_option maxRecDepth 100000 in
theorem ggX7_ofMerge_X7_in : GoodIn wsX7_ofMerge wsX7_in := goodIn_2 ck_wsX7_ofMerge [(1, 4)] ck_wsX7_ofMerge_m ck_wsX7_ofMerge_g rfl
set_option maxRecDepth 20000 in
theorem gX7_ofMerge_X7_in : GoodIn wsX7_ofMerge (va_wsS RX7 44 yX7_in wsX7_in) := goodIn_app (goodIn_of _ (by decide +kernel)) ggX7_ofMerge_X7_in
set_option maxRecDepth 100000 in
theorem ggX7_ofMerge_X7_inputsLeft : GoodIn wsX7_ofMerge wsX7_inputsLeft := goodIn_ca (goodIn_2 ck_wsX7_ofMerge [(1, 8), (1, 9), (1, 10), (1, 11), (1, 3), (1, 12), (1, 13), (1, 14), (1, 15), (1, 16), (1, 0), (1, 17), (1, 18), (1, 19), (1, 20)] ck_wsX7_ofMerge_m ck_wsX7_ofMerge_g rfl) (goodIn_b (fun _ h => (List.mem_cons_of_mem _ (List.mem_append_right _ h))) ck_wsX7_ofMerge_g)
set_option maxRecDepth 20000 in
theorem gX7_ofMerge_X7_inputsLeft : GoodIn wsX7_ofMerge (wsV RX7 77 RX7 yX7_inputsLeft wsX7_inputsLeft) := goodIn_app (goodIn_of _ (by decide +kernel)) ggX7_ofMerge_X7_inputsLeft
set_option maxRecDepth 100000 in
theorem ggX7_ofMerge_X7_rowsAt : GoodIn wsX7_ofMerge wsX7_rowsAt := goodIn_ca (goodIn_2 ck_wsX7_ofMerge [(2, 0), (1, 0), (1, 17), (1, 18), (1, 19), (1, 3), (1, 20)] ck_wsX7_ofMerge_m ck_wsX7_ofMerge_g rfl) (goodIn_b (fun _ h => (List.mem_cons_of_mem _ (List.mem_append_right _ h))) ck_wsX7_ofMerge_g)
set_option maxRecDepth 20000 in
theorem gX7_ofMerge_X7_rowsAt : GoodIn wsX7_ofMerge (wsV RX7 48 RX7 yX7_rowsAt wsX7_rowsAt) := goodIn_app (goodIn_of _ (by decide +kernel)) ggX7_ofMerge_X7_rowsAt
set_option maxRecDepth 100000 in
theorem ggX7_ofMerge_X7_rowsInInputs : GoodIn wsX7_ofMerge wsX7_rowsInInputs := goodIn_ca (goodIn_2 ck_wsX7_ofMerge [(2, 4), (1, 0), (2, 5), (2, 6), (2, 7), (1, 3), (2, 8), (1, 17), (1, 18), (1, 19), (1, 20)] ck_wsX7_ofMerge_m ck_wsX7_ofMerge_g rfl) (goodIn_b (fun _ h => (List.mem_cons_of_mem _ (List.mem_append_right _ h))) ck_wsX7_ofMerge_g)
set_option maxRecDepth 20000 in
theorem gX7_ofMerge_X7_rowsInInputs : GoodIn wsX7_ofMerge (wsV RX7 108 RX7 yX7_rowsInInputs wsX7_rowsInInputs) := goodIn_app (goodIn_of _ (by decide +kernel)) ggX7_ofMerge_X7_rowsInInputs
theorem dX7_ofMerge_0 : decode cX7_ofMerge 0 = .ok (.iload_n 1, 1) := by decide +kernel
theorem dX7_ofMerge_1 : decode cX7_ofMerge 1 = .ok (.iconst 0, 1) := by decide +kernel
theorem dX7_ofMerge_2 : decode cX7_ofMerge 2 = .ok (.iconst 3, 1) := by decide +kernel
theorem dX7_ofMerge_3 : decode cX7_ofMerge 3 = .ok (.invokestatic 44, 3) := by decide +kernel
theorem dX7_ofMerge_6 : decode cX7_ofMerge 6 = .ok (.ifCond .ne 6, 3) := by decide +kernel
theorem dX7_ofMerge_9 : decode cX7_ofMerge 9 = .ok (.bipush (-2), 2) := by decide +kernel
theorem dX7_ofMerge_11 : decode cX7_ofMerge 11 = .ok (.ireturn, 1) := by decide +kernel
theorem dX7_ofMerge_12 : decode cX7_ofMerge 12 = .ok (.aload_n 0, 1) := by decide +kernel
theorem dX7_ofMerge_13 : decode cX7_ofMerge 13 = .ok (.getfield 7, 3) := by decide +kernel
theorem dX7_ofMerge_16 : decode cX7_ofMerge 16 = .ok (.iconst 5, 1) := by decide +kernel
theorem dX7_ofMerge_17 : decode cX7_ofMerge 17 = .ok (.iaload, 1) := by decide +kernel
theorem dX7_ofMerge_18 : decode cX7_ofMerge 18 = .ok (.ifCond .ne 6, 3) := by decide +kernel
theorem dX7_ofMerge_21 : decode cX7_ofMerge 21 = .ok (.bipush (-6), 2) := by decide +kernel
theorem dX7_ofMerge_23 : decode cX7_ofMerge 23 = .ok (.ireturn, 1) := by decide +kernel
theorem dX7_ofMerge_24 : decode cX7_ofMerge 24 = .ok (.iload_n 1, 1) := by decide +kernel
theorem dX7_ofMerge_25 : decode cX7_ofMerge 25 = .ok (.ifCond .ne 13, 3) := by decide +kernel
theorem dX7_ofMerge_28 : decode cX7_ofMerge 28 = .ok (.aload_n 0, 1) := by decide +kernel
theorem dX7_ofMerge_29 : decode cX7_ofMerge 29 = .ok (.getfield 7, 3) := by decide +kernel
theorem dX7_ofMerge_32 : decode cX7_ofMerge 32 = .ok (.bipush 6, 2) := by decide +kernel
theorem dX7_ofMerge_34 : decode cX7_ofMerge 34 = .ok (.iaload, 1) := by decide +kernel
theorem dX7_ofMerge_35 : decode cX7_ofMerge 35 = .ok (.goto 32, 3) := by decide +kernel
theorem dX7_ofMerge_38 : decode cX7_ofMerge 38 = .ok (.iload_n 1, 1) := by decide +kernel
theorem dX7_ofMerge_39 : decode cX7_ofMerge 39 = .ok (.iconst 1, 1) := by decide +kernel
theorem dX7_ofMerge_40 : decode cX7_ofMerge 40 = .ok (.if_icmp .ne 10, 3) := by decide +kernel
theorem dX7_ofMerge_43 : decode cX7_ofMerge 43 = .ok (.aload_n 0, 1) := by decide +kernel
theorem dX7_ofMerge_44 : decode cX7_ofMerge 44 = .ok (.invokevirtual 77, 3) := by decide +kernel
theorem dX7_ofMerge_47 : decode cX7_ofMerge 47 = .ok (.goto 20, 3) := by decide +kernel
theorem dX7_ofMerge_50 : decode cX7_ofMerge 50 = .ok (.iload_n 1, 1) := by decide +kernel
theorem dX7_ofMerge_51 : decode cX7_ofMerge 51 = .ok (.iconst 2, 1) := by decide +kernel
theorem dX7_ofMerge_52 : decode cX7_ofMerge 52 = .ok (.if_icmp .ne 11, 3) := by decide +kernel
theorem dX7_ofMerge_55 : decode cX7_ofMerge 55 = .ok (.aload_n 0, 1) := by decide +kernel
theorem dX7_ofMerge_56 : decode cX7_ofMerge 56 = .ok (.iconst 2, 1) := by decide +kernel
theorem dX7_ofMerge_57 : decode cX7_ofMerge 57 = .ok (.invokevirtual 48, 3) := by decide +kernel
theorem dX7_ofMerge_60 : decode cX7_ofMerge 60 = .ok (.goto 7, 3) := by decide +kernel
theorem dX7_ofMerge_63 : decode cX7_ofMerge 63 = .ok (.aload_n 0, 1) := by decide +kernel
theorem dX7_ofMerge_64 : decode cX7_ofMerge 64 = .ok (.invokevirtual 108, 3) := by decide +kernel
theorem dX7_ofMerge_67 : decode cX7_ofMerge 67 = .ok (.ireturn, 1) := by decide +kernel
set_option maxRecDepth 20000 in
theorem ggX7_runs_X7_runMany : GoodIn wsX7_runs wsX7_runMany := goodIn_r _ [5, 6, 7, 8, 4, 9, 10, 11, 12, 13, 14, 15, 16, 17, 18, 19, 20, 21, 22, 23, 24, 25, 26, 27, 28, 29, 30] (by decide +kernel) (by decide +kernel)
set_option maxRecDepth 20000 in
theorem gX7_runs_X7_runMany : GoodIn wsX7_runs (wsV RX7 74 RX7 yX7_runMany wsX7_runMany) := goodIn_app (goodIn_of _ (by decide +kernel)) ggX7_runs_X7_runMany
theorem dX7_runs_0 : decode cX7_runs 0 = .ok (.aload_n 0, 1) := by decide +kernel
theorem dX7_runs_1 : decode cX7_runs 1 = .ok (.invokevirtual 74, 3) := by decide +kernel
theorem dX7_runs_4 : decode cX7_runs 4 = .ok (.ireturn, 1) := by decide +kernel
set_option maxRecDepth 20000 in
theorem ggX7_runAt_X7_nextPlace : GoodIn wsX7_runAt wsX7_nextPlace := goodIn_r _ [5, 6, 7, 8, 9, 4, 10, 11, 12, 13, 14, 15, 16, 17, 18, 19, 20, 21, 22] (by decide +kernel) (by decide +kernel)
set_option maxRecDepth 20000 in
theorem gX7_runAt_X7_nextPlace : GoodIn wsX7_runAt (wsV RX7 51 RX7 yX7_nextPlace wsX7_nextPlace) := goodIn_app (goodIn_of _ (by decide +kernel)) ggX7_runAt_X7_nextPlace
theorem dX7_runAt_0 : decode cX7_runAt 0 = .ok (.iload_n 1, 1) := by decide +kernel
theorem dX7_runAt_1 : decode cX7_runAt 1 = .ok (.istore_n 2, 1) := by decide +kernel
theorem dX7_runAt_2 : decode cX7_runAt 2 = .ok (.aload_n 0, 1) := by decide +kernel
theorem dX7_runAt_3 : decode cX7_runAt 3 = .ok (.iconst 0, 1) := by decide +kernel
theorem dX7_runAt_4 : decode cX7_runAt 4 = .ok (.iconst 0, 1) := by decide +kernel
theorem dX7_runAt_5 : decode cX7_runAt 5 = .ok (.invokevirtual 51, 3) := by decide +kernel
theorem dX7_runAt_8 : decode cX7_runAt 8 = .ok (.istore_n 3, 1) := by decide +kernel
theorem dX7_runAt_9 : decode cX7_runAt 9 = .ok (.iload_n 3, 1) := by decide +kernel
theorem dX7_runAt_10 : decode cX7_runAt 10 = .ok (.bipush (-6), 2) := by decide +kernel
theorem dX7_runAt_12 : decode cX7_runAt 12 = .ok (.if_icmp .eq 31, 3) := by decide +kernel
theorem dX7_runAt_15 : decode cX7_runAt 15 = .ok (.iload_n 1, 1) := by decide +kernel
theorem dX7_runAt_16 : decode cX7_runAt 16 = .ok (.ifCond .lt 27, 3) := by decide +kernel
theorem dX7_runAt_19 : decode cX7_runAt 19 = .ok (.iload_n 2, 1) := by decide +kernel
theorem dX7_runAt_20 : decode cX7_runAt 20 = .ok (.ifCond .ne 10, 3) := by decide +kernel
theorem dX7_runAt_23 : decode cX7_runAt 23 = .ok (.iload_n 3, 1) := by decide +kernel
theorem dX7_runAt_24 : decode cX7_runAt 24 = .ok (.bipush 10, 2) := by decide +kernel
theorem dX7_runAt_26 : decode cX7_runAt 26 = .ok (.isub, 1) := by decide +kernel
theorem dX7_runAt_27 : decode cX7_runAt 27 = .ok (.iconst 2, 1) := by decide +kernel
theorem dX7_runAt_28 : decode cX7_runAt 28 = .ok (.idiv, 1) := by decide +kernel
theorem dX7_runAt_29 : decode cX7_runAt 29 = .ok (.ireturn, 1) := by decide +kernel
theorem dX7_runAt_30 : decode cX7_runAt 30 = .ok (.iinc 2 (-1), 3) := by decide +kernel
theorem dX7_runAt_33 : decode cX7_runAt 33 = .ok (.aload_n 0, 1) := by decide +kernel
theorem dX7_runAt_34 : decode cX7_runAt 34 = .ok (.iload_n 3, 1) := by decide +kernel
theorem dX7_runAt_35 : decode cX7_runAt 35 = .ok (.iconst 0, 1) := by decide +kernel
theorem dX7_runAt_36 : decode cX7_runAt 36 = .ok (.invokevirtual 51, 3) := by decide +kernel
theorem dX7_runAt_39 : decode cX7_runAt 39 = .ok (.istore_n 3, 1) := by decide +kernel
theorem dX7_runAt_40 : decode cX7_runAt 40 = .ok (.goto (-31), 3) := by decide +kernel
theorem dX7_runAt_43 : decode cX7_runAt 43 = .ok (.iconst (-1), 1) := by decide +kernel
theorem dX7_runAt_44 : decode cX7_runAt 44 = .ok (.ireturn, 1) := by decide +kernel
set_option maxRecDepth 20000 in
theorem ggX7_size_X7_isRun : GoodIn wsX7_size wsX7_isRun := goodIn_r _ [5, 6, 7, 8, 4, 9, 10, 11, 12, 13, 14, 15, 16, 17, 18, 19, 20, 21, 22, 23, 24, 25, 26, 27, 28, 29] (by decide +kernel) (by decide +kernel)
set_option maxRecDepth 20000 in
theorem gX7_size_X7_isRun : GoodIn wsX7_size (wsV RX7 124 RX7 yX7_isRun wsX7_isRun) := goodIn_app (goodIn_of _ (by decide +kernel)) ggX7_size_X7_isRun
set_option maxRecDepth 20000 in
theorem ggX7_size_X7_rowsAt : GoodIn wsX7_size wsX7_rowsAt := goodIn_r _ [13, 6, 14, 15, 16, 4, 17, 18, 19, 20, 21, 22, 23, 24, 25, 26, 27, 28, 29] (by decide +kernel) (by decide +kernel)
set_option maxRecDepth 20000 in
theorem gX7_size_X7_rowsAt : GoodIn wsX7_size (wsV RX7 48 RX7 yX7_rowsAt wsX7_rowsAt) := goodIn_app (goodIn_of _ (by decide +kernel)) ggX7_size_X7_rowsAt
theorem dX7_size_0 : decode cX7_size 0 = .ok (.aload_n 0, 1) := by decide +kernel
theorem dX7_size_1 : decode cX7_size 1 = .ok (.iload_n 1, 1) := by decide +kernel
theorem dX7_size_2 : decode cX7_size 2 = .ok (.invokevirtual 124, 3) := by decide +kernel
theorem dX7_size_5 : decode cX7_size 5 = .ok (.ifCond .eq 16, 3) := by decide +kernel
theorem dX7_size_8 : decode cX7_size 8 = .ok (.aload_n 0, 1) := by decide +kernel
theorem dX7_size_9 : decode cX7_size 9 = .ok (.bipush 10, 2) := by decide +kernel
theorem dX7_size_11 : decode cX7_size 11 = .ok (.iconst 2, 1) := by decide +kernel
theorem dX7_size_12 : decode cX7_size 12 = .ok (.iload_n 1, 1) := by decide +kernel
theorem dX7_size_13 : decode cX7_size 13 = .ok (.imul, 1) := by decide +kernel
theorem dX7_size_14 : decode cX7_size 14 = .ok (.iadd, 1) := by decide +kernel
theorem dX7_size_15 : decode cX7_size 15 = .ok (.invokevirtual 48, 3) := by decide +kernel
theorem dX7_size_18 : decode cX7_size 18 = .ok (.goto 4, 3) := by decide +kernel
theorem dX7_size_21 : decode cX7_size 21 = .ok (.iconst (-1), 1) := by decide +kernel
theorem dX7_size_22 : decode cX7_size 22 = .ok (.ireturn, 1) := by decide +kernel
set_option maxRecDepth 20000 in
theorem ggX7_before_X7_place : GoodIn wsX7_before wsX7_place := goodIn_r _ [6, 1, 7, 8, 9, 10, 11, 12, 13, 14, 15, 16, 17, 18] (by decide +kernel) (by decide +kernel)
set_option maxRecDepth 20000 in
theorem gX7_before_X7_place : GoodIn wsX7_before (wsV RX7 40 RX7 yX7_place wsX7_place) := goodIn_app (goodIn_of _ (by decide +kernel)) ggX7_before_X7_place
theorem dX7_before_0 : decode cX7_before 0 = .ok (.iconst 0, 1) := by decide +kernel
theorem dX7_before_1 : decode cX7_before 1 = .ok (.istore_n 2, 1) := by decide +kernel
theorem dX7_before_2 : decode cX7_before 2 = .ok (.iconst 0, 1) := by decide +kernel
theorem dX7_before_3 : decode cX7_before 3 = .ok (.istore_n 3, 1) := by decide +kernel
theorem dX7_before_4 : decode cX7_before 4 = .ok (.iload_n 3, 1) := by decide +kernel
theorem dX7_before_5 : decode cX7_before 5 = .ok (.aload_n 0, 1) := by decide +kernel
theorem dX7_before_6 : decode cX7_before 6 = .ok (.getfield 7, 3) := by decide +kernel
theorem dX7_before_9 : decode cX7_before 9 = .ok (.iconst 3, 1) := by decide +kernel
theorem dX7_before_10 : decode cX7_before 10 = .ok (.iaload, 1) := by decide +kernel
theorem dX7_before_11 : decode cX7_before 11 = .ok (.if_icmp .ge 89, 3) := by decide +kernel
theorem dX7_before_14 : decode cX7_before 14 = .ok (.aload_n 0, 1) := by decide +kernel
theorem dX7_before_15 : decode cX7_before 15 = .ok (.getfield 7, 3) := by decide +kernel
theorem dX7_before_18 : decode cX7_before 18 = .ok (.bipush 10, 2) := by decide +kernel
theorem dX7_before_20 : decode cX7_before 20 = .ok (.iload_n 3, 1) := by decide +kernel
theorem dX7_before_21 : decode cX7_before 21 = .ok (.iadd, 1) := by decide +kernel
theorem dX7_before_22 : decode cX7_before 22 = .ok (.iaload, 1) := by decide +kernel
theorem dX7_before_23 : decode cX7_before 23 = .ok (.aload_n 0, 1) := by decide +kernel
theorem dX7_before_24 : decode cX7_before 24 = .ok (.getfield 7, 3) := by decide +kernel
theorem dX7_before_27 : decode cX7_before 27 = .ok (.bipush 10, 2) := by decide +kernel
theorem dX7_before_29 : decode cX7_before 29 = .ok (.iload_n 1, 1) := by decide +kernel
theorem dX7_before_30 : decode cX7_before 30 = .ok (.iadd, 1) := by decide +kernel
theorem dX7_before_31 : decode cX7_before 31 = .ok (.iaload, 1) := by decide +kernel
theorem dX7_before_32 : decode cX7_before 32 = .ok (.if_icmp .lt 29, 3) := by decide +kernel
theorem dX7_before_35 : decode cX7_before 35 = .ok (.aload_n 0, 1) := by decide +kernel
theorem dX7_before_36 : decode cX7_before 36 = .ok (.getfield 7, 3) := by decide +kernel
theorem dX7_before_39 : decode cX7_before 39 = .ok (.bipush 10, 2) := by decide +kernel
theorem dX7_before_41 : decode cX7_before 41 = .ok (.iload_n 3, 1) := by decide +kernel
theorem dX7_before_42 : decode cX7_before 42 = .ok (.iadd, 1) := by decide +kernel
theorem dX7_before_43 : decode cX7_before 43 = .ok (.iaload, 1) := by decide +kernel
theorem dX7_before_44 : decode cX7_before 44 = .ok (.aload_n 0, 1) := by decide +kernel
theorem dX7_before_45 : decode cX7_before 45 = .ok (.getfield 7, 3) := by decide +kernel
theorem dX7_before_48 : decode cX7_before 48 = .ok (.bipush 10, 2) := by decide +kernel
theorem dX7_before_50 : decode cX7_before 50 = .ok (.iload_n 1, 1) := by decide +kernel
theorem dX7_before_51 : decode cX7_before 51 = .ok (.iadd, 1) := by decide +kernel
theorem dX7_before_52 : decode cX7_before 52 = .ok (.iaload, 1) := by decide +kernel
theorem dX7_before_53 : decode cX7_before 53 = .ok (.if_icmp .ne 12, 3) := by decide +kernel
theorem dX7_before_56 : decode cX7_before 56 = .ok (.iload_n 3, 1) := by decide +kernel
theorem dX7_before_57 : decode cX7_before 57 = .ok (.iload_n 1, 1) := by decide +kernel
theorem dX7_before_58 : decode cX7_before 58 = .ok (.if_icmp .ge 7, 3) := by decide +kernel
theorem dX7_before_61 : decode cX7_before 61 = .ok (.iconst 1, 1) := by decide +kernel
theorem dX7_before_62 : decode cX7_before 62 = .ok (.goto 4, 3) := by decide +kernel
theorem dX7_before_65 : decode cX7_before 65 = .ok (.iconst 0, 1) := by decide +kernel
theorem dX7_before_66 : decode cX7_before 66 = .ok (.istore 4, 2) := by decide +kernel
theorem dX7_before_68 : decode cX7_before 68 = .ok (.iload_n 2, 1) := by decide +kernel
theorem dX7_before_69 : decode cX7_before 69 = .ok (.aload_n 0, 1) := by decide +kernel
theorem dX7_before_70 : decode cX7_before 70 = .ok (.iload_n 3, 1) := by decide +kernel
theorem dX7_before_71 : decode cX7_before 71 = .ok (.invokevirtual 40, 3) := by decide +kernel
theorem dX7_before_74 : decode cX7_before 74 = .ok (.aload_n 0, 1) := by decide +kernel
theorem dX7_before_75 : decode cX7_before 75 = .ok (.iload_n 1, 1) := by decide +kernel
theorem dX7_before_76 : decode cX7_before 76 = .ok (.invokevirtual 40, 3) := by decide +kernel
theorem dX7_before_79 : decode cX7_before 79 = .ok (.if_icmp .ne 12, 3) := by decide +kernel
theorem dX7_before_82 : decode cX7_before 82 = .ok (.iload 4, 2) := by decide +kernel
theorem dX7_before_84 : decode cX7_before 84 = .ok (.ifCond .eq 7, 3) := by decide +kernel
theorem dX7_before_87 : decode cX7_before 87 = .ok (.iconst 1, 1) := by decide +kernel
theorem dX7_before_88 : decode cX7_before 88 = .ok (.goto 4, 3) := by decide +kernel
theorem dX7_before_91 : decode cX7_before 91 = .ok (.iconst 0, 1) := by decide +kernel
theorem dX7_before_92 : decode cX7_before 92 = .ok (.iadd, 1) := by decide +kernel
theorem dX7_before_93 : decode cX7_before 93 = .ok (.istore_n 2, 1) := by decide +kernel
theorem dX7_before_94 : decode cX7_before 94 = .ok (.iinc 3 1, 3) := by decide +kernel
theorem dX7_before_97 : decode cX7_before 97 = .ok (.goto (-93), 3) := by decide +kernel
theorem dX7_before_100 : decode cX7_before 100 = .ok (.iload_n 2, 1) := by decide +kernel
theorem dX7_before_101 : decode cX7_before 101 = .ok (.ireturn, 1) := by decide +kernel
set_option maxRecDepth 20000 in
theorem ggX7_row_X7_isRun : GoodIn wsX7_row wsX7_isRun := goodIn_r _ [6, 1, 7, 8, 5, 9, 10, 11, 12, 13, 14, 15, 16, 17, 22, 23, 24, 25, 26, 27, 28, 29, 30, 31, 32, 33] (by decide +kernel) (by decide +kernel)
set_option maxRecDepth 20000 in
theorem gX7_row_X7_isRun : GoodIn wsX7_row (wsV RX7 124 RX7 yX7_isRun wsX7_isRun) := goodIn_app (goodIn_of _ (by decide +kernel)) ggX7_row_X7_isRun
set_option maxRecDepth 20000 in
theorem ggX7_row_X7_rowsAt : GoodIn wsX7_row wsX7_rowsAt := goodIn_r _ [13, 1, 14, 15, 16, 5, 17, 22, 23, 24, 25, 26, 27, 28, 29, 30, 31, 32, 33] (by decide +kernel) (by decide +kernel)
set_option maxRecDepth 20000 in
theorem gX7_row_X7_rowsAt : GoodIn wsX7_row (wsV RX7 48 RX7 yX7_rowsAt wsX7_rowsAt) := goodIn_app (goodIn_of _ (by decide +kernel)) ggX7_row_X7_rowsAt
set_option maxRecDepth 20000 in
theorem ggX7_row_X7_in : GoodIn wsX7_row wsX7_in := goodIn_r _ [9] (by decide +kernel) (by decide +kernel)
set_option maxRecDepth 20000 in
theorem gX7_row_X7_in : GoodIn wsX7_row (va_wsS RX7 44 yX7_in wsX7_in) := goodIn_app (goodIn_of _ (by decide +kernel)) ggX7_row_X7_in
set_option maxRecDepth 20000 in
theorem ggX7_row_X7_place : GoodIn wsX7_row wsX7_place := goodIn_r _ [17, 1, 22, 23, 24, 25, 26, 27, 28, 29, 30, 31, 32, 33] (by decide +kernel) (by decide +kernel)
set_option maxRecDepth 20000 in
theorem gX7_row_X7_place : GoodIn wsX7_row (wsV RX7 40 RX7 yX7_place wsX7_place) := goodIn_app (goodIn_of _ (by decide +kernel)) ggX7_row_X7_place
set_option maxRecDepth 20000 in
theorem ggX7_row_X7_before : GoodIn wsX7_row wsX7_before := goodIn_r _ [21, 1, 14, 15, 16, 5, 17, 22, 23, 24, 25, 26, 27, 28, 29, 30, 31, 32, 33] (by decide +kernel) (by decide +kernel)
set_option maxRecDepth 20000 in
theorem gX7_row_X7_before : GoodIn wsX7_row (wsV RX7 127 RX7 yX7_before wsX7_before) := goodIn_app (goodIn_of _ (by decide +kernel)) ggX7_row_X7_before
theorem dX7_row_0 : decode cX7_row 0 = .ok (.aload_n 0, 1) := by decide +kernel
theorem dX7_row_1 : decode cX7_row 1 = .ok (.iload_n 1, 1) := by decide +kernel
theorem dX7_row_2 : decode cX7_row 2 = .ok (.invokevirtual 124, 3) := by decide +kernel
theorem dX7_row_5 : decode cX7_row 5 = .ok (.ifCond .eq 23, 3) := by decide +kernel
theorem dX7_row_8 : decode cX7_row 8 = .ok (.iload_n 2, 1) := by decide +kernel
theorem dX7_row_9 : decode cX7_row 9 = .ok (.iconst 0, 1) := by decide +kernel
theorem dX7_row_10 : decode cX7_row 10 = .ok (.aload_n 0, 1) := by decide +kernel
theorem dX7_row_11 : decode cX7_row 11 = .ok (.bipush 10, 2) := by decide +kernel
theorem dX7_row_13 : decode cX7_row 13 = .ok (.iconst 2, 1) := by decide +kernel
theorem dX7_row_14 : decode cX7_row 14 = .ok (.iload_n 1, 1) := by decide +kernel
theorem dX7_row_15 : decode cX7_row 15 = .ok (.imul, 1) := by decide +kernel
theorem dX7_row_16 : decode cX7_row 16 = .ok (.iadd, 1) := by decide +kernel
theorem dX7_row_17 : decode cX7_row 17 = .ok (.invokevirtual 48, 3) := by decide +kernel
theorem dX7_row_20 : decode cX7_row 20 = .ok (.iconst 1, 1) := by decide +kernel
theorem dX7_row_21 : decode cX7_row 21 = .ok (.isub, 1) := by decide +kernel
theorem dX7_row_22 : decode cX7_row 22 = .ok (.invokestatic 44, 3) := by decide +kernel
theorem dX7_row_25 : decode cX7_row 25 = .ok (.ifCond .ne 5, 3) := by decide +kernel
theorem dX7_row_28 : decode cX7_row 28 = .ok (.iconst (-1), 1) := by decide +kernel
theorem dX7_row_29 : decode cX7_row 29 = .ok (.ireturn, 1) := by decide +kernel
theorem dX7_row_30 : decode cX7_row 30 = .ok (.bipush (-6), 2) := by decide +kernel
theorem dX7_row_32 : decode cX7_row 32 = .ok (.istore 4, 2) := by decide +kernel
theorem dX7_row_34 : decode cX7_row 34 = .ok (.iconst 0, 1) := by decide +kernel
theorem dX7_row_35 : decode cX7_row 35 = .ok (.istore 5, 2) := by decide +kernel
theorem dX7_row_37 : decode cX7_row 37 = .ok (.iload 5, 2) := by decide +kernel
theorem dX7_row_39 : decode cX7_row 39 = .ok (.aload_n 0, 1) := by decide +kernel
theorem dX7_row_40 : decode cX7_row 40 = .ok (.getfield 7, 3) := by decide +kernel
theorem dX7_row_43 : decode cX7_row 43 = .ok (.iconst 3, 1) := by decide +kernel
theorem dX7_row_44 : decode cX7_row 44 = .ok (.iaload, 1) := by decide +kernel
theorem dX7_row_45 : decode cX7_row 45 = .ok (.if_icmp .ge 43, 3) := by decide +kernel
theorem dX7_row_48 : decode cX7_row 48 = .ok (.aload_n 0, 1) := by decide +kernel
theorem dX7_row_49 : decode cX7_row 49 = .ok (.iload 5, 2) := by decide +kernel
theorem dX7_row_51 : decode cX7_row 51 = .ok (.invokevirtual 40, 3) := by decide +kernel
theorem dX7_row_54 : decode cX7_row 54 = .ok (.bipush 10, 2) := by decide +kernel
theorem dX7_row_56 : decode cX7_row 56 = .ok (.iconst 2, 1) := by decide +kernel
theorem dX7_row_57 : decode cX7_row 57 = .ok (.iload_n 1, 1) := by decide +kernel
theorem dX7_row_58 : decode cX7_row 58 = .ok (.imul, 1) := by decide +kernel
theorem dX7_row_59 : decode cX7_row 59 = .ok (.iadd, 1) := by decide +kernel
theorem dX7_row_60 : decode cX7_row 60 = .ok (.if_icmp .ne 18, 3) := by decide +kernel
theorem dX7_row_63 : decode cX7_row 63 = .ok (.aload_n 0, 1) := by decide +kernel
theorem dX7_row_64 : decode cX7_row 64 = .ok (.iload 5, 2) := by decide +kernel
theorem dX7_row_66 : decode cX7_row 66 = .ok (.invokevirtual 127, 3) := by decide +kernel
theorem dX7_row_69 : decode cX7_row 69 = .ok (.iload_n 2, 1) := by decide +kernel
theorem dX7_row_70 : decode cX7_row 70 = .ok (.if_icmp .ne 8, 3) := by decide +kernel
theorem dX7_row_73 : decode cX7_row 73 = .ok (.iload 5, 2) := by decide +kernel
theorem dX7_row_75 : decode cX7_row 75 = .ok (.goto 5, 3) := by decide +kernel
theorem dX7_row_78 : decode cX7_row 78 = .ok (.iload 4, 2) := by decide +kernel
theorem dX7_row_80 : decode cX7_row 80 = .ok (.istore 4, 2) := by decide +kernel
theorem dX7_row_82 : decode cX7_row 82 = .ok (.iinc 5 1, 3) := by decide +kernel
theorem dX7_row_85 : decode cX7_row 85 = .ok (.goto (-48), 3) := by decide +kernel
theorem dX7_row_88 : decode cX7_row 88 = .ok (.iload_n 3, 1) := by decide +kernel
theorem dX7_row_89 : decode cX7_row 89 = .ok (.tableswitch 53 0 2 #[27, 38, 41], 27) := by decide +kernel
theorem dX7_row_116 : decode cX7_row 116 = .ok (.aload_n 0, 1) := by decide +kernel
theorem dX7_row_117 : decode cX7_row 117 = .ok (.getfield 7, 3) := by decide +kernel
theorem dX7_row_120 : decode cX7_row 120 = .ok (.bipush 10, 2) := by decide +kernel
theorem dX7_row_122 : decode cX7_row 122 = .ok (.iload 4, 2) := by decide +kernel
theorem dX7_row_124 : decode cX7_row 124 = .ok (.iadd, 1) := by decide +kernel
theorem dX7_row_125 : decode cX7_row 125 = .ok (.iaload, 1) := by decide +kernel
theorem dX7_row_126 : decode cX7_row 126 = .ok (.ireturn, 1) := by decide +kernel
theorem dX7_row_127 : decode cX7_row 127 = .ok (.iload 4, 2) := by decide +kernel
theorem dX7_row_129 : decode cX7_row 129 = .ok (.ireturn, 1) := by decide +kernel
theorem dX7_row_130 : decode cX7_row 130 = .ok (.aload_n 0, 1) := by decide +kernel
theorem dX7_row_131 : decode cX7_row 131 = .ok (.getfield 7, 3) := by decide +kernel
theorem dX7_row_134 : decode cX7_row 134 = .ok (.sipush 130, 3) := by decide +kernel
theorem dX7_row_137 : decode cX7_row 137 = .ok (.iload 4, 2) := by decide +kernel
theorem dX7_row_139 : decode cX7_row 139 = .ok (.iadd, 1) := by decide +kernel
theorem dX7_row_140 : decode cX7_row 140 = .ok (.iaload, 1) := by decide +kernel
theorem dX7_row_141 : decode cX7_row 141 = .ok (.ireturn, 1) := by decide +kernel
theorem dX7_row_142 : decode cX7_row 142 = .ok (.bipush (-2), 2) := by decide +kernel
theorem dX7_row_144 : decode cX7_row 144 = .ok (.ireturn, 1) := by decide +kernel
set_option maxRecDepth 20000 in
theorem ggX7_rowsThere_X7_place : GoodIn wsX7_rowsThere wsX7_place := goodIn_r _ [6, 1, 7, 8, 9, 10, 11, 12, 13, 14, 15, 16, 17, 18] (by decide +kernel) (by decide +kernel)
set_option maxRecDepth 20000 in
theorem gX7_rowsThere_X7_place : GoodIn wsX7_rowsThere (wsV RX7 40 RX7 yX7_place wsX7_place) := goodIn_app (goodIn_of _ (by decide +kernel)) ggX7_rowsThere_X7_place
theorem dX7_rowsThere_0 : decode cX7_rowsThere 0 = .ok (.iconst 0, 1) := by decide +kernel
theorem dX7_rowsThere_1 : decode cX7_rowsThere 1 = .ok (.istore_n 1, 1) := by decide +kernel
theorem dX7_rowsThere_2 : decode cX7_rowsThere 2 = .ok (.iconst 0, 1) := by decide +kernel
theorem dX7_rowsThere_3 : decode cX7_rowsThere 3 = .ok (.istore_n 2, 1) := by decide +kernel
theorem dX7_rowsThere_4 : decode cX7_rowsThere 4 = .ok (.iload_n 2, 1) := by decide +kernel
theorem dX7_rowsThere_5 : decode cX7_rowsThere 5 = .ok (.aload_n 0, 1) := by decide +kernel
theorem dX7_rowsThere_6 : decode cX7_rowsThere 6 = .ok (.getfield 7, 3) := by decide +kernel
theorem dX7_rowsThere_9 : decode cX7_rowsThere 9 = .ok (.iconst 3, 1) := by decide +kernel
theorem dX7_rowsThere_10 : decode cX7_rowsThere 10 = .ok (.iaload, 1) := by decide +kernel
theorem dX7_rowsThere_11 : decode cX7_rowsThere 11 = .ok (.if_icmp .ge 25, 3) := by decide +kernel
theorem dX7_rowsThere_14 : decode cX7_rowsThere 14 = .ok (.iload_n 1, 1) := by decide +kernel
theorem dX7_rowsThere_15 : decode cX7_rowsThere 15 = .ok (.aload_n 0, 1) := by decide +kernel
theorem dX7_rowsThere_16 : decode cX7_rowsThere 16 = .ok (.iload_n 2, 1) := by decide +kernel
theorem dX7_rowsThere_17 : decode cX7_rowsThere 17 = .ok (.invokevirtual 40, 3) := by decide +kernel
theorem dX7_rowsThere_20 : decode cX7_rowsThere 20 = .ok (.ifCond .le 7, 3) := by decide +kernel
theorem dX7_rowsThere_23 : decode cX7_rowsThere 23 = .ok (.iconst 1, 1) := by decide +kernel
theorem dX7_rowsThere_24 : decode cX7_rowsThere 24 = .ok (.goto 4, 3) := by decide +kernel
theorem dX7_rowsThere_27 : decode cX7_rowsThere 27 = .ok (.iconst 0, 1) := by decide +kernel
theorem dX7_rowsThere_28 : decode cX7_rowsThere 28 = .ok (.iadd, 1) := by decide +kernel
theorem dX7_rowsThere_29 : decode cX7_rowsThere 29 = .ok (.istore_n 1, 1) := by decide +kernel
theorem dX7_rowsThere_30 : decode cX7_rowsThere 30 = .ok (.iinc 2 1, 3) := by decide +kernel
theorem dX7_rowsThere_33 : decode cX7_rowsThere 33 = .ok (.goto (-29), 3) := by decide +kernel
theorem dX7_rowsThere_36 : decode cX7_rowsThere 36 = .ok (.iload_n 1, 1) := by decide +kernel
theorem dX7_rowsThere_37 : decode cX7_rowsThere 37 = .ok (.ireturn, 1) := by decide +kernel
theorem dX7_below_0 : decode cX7_below 0 = .ok (.iconst 0, 1) := by decide +kernel
theorem dX7_below_1 : decode cX7_below 1 = .ok (.istore_n 2, 1) := by decide +kernel
theorem dX7_below_2 : decode cX7_below 2 = .ok (.iconst 0, 1) := by decide +kernel
theorem dX7_below_3 : decode cX7_below 3 = .ok (.istore_n 3, 1) := by decide +kernel
theorem dX7_below_4 : decode cX7_below 4 = .ok (.iload_n 3, 1) := by decide +kernel
theorem dX7_below_5 : decode cX7_below 5 = .ok (.aload_n 0, 1) := by decide +kernel
theorem dX7_below_6 : decode cX7_below 6 = .ok (.getfield 7, 3) := by decide +kernel
theorem dX7_below_9 : decode cX7_below 9 = .ok (.iconst 3, 1) := by decide +kernel
theorem dX7_below_10 : decode cX7_below 10 = .ok (.iaload, 1) := by decide +kernel
theorem dX7_below_11 : decode cX7_below 11 = .ok (.if_icmp .ge 39, 3) := by decide +kernel
theorem dX7_below_14 : decode cX7_below 14 = .ok (.iload_n 2, 1) := by decide +kernel
theorem dX7_below_15 : decode cX7_below 15 = .ok (.aload_n 0, 1) := by decide +kernel
theorem dX7_below_16 : decode cX7_below 16 = .ok (.getfield 7, 3) := by decide +kernel
theorem dX7_below_19 : decode cX7_below 19 = .ok (.bipush 10, 2) := by decide +kernel
theorem dX7_below_21 : decode cX7_below 21 = .ok (.iload_n 3, 1) := by decide +kernel
theorem dX7_below_22 : decode cX7_below 22 = .ok (.iadd, 1) := by decide +kernel
theorem dX7_below_23 : decode cX7_below 23 = .ok (.iaload, 1) := by decide +kernel
theorem dX7_below_24 : decode cX7_below 24 = .ok (.iload_n 1, 1) := by decide +kernel
theorem dX7_below_25 : decode cX7_below 25 = .ok (.if_icmp .ge 16, 3) := by decide +kernel
theorem dX7_below_28 : decode cX7_below 28 = .ok (.aload_n 0, 1) := by decide +kernel
theorem dX7_below_29 : decode cX7_below 29 = .ok (.getfield 7, 3) := by decide +kernel
theorem dX7_below_32 : decode cX7_below 32 = .ok (.sipush 130, 3) := by decide +kernel
theorem dX7_below_35 : decode cX7_below 35 = .ok (.iload_n 3, 1) := by decide +kernel
theorem dX7_below_36 : decode cX7_below 36 = .ok (.iadd, 1) := by decide +kernel
theorem dX7_below_37 : decode cX7_below 37 = .ok (.iaload, 1) := by decide +kernel
theorem dX7_below_38 : decode cX7_below 38 = .ok (.goto 4, 3) := by decide +kernel
theorem dX7_below_41 : decode cX7_below 41 = .ok (.iconst 0, 1) := by decide +kernel
theorem dX7_below_42 : decode cX7_below 42 = .ok (.iadd, 1) := by decide +kernel
theorem dX7_below_43 : decode cX7_below 43 = .ok (.istore_n 2, 1) := by decide +kernel
theorem dX7_below_44 : decode cX7_below 44 = .ok (.iinc 3 1, 3) := by decide +kernel
theorem dX7_below_47 : decode cX7_below 47 = .ok (.goto (-43), 3) := by decide +kernel
theorem dX7_below_50 : decode cX7_below 50 = .ok (.iload_n 2, 1) := by decide +kernel
theorem dX7_below_51 : decode cX7_below 51 = .ok (.ireturn, 1) := by decide +kernel
set_option maxRecDepth 20000 in
theorem ggX7_count_X7_rowsThere : GoodIn wsX7_count wsX7_rowsThere := goodIn_r _ [6, 1, 7, 8, 9, 5, 10, 15, 16, 17, 18, 19, 20, 21, 22, 23, 24, 25, 26] (by decide +kernel) (by decide +kernel)
set_option maxRecDepth 20000 in
theorem gX7_count_X7_rowsThere : GoodIn wsX7_count (wsV RX7 130 RX7 yX7_rowsThere wsX7_rowsThere) := goodIn_app (goodIn_of _ (by decide +kernel)) ggX7_count_X7_rowsThere
set_option maxRecDepth 20000 in
theorem ggX7_count_X7_below : GoodIn wsX7_count wsX7_below := goodIn_r _ [14, 1, 15, 16, 17, 18, 19, 20, 21, 22, 23, 24, 25, 26] (by decide +kernel) (by decide +kernel)
set_option maxRecDepth 20000 in
theorem gX7_count_X7_below : GoodIn wsX7_count (wsV RX7 133 RX7 yX7_below wsX7_below) := goodIn_app (goodIn_of _ (by decide +kernel)) ggX7_count_X7_below
theorem dX7_count_0 : decode cX7_count 0 = .ok (.iload_n 1, 1) := by decide +kernel
theorem dX7_count_1 : decode cX7_count 1 = .ok (.tableswitch 94 0 6 #[43, 50, 55, 63, 71, 79, 87], 43) := by decide +kernel
theorem dX7_count_44 : decode cX7_count 44 = .ok (.aload_n 0, 1) := by decide +kernel
theorem dX7_count_45 : decode cX7_count 45 = .ok (.getfield 7, 3) := by decide +kernel
theorem dX7_count_48 : decode cX7_count 48 = .ok (.iconst 3, 1) := by decide +kernel
theorem dX7_count_49 : decode cX7_count 49 = .ok (.iaload, 1) := by decide +kernel
theorem dX7_count_50 : decode cX7_count 50 = .ok (.ireturn, 1) := by decide +kernel
theorem dX7_count_51 : decode cX7_count 51 = .ok (.aload_n 0, 1) := by decide +kernel
theorem dX7_count_52 : decode cX7_count 52 = .ok (.invokevirtual 130, 3) := by decide +kernel
theorem dX7_count_55 : decode cX7_count 55 = .ok (.ireturn, 1) := by decide +kernel
theorem dX7_count_56 : decode cX7_count 56 = .ok (.aload_n 0, 1) := by decide +kernel
theorem dX7_count_57 : decode cX7_count 57 = .ok (.sipush 1000, 3) := by decide +kernel
theorem dX7_count_60 : decode cX7_count 60 = .ok (.invokevirtual 133, 3) := by decide +kernel
theorem dX7_count_63 : decode cX7_count 63 = .ok (.ireturn, 1) := by decide +kernel
theorem dX7_count_64 : decode cX7_count 64 = .ok (.aload_n 0, 1) := by decide +kernel
theorem dX7_count_65 : decode cX7_count 65 = .ok (.getfield 7, 3) := by decide +kernel
theorem dX7_count_68 : decode cX7_count 68 = .ok (.bipush 7, 2) := by decide +kernel
theorem dX7_count_70 : decode cX7_count 70 = .ok (.iaload, 1) := by decide +kernel
theorem dX7_count_71 : decode cX7_count 71 = .ok (.ireturn, 1) := by decide +kernel
theorem dX7_count_72 : decode cX7_count 72 = .ok (.aload_n 0, 1) := by decide +kernel
theorem dX7_count_73 : decode cX7_count 73 = .ok (.getfield 7, 3) := by decide +kernel
theorem dX7_count_76 : decode cX7_count 76 = .ok (.bipush 8, 2) := by decide +kernel
theorem dX7_count_78 : decode cX7_count 78 = .ok (.iaload, 1) := by decide +kernel
theorem dX7_count_79 : decode cX7_count 79 = .ok (.ireturn, 1) := by decide +kernel
theorem dX7_count_80 : decode cX7_count 80 = .ok (.aload_n 0, 1) := by decide +kernel
theorem dX7_count_81 : decode cX7_count 81 = .ok (.getfield 7, 3) := by decide +kernel
theorem dX7_count_84 : decode cX7_count 84 = .ok (.bipush 9, 2) := by decide +kernel
theorem dX7_count_86 : decode cX7_count 86 = .ok (.iaload, 1) := by decide +kernel
theorem dX7_count_87 : decode cX7_count 87 = .ok (.ireturn, 1) := by decide +kernel
theorem dX7_count_88 : decode cX7_count 88 = .ok (.aload_n 0, 1) := by decide +kernel
theorem dX7_count_89 : decode cX7_count 89 = .ok (.getfield 7, 3) := by decide +kernel
theorem dX7_count_92 : decode cX7_count 92 = .ok (.iconst 4, 1) := by decide +kernel
theorem dX7_count_93 : decode cX7_count 93 = .ok (.iaload, 1) := by decide +kernel
theorem dX7_count_94 : decode cX7_count 94 = .ok (.ireturn, 1) := by decide +kernel
theorem dX7_count_95 : decode cX7_count 95 = .ok (.bipush (-2), 2) := by decide +kernel
theorem dX7_count_97 : decode cX7_count 97 = .ok (.ireturn, 1) := by decide +kernel
set_option maxRecDepth 20000 in
theorem ggX7_rank_X7_in : GoodIn wsX7_rank wsX7_in := goodIn_r _ [4] (by decide +kernel) (by decide +kernel)
set_option maxRecDepth 20000 in
theorem gX7_rank_X7_in : GoodIn wsX7_rank (va_wsS RX7 44 yX7_in wsX7_in) := goodIn_app (goodIn_of _ (by decide +kernel)) ggX7_rank_X7_in
set_option maxRecDepth 20000 in
theorem ggX7_rank_X7_below : GoodIn wsX7_rank wsX7_below := goodIn_r _ [8, 9, 10, 11, 12, 13, 14, 15, 16, 17, 18, 19, 20, 21] (by decide +kernel) (by decide +kernel)
set_option maxRecDepth 20000 in
theorem gX7_rank_X7_below : GoodIn wsX7_rank (wsV RX7 133 RX7 yX7_below wsX7_below) := goodIn_app (goodIn_of _ (by decide +kernel)) ggX7_rank_X7_below
theorem dX7_rank_0 : decode cX7_rank 0 = .ok (.iload_n 1, 1) := by decide +kernel
theorem dX7_rank_1 : decode cX7_rank 1 = .ok (.iconst 0, 1) := by decide +kernel
theorem dX7_rank_2 : decode cX7_rank 2 = .ok (.sipush 999, 3) := by decide +kernel
theorem dX7_rank_5 : decode cX7_rank 5 = .ok (.invokestatic 44, 3) := by decide +kernel
theorem dX7_rank_8 : decode cX7_rank 8 = .ok (.ifCond .eq 11, 3) := by decide +kernel
theorem dX7_rank_11 : decode cX7_rank 11 = .ok (.aload_n 0, 1) := by decide +kernel
theorem dX7_rank_12 : decode cX7_rank 12 = .ok (.iload_n 1, 1) := by decide +kernel
theorem dX7_rank_13 : decode cX7_rank 13 = .ok (.invokevirtual 133, 3) := by decide +kernel
theorem dX7_rank_16 : decode cX7_rank 16 = .ok (.goto 5, 3) := by decide +kernel
theorem dX7_rank_19 : decode cX7_rank 19 = .ok (.bipush (-2), 2) := by decide +kernel
theorem dX7_rank_21 : decode cX7_rank 21 = .ok (.ireturn, 1) := by decide +kernel
def ck_wsX7_grown : List (List Cond) := [[.code yX7_grown cX7_grown 5 (some .int)], wsX7_grown_r1, wsX7_grown_r2, wsX7_grown_r3, wsX7_grown_r4]
theorem ck_wsX7_grown_m : ∀ c ∈ ck_wsX7_grown, ∀ w ∈ c, w ∈ wsX7_grown := List.forall_mem_cons.mpr ⟨fun w h => List.mem_cons.mpr (Or.inl (List.mem_singleton.mp h)), List.forall_mem_cons.mpr ⟨fun _ h => (List.mem_cons_of_mem _ (List.mem_append_left _ (List.mem_append_left _ h))), List.forall_mem_cons.mpr ⟨fun _ h => (List.mem_cons_of_mem _ (List.mem_append_left _ (List.mem_append_right _ (List.mem_append_left _ h)))), List.forall_mem_cons.mpr ⟨fun _ h => (List.mem_cons_of_mem _ (List.mem_append_left _ (List.mem_append_right _ (List.mem_append_right _ (List.mem_append_left _ h))))), List.forall_mem_cons.mpr ⟨fun _ h => (List.mem_cons_of_mem _ (List.mem_append_left _ (List.mem_append_right _ (List.mem_append_right _ (List.mem_append_right _ h))))), fun _ h => absurd h List.not_mem_nil⟩⟩⟩⟩⟩
set_option maxRecDepth 100000 in
theorem ck_wsX7_grown_g : ∀ w ∈ wsX7_grown, goodWord w = true := List.all_eq_true.mp (by decide +kernel)
set_option maxRecDepth 100000 in
theorem ggX7_grown_X7_grants : GoodIn wsX7_grown wsX7_grants := goodIn_ca (goodIn_2 ck_wsX7_grown [(1, 6), (1, 1), (1, 7), (1, 8), (1, 9), (1, 5), (1, 10), (1, 11), (1, 12), (1, 13), (1, 14), (1, 15), (1, 16), (1, 17), (1, 18), (1, 19), (1, 20), (1, 21), (1, 22), (1, 23), (2, 0), (2, 1), (2, 2), (2, 3), (2, 4), (2, 5), (2, 6), (2, 7), (2, 8), (2, 9), (2, 10), (2, 11), (2, 12), (2, 13), (2, 14), (2, 15), (2, 16), (2, 17)] ck_wsX7_grown_m ck_wsX7_grown_g rfl) (goodIn_b (fun _ h => (List.mem_cons_of_mem _ (List.mem_append_right _ h))) ck_wsX7_grown_g)
set_option maxRecDepth 20000 in
theorem gX7_grown_X7_grants : GoodIn wsX7_grown (wsV RX7 90 RX7 yX7_grants wsX7_grants) := goodIn_app (goodIn_of _ (by decide +kernel)) ggX7_grown_X7_grants
set_option maxRecDepth 100000 in
theorem ggX7_grown_X7_canRun : GoodIn wsX7_grown wsX7_canRun := goodIn_ca (goodIn_2 ck_wsX7_grown [(2, 21), (1, 1), (2, 22), (2, 23), (3, 0), (1, 5), (3, 1), (3, 2), (3, 3), (3, 4), (3, 5), (2, 3), (2, 4), (2, 5), (2, 6), (2, 7), (2, 8), (2, 9), (2, 10), (1, 11), (1, 12), (1, 13), (1, 14), (1, 7), (1, 8), (1, 9), (1, 10), (2, 11), (2, 12), (2, 13)] ck_wsX7_grown_m ck_wsX7_grown_g rfl) (goodIn_b (fun _ h => (List.mem_cons_of_mem _ (List.mem_append_right _ h))) ck_wsX7_grown_g)
set_option maxRecDepth 20000 in
theorem gX7_grown_X7_canRun : GoodIn wsX7_grown (wsV RX7 117 RX7 yX7_canRun wsX7_canRun) := goodIn_app (goodIn_of _ (by decide +kernel)) ggX7_grown_X7_canRun
set_option maxRecDepth 100000 in
theorem ggX7_grown_X7_allSteps : GoodIn wsX7_grown wsX7_allSteps := goodIn_ca (goodIn_2 ck_wsX7_grown [(3, 9), (1, 1), (3, 10), (3, 11), (3, 12), (1, 5), (3, 13), (1, 15), (1, 16), (1, 17), (1, 18), (1, 7), (1, 8), (1, 9), (1, 10), (1, 11), (1, 12), (1, 13), (1, 14), (1, 19), (1, 20), (1, 21), (1, 22), (3, 2), (3, 3), (3, 4), (3, 5), (2, 3), (2, 4), (2, 5), (2, 6), (2, 7), (2, 8), (2, 9), (2, 10), (3, 14), (3, 15), (3, 16), (3, 17), (2, 11), (2, 12), (2, 13), (3, 18), (3, 19), (3, 20), (3, 21), (3, 22), (3, 23), (4, 0), (4, 1), (4, 2), (4, 3), (4, 4), (4, 5), (4, 6), (4, 7), (4, 8), (4, 9), (4, 10), (4, 11), (4, 12), (4, 13), (4, 14), (4, 15), (4, 16), (4, 17)] ck_wsX7_grown_m ck_wsX7_grown_g rfl) (goodIn_b (fun _ h => (List.mem_cons_of_mem _ (List.mem_append_right _ h))) ck_wsX7_grown_g)
set_option maxRecDepth 20000 in
theorem gX7_grown_X7_allSteps : GoodIn wsX7_grown (wsV RX7 121 RX7 yX7_allSteps wsX7_allSteps) := goodIn_app (goodIn_of _ (by decide +kernel)) ggX7_grown_X7_allSteps
theorem dX7_grown_0 : decode cX7_grown 0 = .ok (.iconst 0, 1) := by decide +kernel
theorem dX7_grown_1 : decode cX7_grown 1 = .ok (.istore_n 3, 1) := by decide +kernel
theorem dX7_grown_2 : decode cX7_grown 2 = .ok (.iload_n 3, 1) := by decide +kernel
theorem dX7_grown_3 : decode cX7_grown 3 = .ok (.sipush 370, 3) := by decide +kernel
theorem dX7_grown_6 : decode cX7_grown 6 = .ok (.if_icmp .ge 21, 3) := by decide +kernel
theorem dX7_grown_9 : decode cX7_grown 9 = .ok (.aload_n 0, 1) := by decide +kernel
theorem dX7_grown_10 : decode cX7_grown 10 = .ok (.getfield 19, 3) := by decide +kernel
theorem dX7_grown_13 : decode cX7_grown 13 = .ok (.iload_n 3, 1) := by decide +kernel
theorem dX7_grown_14 : decode cX7_grown 14 = .ok (.aload_n 0, 1) := by decide +kernel
theorem dX7_grown_15 : decode cX7_grown 15 = .ok (.getfield 7, 3) := by decide +kernel
theorem dX7_grown_18 : decode cX7_grown 18 = .ok (.iload_n 3, 1) := by decide +kernel
theorem dX7_grown_19 : decode cX7_grown 19 = .ok (.iaload, 1) := by decide +kernel
theorem dX7_grown_20 : decode cX7_grown 20 = .ok (.iastore, 1) := by decide +kernel
theorem dX7_grown_21 : decode cX7_grown 21 = .ok (.iinc 3 1, 3) := by decide +kernel
theorem dX7_grown_24 : decode cX7_grown 24 = .ok (.goto (-22), 3) := by decide +kernel
theorem dX7_grown_27 : decode cX7_grown 27 = .ok (.aload_n 0, 1) := by decide +kernel
theorem dX7_grown_28 : decode cX7_grown 28 = .ok (.iload_n 1, 1) := by decide +kernel
theorem dX7_grown_29 : decode cX7_grown 29 = .ok (.invokevirtual 90, 3) := by decide +kernel
theorem dX7_grown_32 : decode cX7_grown 32 = .ok (.pop, 1) := by decide +kernel
theorem dX7_grown_33 : decode cX7_grown 33 = .ok (.bipush (-3), 2) := by decide +kernel
theorem dX7_grown_35 : decode cX7_grown 35 = .ok (.istore_n 3, 1) := by decide +kernel
theorem dX7_grown_36 : decode cX7_grown 36 = .ok (.aload_n 0, 1) := by decide +kernel
theorem dX7_grown_37 : decode cX7_grown 37 = .ok (.invokevirtual 117, 3) := by decide +kernel
theorem dX7_grown_40 : decode cX7_grown 40 = .ok (.ifCond .eq 22, 3) := by decide +kernel
theorem dX7_grown_43 : decode cX7_grown 43 = .ok (.aload_n 0, 1) := by decide +kernel
theorem dX7_grown_44 : decode cX7_grown 44 = .ok (.invokevirtual 121, 3) := by decide +kernel
theorem dX7_grown_47 : decode cX7_grown 47 = .ok (.pop, 1) := by decide +kernel
theorem dX7_grown_48 : decode cX7_grown 48 = .ok (.aload_n 0, 1) := by decide +kernel
theorem dX7_grown_49 : decode cX7_grown 49 = .ok (.getfield 7, 3) := by decide +kernel
theorem dX7_grown_52 : decode cX7_grown 52 = .ok (.iload_n 2, 1) := by decide +kernel
theorem dX7_grown_53 : decode cX7_grown 53 = .ok (.iaload, 1) := by decide +kernel
theorem dX7_grown_54 : decode cX7_grown 54 = .ok (.aload_n 0, 1) := by decide +kernel
theorem dX7_grown_55 : decode cX7_grown 55 = .ok (.getfield 19, 3) := by decide +kernel
theorem dX7_grown_58 : decode cX7_grown 58 = .ok (.iload_n 2, 1) := by decide +kernel
theorem dX7_grown_59 : decode cX7_grown 59 = .ok (.iaload, 1) := by decide +kernel
theorem dX7_grown_60 : decode cX7_grown 60 = .ok (.isub, 1) := by decide +kernel
theorem dX7_grown_61 : decode cX7_grown 61 = .ok (.istore_n 3, 1) := by decide +kernel
theorem dX7_grown_62 : decode cX7_grown 62 = .ok (.iconst 0, 1) := by decide +kernel
theorem dX7_grown_63 : decode cX7_grown 63 = .ok (.istore 4, 2) := by decide +kernel
theorem dX7_grown_65 : decode cX7_grown 65 = .ok (.iload 4, 2) := by decide +kernel
theorem dX7_grown_67 : decode cX7_grown 67 = .ok (.sipush 370, 3) := by decide +kernel
theorem dX7_grown_70 : decode cX7_grown 70 = .ok (.if_icmp .ge 23, 3) := by decide +kernel
theorem dX7_grown_73 : decode cX7_grown 73 = .ok (.aload_n 0, 1) := by decide +kernel
theorem dX7_grown_74 : decode cX7_grown 74 = .ok (.getfield 7, 3) := by decide +kernel
theorem dX7_grown_77 : decode cX7_grown 77 = .ok (.iload 4, 2) := by decide +kernel
theorem dX7_grown_79 : decode cX7_grown 79 = .ok (.aload_n 0, 1) := by decide +kernel
theorem dX7_grown_80 : decode cX7_grown 80 = .ok (.getfield 19, 3) := by decide +kernel
theorem dX7_grown_83 : decode cX7_grown 83 = .ok (.iload 4, 2) := by decide +kernel
theorem dX7_grown_85 : decode cX7_grown 85 = .ok (.iaload, 1) := by decide +kernel
theorem dX7_grown_86 : decode cX7_grown 86 = .ok (.iastore, 1) := by decide +kernel
theorem dX7_grown_87 : decode cX7_grown 87 = .ok (.iinc 4 1, 3) := by decide +kernel
theorem dX7_grown_90 : decode cX7_grown 90 = .ok (.goto (-25), 3) := by decide +kernel
theorem dX7_grown_93 : decode cX7_grown 93 = .ok (.iload_n 3, 1) := by decide +kernel
theorem dX7_grown_94 : decode cX7_grown 94 = .ok (.ireturn, 1) := by decide +kernel
def ck_wsX7_costsWith : List (List Cond) := [[.code yX7_costsWith cX7_costsWith 2 (some .int)], wsX7_costsWith_r1, wsX7_costsWith_r2, wsX7_costsWith_r3, wsX7_costsWith_r4, wsX7_costsWith_r5]
theorem ck_wsX7_costsWith_m : ∀ c ∈ ck_wsX7_costsWith, ∀ w ∈ c, w ∈ wsX7_costsWith := List.forall_mem_cons.mpr ⟨fun w h => List.mem_cons.mpr (Or.inl (List.mem_singleton.mp h)), List.forall_mem_cons.mpr ⟨fun _ h => (List.mem_cons_of_mem _ (List.mem_append_left _ (List.mem_append_left _ h))), List.forall_mem_cons.mpr ⟨fun _ h => (List.mem_cons_of_mem _ (List.mem_append_left _ (List.mem_append_right _ (List.mem_append_left _ h)))), List.forall_mem_cons.mpr ⟨fun _ h => (List.mem_cons_of_mem _ (List.mem_append_left _ (List.mem_append_right _ (List.mem_append_right _ (List.mem_append_left _ h))))), List.forall_mem_cons.mpr ⟨fun _ h => (List.mem_cons_of_mem _ (List.mem_append_left _ (List.mem_append_right _ (List.mem_append_right _ (List.mem_append_right _ (List.mem_append_left _ h)))))), List.forall_mem_cons.mpr ⟨fun _ h => (List.mem_cons_of_mem _ (List.mem_append_left _ (List.mem_append_right _ (List.mem_append_right _ (List.mem_append_right _ (List.mem_append_right _ h)))))), fun _ h => absurd h List.not_mem_nil⟩⟩⟩⟩⟩⟩
set_option maxRecDepth 100000 in
theorem ck_wsX7_costsWith_g : ∀ w ∈ wsX7_costsWith, goodWord w = true := List.all_eq_true.mp (by decide +kernel)
set_option maxRecDepth 100000 in
theorem ggX7_costsWith_X7_isSize : GoodIn wsX7_costsWith wsX7_isSize := goodIn_2 ck_wsX7_costsWith [(1, 3), (1, 4), (1, 5), (1, 2), (1, 6)] ck_wsX7_costsWith_m ck_wsX7_costsWith_g rfl
set_option maxRecDepth 20000 in
theorem gX7_costsWith_X7_isSize : GoodIn wsX7_costsWith (va_wsS RX7 86 yX7_isSize wsX7_isSize) := goodIn_app (goodIn_of _ (by decide +kernel)) ggX7_costsWith_X7_isSize
set_option maxRecDepth 100000 in
theorem ggX7_costsWith_X7_grown : GoodIn wsX7_costsWith wsX7_grown := goodIn_ca (goodIn_2 ck_wsX7_costsWith [(1, 10), (1, 11), (1, 12), (1, 13), (1, 14), (1, 15), (1, 2), (1, 16), (1, 17), (1, 18), (1, 19), (1, 20), (1, 21), (1, 22), (1, 23), (2, 0), (2, 1), (2, 2), (2, 3), (2, 4), (2, 5), (2, 6), (2, 7), (2, 8), (2, 9), (2, 10), (2, 11), (2, 12), (2, 13), (2, 14), (2, 15), (2, 16), (2, 17), (2, 18), (2, 19), (2, 20), (2, 21), (2, 22), (2, 23), (3, 0), (3, 1), (3, 2), (3, 3), (3, 4), (3, 5), (3, 6), (3, 7), (3, 8), (3, 9), (3, 10), (3, 11), (3, 12), (3, 13), (3, 14), (3, 15), (3, 16), (3, 17), (3, 18), (3, 19), (3, 20), (3, 21), (3, 22), (3, 23), (4, 0), (4, 1), (4, 2), (4, 3), (4, 4), (4, 5), (4, 6), (4, 7), (4, 8), (4, 9), (4, 10), (4, 11), (4, 12), (4, 13), (4, 14), (4, 15), (4, 16), (4, 17), (4, 18), (4, 19), (4, 20), (4, 21), (4, 22), (4, 23), (5, 0), (5, 1), (5, 2), (5, 3)] ck_wsX7_costsWith_m ck_wsX7_costsWith_g rfl) (goodIn_b (fun _ h => (List.mem_cons_of_mem _ (List.mem_append_right _ h))) ck_wsX7_costsWith_g)
set_option maxRecDepth 20000 in
theorem gX7_costsWith_X7_grown : GoodIn wsX7_costsWith (wsV RX7 136 RX7 yX7_grown wsX7_grown) := goodIn_app (goodIn_of _ (by decide +kernel)) ggX7_costsWith_X7_grown
theorem dX7_costsWith_0 : decode cX7_costsWith 0 = .ok (.iload_n 1, 1) := by decide +kernel
theorem dX7_costsWith_1 : decode cX7_costsWith 1 = .ok (.invokestatic 86, 3) := by decide +kernel
theorem dX7_costsWith_4 : decode cX7_costsWith 4 = .ok (.ifCond .eq 13, 3) := by decide +kernel
theorem dX7_costsWith_7 : decode cX7_costsWith 7 = .ok (.aload_n 0, 1) := by decide +kernel
theorem dX7_costsWith_8 : decode cX7_costsWith 8 = .ok (.iload_n 1, 1) := by decide +kernel
theorem dX7_costsWith_9 : decode cX7_costsWith 9 = .ok (.bipush 7, 2) := by decide +kernel
theorem dX7_costsWith_11 : decode cX7_costsWith 11 = .ok (.invokevirtual 136, 3) := by decide +kernel
theorem dX7_costsWith_14 : decode cX7_costsWith 14 = .ok (.goto 5, 3) := by decide +kernel
theorem dX7_costsWith_17 : decode cX7_costsWith 17 = .ok (.bipush (-2), 2) := by decide +kernel
theorem dX7_costsWith_19 : decode cX7_costsWith 19 = .ok (.ireturn, 1) := by decide +kernel
def ck_wsX7_mergesWith : List (List Cond) := [[.code yX7_mergesWith cX7_mergesWith 2 (some .int)], wsX7_mergesWith_r1, wsX7_mergesWith_r2, wsX7_mergesWith_r3, wsX7_mergesWith_r4, wsX7_mergesWith_r5]
theorem ck_wsX7_mergesWith_m : ∀ c ∈ ck_wsX7_mergesWith, ∀ w ∈ c, w ∈ wsX7_mergesWith := List.forall_mem_cons.mpr ⟨fun w h => List.mem_cons.mpr (Or.inl (List.mem_singleton.mp h)), List.forall_mem_cons.mpr ⟨fun _ h => (List.mem_cons_of_mem _ (List.mem_append_left _ (List.mem_append_left _ h))), List.forall_mem_cons.mpr ⟨fun _ h => (List.mem_cons_of_mem _ (List.mem_append_left _ (List.mem_append_right _ (List.mem_append_left _ h)))), List.forall_mem_cons.mpr ⟨fun _ h => (List.mem_cons_of_mem _ (List.mem_append_left _ (List.mem_append_right _ (List.mem_append_right _ (List.mem_append_left _ h))))), List.forall_mem_cons.mpr ⟨fun _ h => (List.mem_cons_of_mem _ (List.mem_append_left _ (List.mem_append_right _ (List.mem_append_right _ (List.mem_append_right _ (List.mem_append_left _ h)))))), List.forall_mem_cons.mpr ⟨fun _ h => (List.mem_cons_of_mem _ (List.mem_append_left _ (List.mem_append_right _ (List.mem_append_right _ (List.mem_append_right _ (List.mem_append_right _ h)))))), fun _ h => absurd h List.not_mem_nil⟩⟩⟩⟩⟩⟩
set_option maxRecDepth 100000 in
theorem ck_wsX7_mergesWith_g : ∀ w ∈ wsX7_mergesWith, goodWord w = true := List.all_eq_true.mp (by decide +kernel)
set_option maxRecDepth 100000 in
theorem ggX7_mergesWith_X7_isSize : GoodIn wsX7_mergesWith wsX7_isSize := goodIn_2 ck_wsX7_mergesWith [(1, 3), (1, 4), (1, 5), (1, 2), (1, 6)] ck_wsX7_mergesWith_m ck_wsX7_mergesWith_g rfl
set_option maxRecDepth 20000 in
theorem gX7_mergesWith_X7_isSize : GoodIn wsX7_mergesWith (va_wsS RX7 86 yX7_isSize wsX7_isSize) := goodIn_app (goodIn_of _ (by decide +kernel)) ggX7_mergesWith_X7_isSize
set_option maxRecDepth 100000 in
theorem ggX7_mergesWith_X7_grown : GoodIn wsX7_mergesWith wsX7_grown := goodIn_ca (goodIn_2 ck_wsX7_mergesWith [(1, 10), (1, 11), (1, 12), (1, 13), (1, 14), (1, 15), (1, 2), (1, 16), (1, 17), (1, 18), (1, 19), (1, 20), (1, 21), (1, 22), (1, 23), (2, 0), (2, 1), (2, 2), (2, 3), (2, 4), (2, 5), (2, 6), (2, 7), (2, 8), (2, 9), (2, 10), (2, 11), (2, 12), (2, 13), (2, 14), (2, 15), (2, 16), (2, 17), (2, 18), (2, 19), (2, 20), (2, 21), (2, 22), (2, 23), (3, 0), (3, 1), (3, 2), (3, 3), (3, 4), (3, 5), (3, 6), (3, 7), (3, 8), (3, 9), (3, 10), (3, 11), (3, 12), (3, 13), (3, 14), (3, 15), (3, 16), (3, 17), (3, 18), (3, 19), (3, 20), (3, 21), (3, 22), (3, 23), (4, 0), (4, 1), (4, 2), (4, 3), (4, 4), (4, 5), (4, 6), (4, 7), (4, 8), (4, 9), (4, 10), (4, 11), (4, 12), (4, 13), (4, 14), (4, 15), (4, 16), (4, 17), (4, 18), (4, 19), (4, 20), (4, 21), (4, 22), (4, 23), (5, 0), (5, 1), (5, 2), (5, 3)] ck_wsX7_mergesWith_m ck_wsX7_mergesWith_g rfl) (goodIn_b (fun _ h => (List.mem_cons_of_mem _ (List.mem_append_right _ h))) ck_wsX7_mergesWith_g)
set_option maxRecDepth 20000 in
theorem gX7_mergesWith_X7_grown : GoodIn wsX7_mergesWith (wsV RX7 136 RX7 yX7_grown wsX7_grown) := goodIn_app (goodIn_of _ (by decide +kernel)) ggX7_mergesWith_X7_grown
theorem dX7_mergesWith_0 : decode cX7_mergesWith 0 = .ok (.iload_n 1, 1) := by decide +kernel
theorem dX7_mergesWith_1 : decode cX7_mergesWith 1 = .ok (.invokestatic 86, 3) := by decide +kernel
theorem dX7_mergesWith_4 : decode cX7_mergesWith 4 = .ok (.ifCond .eq 13, 3) := by decide +kernel
theorem dX7_mergesWith_7 : decode cX7_mergesWith 7 = .ok (.aload_n 0, 1) := by decide +kernel
theorem dX7_mergesWith_8 : decode cX7_mergesWith 8 = .ok (.iload_n 1, 1) := by decide +kernel
theorem dX7_mergesWith_9 : decode cX7_mergesWith 9 = .ok (.bipush 8, 2) := by decide +kernel
theorem dX7_mergesWith_11 : decode cX7_mergesWith 11 = .ok (.invokevirtual 136, 3) := by decide +kernel
theorem dX7_mergesWith_14 : decode cX7_mergesWith 14 = .ok (.goto 5, 3) := by decide +kernel
theorem dX7_mergesWith_17 : decode cX7_mergesWith 17 = .ok (.bipush (-2), 2) := by decide +kernel
theorem dX7_mergesWith_19 : decode cX7_mergesWith 19 = .ok (.ireturn, 1) := by decide +kernel
def ck_wsX7_bestSize : List (List Cond) := [[.code yX7_bestSize cX7_bestSize 6 (some .int)], wsX7_bestSize_r1, wsX7_bestSize_r2, wsX7_bestSize_r3, wsX7_bestSize_r4]
theorem ck_wsX7_bestSize_m : ∀ c ∈ ck_wsX7_bestSize, ∀ w ∈ c, w ∈ wsX7_bestSize := List.forall_mem_cons.mpr ⟨fun w h => List.mem_cons.mpr (Or.inl (List.mem_singleton.mp h)), List.forall_mem_cons.mpr ⟨fun _ h => (List.mem_cons_of_mem _ (List.mem_append_left _ (List.mem_append_left _ h))), List.forall_mem_cons.mpr ⟨fun _ h => (List.mem_cons_of_mem _ (List.mem_append_left _ (List.mem_append_right _ (List.mem_append_left _ h)))), List.forall_mem_cons.mpr ⟨fun _ h => (List.mem_cons_of_mem _ (List.mem_append_left _ (List.mem_append_right _ (List.mem_append_right _ (List.mem_append_left _ h))))), List.forall_mem_cons.mpr ⟨fun _ h => (List.mem_cons_of_mem _ (List.mem_append_left _ (List.mem_append_right _ (List.mem_append_right _ (List.mem_append_right _ h))))), fun _ h => absurd h List.not_mem_nil⟩⟩⟩⟩⟩
set_option maxRecDepth 100000 in
theorem ck_wsX7_bestSize_g : ∀ w ∈ wsX7_bestSize, goodWord w = true := List.all_eq_true.mp (by decide +kernel)
set_option maxRecDepth 100000 in
theorem ggX7_bestSize_X7_grown : GoodIn wsX7_bestSize wsX7_grown := goodIn_ca (goodIn_2 ck_wsX7_bestSize [(1, 4), (1, 5), (1, 6), (1, 7), (1, 8), (1, 9), (1, 3), (1, 10), (1, 11), (1, 12), (1, 13), (1, 14), (1, 15), (1, 16), (1, 17), (1, 18), (1, 19), (1, 20), (1, 21), (1, 22), (1, 23), (2, 0), (2, 1), (2, 2), (2, 3), (2, 4), (2, 5), (2, 6), (2, 7), (2, 8), (2, 9), (2, 10), (2, 11), (2, 12), (2, 13), (2, 14), (2, 15), (2, 16), (2, 17), (2, 18), (2, 19), (2, 20), (2, 21), (2, 22), (2, 23), (3, 0), (3, 1), (3, 2), (3, 3), (3, 4), (3, 5), (3, 6), (3, 7), (3, 8), (3, 9), (3, 10), (3, 11), (3, 12), (3, 13), (3, 14), (3, 15), (3, 16), (3, 17), (3, 18), (3, 19), (3, 20), (3, 21), (3, 22), (3, 23), (4, 0), (4, 1), (4, 2), (4, 3), (4, 4), (4, 5), (4, 6), (4, 7), (4, 8), (4, 9), (4, 10), (4, 11), (4, 12), (4, 13), (4, 14), (4, 15), (4, 16), (4, 17), (4, 18), (4, 19), (4, 20), (4, 21)] ck_wsX7_bestSize_m ck_wsX7_bestSize_g rfl) (goodIn_b (fun _ h => (List.mem_cons_of_mem _ (List.mem_append_right _ h))) ck_wsX7_bestSize_g)
set_option maxRecDepth 20000 in
theorem gX7_bestSize_X7_grown : GoodIn wsX7_bestSize (wsV RX7 136 RX7 yX7_grown wsX7_grown) := goodIn_app (goodIn_of _ (by decide +kernel)) ggX7_bestSize_X7_grown
theorem dX7_bestSize_0 : decode cX7_bestSize 0 = .ok (.bipush (-6), 2) := by decide +kernel
theorem dX7_bestSize_2 : decode cX7_bestSize 2 = .ok (.istore_n 1, 1) := by decide +kernel
theorem dX7_bestSize_3 : decode cX7_bestSize 3 = .ok (.iconst 0, 1) := by decide +kernel
theorem dX7_bestSize_4 : decode cX7_bestSize 4 = .ok (.istore_n 2, 1) := by decide +kernel
theorem dX7_bestSize_5 : decode cX7_bestSize 5 = .ok (.iconst 2, 1) := by decide +kernel
theorem dX7_bestSize_6 : decode cX7_bestSize 6 = .ok (.istore_n 3, 1) := by decide +kernel
theorem dX7_bestSize_7 : decode cX7_bestSize 7 = .ok (.iload_n 3, 1) := by decide +kernel
theorem dX7_bestSize_8 : decode cX7_bestSize 8 = .ok (.bipush 20, 2) := by decide +kernel
theorem dX7_bestSize_10 : decode cX7_bestSize 10 = .ok (.if_icmp .gt 65, 3) := by decide +kernel
theorem dX7_bestSize_13 : decode cX7_bestSize 13 = .ok (.aload_n 0, 1) := by decide +kernel
theorem dX7_bestSize_14 : decode cX7_bestSize 14 = .ok (.iload_n 3, 1) := by decide +kernel
theorem dX7_bestSize_15 : decode cX7_bestSize 15 = .ok (.bipush 7, 2) := by decide +kernel
theorem dX7_bestSize_17 : decode cX7_bestSize 17 = .ok (.invokevirtual 136, 3) := by decide +kernel
theorem dX7_bestSize_20 : decode cX7_bestSize 20 = .ok (.istore 4, 2) := by decide +kernel
theorem dX7_bestSize_22 : decode cX7_bestSize 22 = .ok (.iload 4, 2) := by decide +kernel
theorem dX7_bestSize_24 : decode cX7_bestSize 24 = .ok (.ifCond .lt 19, 3) := by decide +kernel
theorem dX7_bestSize_27 : decode cX7_bestSize 27 = .ok (.iload_n 1, 1) := by decide +kernel
theorem dX7_bestSize_28 : decode cX7_bestSize 28 = .ok (.bipush (-6), 2) := by decide +kernel
theorem dX7_bestSize_30 : decode cX7_bestSize 30 = .ok (.if_icmp .eq 9, 3) := by decide +kernel
theorem dX7_bestSize_33 : decode cX7_bestSize 33 = .ok (.iload 4, 2) := by decide +kernel
theorem dX7_bestSize_35 : decode cX7_bestSize 35 = .ok (.iload_n 2, 1) := by decide +kernel
theorem dX7_bestSize_36 : decode cX7_bestSize 36 = .ok (.if_icmp .ge 7, 3) := by decide +kernel
theorem dX7_bestSize_39 : decode cX7_bestSize 39 = .ok (.iconst 1, 1) := by decide +kernel
theorem dX7_bestSize_40 : decode cX7_bestSize 40 = .ok (.goto 4, 3) := by decide +kernel
theorem dX7_bestSize_43 : decode cX7_bestSize 43 = .ok (.iconst 0, 1) := by decide +kernel
theorem dX7_bestSize_44 : decode cX7_bestSize 44 = .ok (.istore 5, 2) := by decide +kernel
theorem dX7_bestSize_46 : decode cX7_bestSize 46 = .ok (.iload 5, 2) := by decide +kernel
theorem dX7_bestSize_48 : decode cX7_bestSize 48 = .ok (.ifCond .eq 7, 3) := by decide +kernel
theorem dX7_bestSize_51 : decode cX7_bestSize 51 = .ok (.iload_n 3, 1) := by decide +kernel
theorem dX7_bestSize_52 : decode cX7_bestSize 52 = .ok (.goto 4, 3) := by decide +kernel
theorem dX7_bestSize_55 : decode cX7_bestSize 55 = .ok (.iload_n 1, 1) := by decide +kernel
theorem dX7_bestSize_56 : decode cX7_bestSize 56 = .ok (.istore_n 1, 1) := by decide +kernel
theorem dX7_bestSize_57 : decode cX7_bestSize 57 = .ok (.iload 5, 2) := by decide +kernel
theorem dX7_bestSize_59 : decode cX7_bestSize 59 = .ok (.ifCond .eq 8, 3) := by decide +kernel
theorem dX7_bestSize_62 : decode cX7_bestSize 62 = .ok (.iload 4, 2) := by decide +kernel
theorem dX7_bestSize_64 : decode cX7_bestSize 64 = .ok (.goto 4, 3) := by decide +kernel
theorem dX7_bestSize_67 : decode cX7_bestSize 67 = .ok (.iload_n 2, 1) := by decide +kernel
theorem dX7_bestSize_68 : decode cX7_bestSize 68 = .ok (.istore_n 2, 1) := by decide +kernel
theorem dX7_bestSize_69 : decode cX7_bestSize 69 = .ok (.iinc 3 1, 3) := by decide +kernel
theorem dX7_bestSize_72 : decode cX7_bestSize 72 = .ok (.goto (-65), 3) := by decide +kernel
theorem dX7_bestSize_75 : decode cX7_bestSize 75 = .ok (.iload_n 1, 1) := by decide +kernel
theorem dX7_bestSize_76 : decode cX7_bestSize 76 = .ok (.ireturn, 1) := by decide +kernel
set_option maxRecDepth 20000 in
theorem ggX7_append_X7_in : GoodIn wsX7_append wsX7_in := goodIn_r _ [6] (by decide +kernel) (by decide +kernel)
set_option maxRecDepth 20000 in
theorem gX7_append_X7_in : GoodIn wsX7_append (va_wsS RX7 44 yX7_in wsX7_in) := goodIn_app (goodIn_of _ (by decide +kernel)) ggX7_append_X7_in
theorem dX7_append_0 : decode cX7_append 0 = .ok (.iload_n 1, 1) := by decide +kernel
theorem dX7_append_1 : decode cX7_append 1 = .ok (.bipush 33, 2) := by decide +kernel
theorem dX7_append_3 : decode cX7_append 3 = .ok (.bipush 126, 2) := by decide +kernel
theorem dX7_append_5 : decode cX7_append 5 = .ok (.invokestatic 44, 3) := by decide +kernel
theorem dX7_append_8 : decode cX7_append 8 = .ok (.ifCond .ne 6, 3) := by decide +kernel
theorem dX7_append_11 : decode cX7_append 11 = .ok (.bipush (-2), 2) := by decide +kernel
theorem dX7_append_13 : decode cX7_append 13 = .ok (.ireturn, 1) := by decide +kernel
theorem dX7_append_14 : decode cX7_append 14 = .ok (.aload_n 0, 1) := by decide +kernel
theorem dX7_append_15 : decode cX7_append 15 = .ok (.getfield 139, 3) := by decide +kernel
theorem dX7_append_18 : decode cX7_append 18 = .ok (.bipush 80, 2) := by decide +kernel
theorem dX7_append_20 : decode cX7_append 20 = .ok (.if_icmp .ne 6, 3) := by decide +kernel
theorem dX7_append_23 : decode cX7_append 23 = .ok (.bipush (-4), 2) := by decide +kernel
theorem dX7_append_25 : decode cX7_append 25 = .ok (.ireturn, 1) := by decide +kernel
theorem dX7_append_26 : decode cX7_append 26 = .ok (.aload_n 0, 1) := by decide +kernel
theorem dX7_append_27 : decode cX7_append 27 = .ok (.getfield 22, 3) := by decide +kernel
theorem dX7_append_30 : decode cX7_append 30 = .ok (.aload_n 0, 1) := by decide +kernel
theorem dX7_append_31 : decode cX7_append 31 = .ok (.getfield 139, 3) := by decide +kernel
theorem dX7_append_34 : decode cX7_append 34 = .ok (.iload_n 1, 1) := by decide +kernel
theorem dX7_append_35 : decode cX7_append 35 = .ok (.i2c, 1) := by decide +kernel
theorem dX7_append_36 : decode cX7_append 36 = .ok (.castore, 1) := by decide +kernel
theorem dX7_append_37 : decode cX7_append 37 = .ok (.aload_n 0, 1) := by decide +kernel
theorem dX7_append_38 : decode cX7_append 38 = .ok (.dup, 1) := by decide +kernel
theorem dX7_append_39 : decode cX7_append 39 = .ok (.getfield 139, 3) := by decide +kernel
theorem dX7_append_42 : decode cX7_append 42 = .ok (.iconst 1, 1) := by decide +kernel
theorem dX7_append_43 : decode cX7_append 43 = .ok (.iadd, 1) := by decide +kernel
theorem dX7_append_44 : decode cX7_append 44 = .ok (.putfield 139, 3) := by decide +kernel
theorem dX7_append_47 : decode cX7_append 47 = .ok (.aload_n 0, 1) := by decide +kernel
theorem dX7_append_48 : decode cX7_append 48 = .ok (.getfield 139, 3) := by decide +kernel
theorem dX7_append_51 : decode cX7_append 51 = .ok (.ireturn, 1) := by decide +kernel
theorem dX7_clearText_0 : decode cX7_clearText 0 = .ok (.aload_n 0, 1) := by decide +kernel
theorem dX7_clearText_1 : decode cX7_clearText 1 = .ok (.getfield 139, 3) := by decide +kernel
theorem dX7_clearText_4 : decode cX7_clearText 4 = .ok (.istore_n 1, 1) := by decide +kernel
theorem dX7_clearText_5 : decode cX7_clearText 5 = .ok (.aload_n 0, 1) := by decide +kernel
theorem dX7_clearText_6 : decode cX7_clearText 6 = .ok (.iconst 0, 1) := by decide +kernel
theorem dX7_clearText_7 : decode cX7_clearText 7 = .ok (.putfield 139, 3) := by decide +kernel
theorem dX7_clearText_10 : decode cX7_clearText 10 = .ok (.iload_n 1, 1) := by decide +kernel
theorem dX7_clearText_11 : decode cX7_clearText 11 = .ok (.ireturn, 1) := by decide +kernel
theorem dX7_letter_0 : decode cX7_letter 0 = .ok (.aload_n 0, 1) := by decide +kernel
theorem dX7_letter_1 : decode cX7_letter 1 = .ok (.getfield 142, 3) := by decide +kernel
theorem dX7_letter_4 : decode cX7_letter 4 = .ok (.aload_n 0, 1) := by decide +kernel
theorem dX7_letter_5 : decode cX7_letter 5 = .ok (.getfield 139, 3) := by decide +kernel
theorem dX7_letter_8 : decode cX7_letter 8 = .ok (.if_icmp .ge 15, 3) := by decide +kernel
theorem dX7_letter_11 : decode cX7_letter 11 = .ok (.aload_n 0, 1) := by decide +kernel
theorem dX7_letter_12 : decode cX7_letter 12 = .ok (.getfield 22, 3) := by decide +kernel
theorem dX7_letter_15 : decode cX7_letter 15 = .ok (.aload_n 0, 1) := by decide +kernel
theorem dX7_letter_16 : decode cX7_letter 16 = .ok (.getfield 142, 3) := by decide +kernel
theorem dX7_letter_19 : decode cX7_letter 19 = .ok (.caload, 1) := by decide +kernel
theorem dX7_letter_20 : decode cX7_letter 20 = .ok (.goto 5, 3) := by decide +kernel
theorem dX7_letter_23 : decode cX7_letter 23 = .ok (.bipush (-6), 2) := by decide +kernel
theorem dX7_letter_25 : decode cX7_letter 25 = .ok (.ireturn, 1) := by decide +kernel
set_option maxRecDepth 20000 in
theorem ggX7_figure_X7_letter : GoodIn wsX7_figure wsX7_letter := goodIn_r _ [5, 6, 7, 8, 12, 13, 14, 15, 16, 17, 18, 19, 20, 21, 22, 23] (by decide +kernel) (by decide +kernel)
set_option maxRecDepth 20000 in
theorem gX7_figure_X7_letter : GoodIn wsX7_figure (wsV RX7 145 RX7 yX7_letter wsX7_letter) := goodIn_app (goodIn_of _ (by decide +kernel)) ggX7_figure_X7_letter
set_option maxRecDepth 20000 in
theorem ggX7_figure_X7_in : GoodIn wsX7_figure wsX7_in := goodIn_r _ [11] (by decide +kernel) (by decide +kernel)
set_option maxRecDepth 20000 in
theorem gX7_figure_X7_in : GoodIn wsX7_figure (va_wsS RX7 44 yX7_in wsX7_in) := goodIn_app (goodIn_of _ (by decide +kernel)) ggX7_figure_X7_in
theorem dX7_figure_0 : decode cX7_figure 0 = .ok (.aload_n 0, 1) := by decide +kernel
theorem dX7_figure_1 : decode cX7_figure 1 = .ok (.invokevirtual 145, 3) := by decide +kernel
theorem dX7_figure_4 : decode cX7_figure 4 = .ok (.bipush 48, 2) := by decide +kernel
theorem dX7_figure_6 : decode cX7_figure 6 = .ok (.isub, 1) := by decide +kernel
theorem dX7_figure_7 : decode cX7_figure 7 = .ok (.istore_n 1, 1) := by decide +kernel
theorem dX7_figure_8 : decode cX7_figure 8 = .ok (.iload_n 1, 1) := by decide +kernel
theorem dX7_figure_9 : decode cX7_figure 9 = .ok (.iconst 0, 1) := by decide +kernel
theorem dX7_figure_10 : decode cX7_figure 10 = .ok (.bipush 9, 2) := by decide +kernel
theorem dX7_figure_12 : decode cX7_figure 12 = .ok (.invokestatic 44, 3) := by decide +kernel
theorem dX7_figure_15 : decode cX7_figure 15 = .ok (.ifCond .eq 7, 3) := by decide +kernel
theorem dX7_figure_18 : decode cX7_figure 18 = .ok (.iload_n 1, 1) := by decide +kernel
theorem dX7_figure_19 : decode cX7_figure 19 = .ok (.goto 5, 3) := by decide +kernel
theorem dX7_figure_22 : decode cX7_figure 22 = .ok (.bipush (-6), 2) := by decide +kernel
theorem dX7_figure_24 : decode cX7_figure 24 = .ok (.ireturn, 1) := by decide +kernel
theorem dX7_wants_0 : decode cX7_wants 0 = .ok (.aload_n 0, 1) := by decide +kernel
theorem dX7_wants_1 : decode cX7_wants 1 = .ok (.getfield 148, 3) := by decide +kernel
theorem dX7_wants_4 : decode cX7_wants 4 = .ok (.bipush (-6), 2) := by decide +kernel
theorem dX7_wants_6 : decode cX7_wants 6 = .ok (.if_icmp .ne 30, 3) := by decide +kernel
theorem dX7_wants_9 : decode cX7_wants 9 = .ok (.aload_n 0, 1) := by decide +kernel
theorem dX7_wants_10 : decode cX7_wants 10 = .ok (.iload_n 1, 1) := by decide +kernel
theorem dX7_wants_11 : decode cX7_wants 11 = .ok (.ifCond .eq 8, 3) := by decide +kernel
theorem dX7_wants_14 : decode cX7_wants 14 = .ok (.bipush (-6), 2) := by decide +kernel
theorem dX7_wants_16 : decode cX7_wants 16 = .ok (.goto 7, 3) := by decide +kernel
theorem dX7_wants_19 : decode cX7_wants 19 = .ok (.aload_n 0, 1) := by decide +kernel
theorem dX7_wants_20 : decode cX7_wants 20 = .ok (.getfield 142, 3) := by decide +kernel
theorem dX7_wants_23 : decode cX7_wants 23 = .ok (.putfield 148, 3) := by decide +kernel
theorem dX7_wants_26 : decode cX7_wants 26 = .ok (.aload_n 0, 1) := by decide +kernel
theorem dX7_wants_27 : decode cX7_wants 27 = .ok (.dup, 1) := by decide +kernel
theorem dX7_wants_28 : decode cX7_wants 28 = .ok (.getfield 142, 3) := by decide +kernel
theorem dX7_wants_31 : decode cX7_wants 31 = .ok (.iconst 1, 1) := by decide +kernel
theorem dX7_wants_32 : decode cX7_wants 32 = .ok (.iadd, 1) := by decide +kernel
theorem dX7_wants_33 : decode cX7_wants 33 = .ok (.putfield 142, 3) := by decide +kernel
theorem dX7_wants_36 : decode cX7_wants 36 = .ok (.return_, 1) := by decide +kernel
set_option maxRecDepth 20000 in
theorem ggX7_key_X7_figure : GoodIn wsX7_key wsX7_figure := goodIn_r _ [7, 8, 9, 10, 6, 11, 2, 12, 13, 14, 15, 16, 21, 22, 23, 24, 25, 26, 27, 28, 29, 30, 31, 32] (by decide +kernel) (by decide +kernel)
set_option maxRecDepth 20000 in
theorem gX7_key_X7_figure : GoodIn wsX7_key (wsV RX7 151 RX7 yX7_figure wsX7_figure) := goodIn_app (goodIn_of _ (by decide +kernel)) ggX7_key_X7_figure
set_option maxRecDepth 20000 in
theorem ggX7_key_X7_wants : GoodIn wsX7_key wsX7_wants := goodIn_r _ [20, 1, 2, 21, 22, 23, 24, 25, 26, 27, 28, 29, 30, 31, 32] (by decide +kernel) (by decide +kernel)
set_option maxRecDepth 20000 in
theorem gX7_key_X7_wants : GoodIn wsX7_key (wsV RX7 154 RX7 yX7_wants wsX7_wants) := goodIn_app (goodIn_of _ (by decide +kernel)) ggX7_key_X7_wants
theorem dX7_key_0 : decode cX7_key 0 = .ok (.aload_n 0, 1) := by decide +kernel
theorem dX7_key_1 : decode cX7_key 1 = .ok (.invokevirtual 151, 3) := by decide +kernel
theorem dX7_key_4 : decode cX7_key 4 = .ok (.istore_n 1, 1) := by decide +kernel
theorem dX7_key_5 : decode cX7_key 5 = .ok (.aload_n 0, 1) := by decide +kernel
theorem dX7_key_6 : decode cX7_key 6 = .ok (.iload_n 1, 1) := by decide +kernel
theorem dX7_key_7 : decode cX7_key 7 = .ok (.bipush (-6), 2) := by decide +kernel
theorem dX7_key_9 : decode cX7_key 9 = .ok (.if_icmp .eq 7, 3) := by decide +kernel
theorem dX7_key_12 : decode cX7_key 12 = .ok (.iconst 1, 1) := by decide +kernel
theorem dX7_key_13 : decode cX7_key 13 = .ok (.goto 4, 3) := by decide +kernel
theorem dX7_key_16 : decode cX7_key 16 = .ok (.iconst 0, 1) := by decide +kernel
theorem dX7_key_17 : decode cX7_key 17 = .ok (.invokevirtual 154, 3) := by decide +kernel
theorem dX7_key_20 : decode cX7_key 20 = .ok (.aload_n 0, 1) := by decide +kernel
theorem dX7_key_21 : decode cX7_key 21 = .ok (.getfield 148, 3) := by decide +kernel
theorem dX7_key_24 : decode cX7_key 24 = .ok (.bipush (-6), 2) := by decide +kernel
theorem dX7_key_26 : decode cX7_key 26 = .ok (.if_icmp .ne 54, 3) := by decide +kernel
theorem dX7_key_29 : decode cX7_key 29 = .ok (.iload_n 1, 1) := by decide +kernel
theorem dX7_key_30 : decode cX7_key 30 = .ok (.ifCond .le 50, 3) := by decide +kernel
theorem dX7_key_33 : decode cX7_key 33 = .ok (.aload_n 0, 1) := by decide +kernel
theorem dX7_key_34 : decode cX7_key 34 = .ok (.invokevirtual 151, 3) := by decide +kernel
theorem dX7_key_37 : decode cX7_key 37 = .ok (.bipush (-6), 2) := by decide +kernel
theorem dX7_key_39 : decode cX7_key 39 = .ok (.if_icmp .eq 41, 3) := by decide +kernel
theorem dX7_key_42 : decode cX7_key 42 = .ok (.bipush 10, 2) := by decide +kernel
theorem dX7_key_44 : decode cX7_key 44 = .ok (.iload_n 1, 1) := by decide +kernel
theorem dX7_key_45 : decode cX7_key 45 = .ok (.imul, 1) := by decide +kernel
theorem dX7_key_46 : decode cX7_key 46 = .ok (.aload_n 0, 1) := by decide +kernel
theorem dX7_key_47 : decode cX7_key 47 = .ok (.invokevirtual 151, 3) := by decide +kernel
theorem dX7_key_50 : decode cX7_key 50 = .ok (.iadd, 1) := by decide +kernel
theorem dX7_key_51 : decode cX7_key 51 = .ok (.sipush 1000, 3) := by decide +kernel
theorem dX7_key_54 : decode cX7_key 54 = .ok (.if_icmp .ge 26, 3) := by decide +kernel
theorem dX7_key_57 : decode cX7_key 57 = .ok (.bipush 10, 2) := by decide +kernel
theorem dX7_key_59 : decode cX7_key 59 = .ok (.iload_n 1, 1) := by decide +kernel
theorem dX7_key_60 : decode cX7_key 60 = .ok (.imul, 1) := by decide +kernel
theorem dX7_key_61 : decode cX7_key 61 = .ok (.aload_n 0, 1) := by decide +kernel
theorem dX7_key_62 : decode cX7_key 62 = .ok (.invokevirtual 151, 3) := by decide +kernel
theorem dX7_key_65 : decode cX7_key 65 = .ok (.iadd, 1) := by decide +kernel
theorem dX7_key_66 : decode cX7_key 66 = .ok (.istore_n 1, 1) := by decide +kernel
theorem dX7_key_67 : decode cX7_key 67 = .ok (.aload_n 0, 1) := by decide +kernel
theorem dX7_key_68 : decode cX7_key 68 = .ok (.dup, 1) := by decide +kernel
theorem dX7_key_69 : decode cX7_key 69 = .ok (.getfield 142, 3) := by decide +kernel
theorem dX7_key_72 : decode cX7_key 72 = .ok (.iconst 1, 1) := by decide +kernel
theorem dX7_key_73 : decode cX7_key 73 = .ok (.iadd, 1) := by decide +kernel
theorem dX7_key_74 : decode cX7_key 74 = .ok (.putfield 142, 3) := by decide +kernel
theorem dX7_key_77 : decode cX7_key 77 = .ok (.goto (-57), 3) := by decide +kernel
theorem dX7_key_80 : decode cX7_key 80 = .ok (.iload_n 1, 1) := by decide +kernel
theorem dX7_key_81 : decode cX7_key 81 = .ok (.ireturn, 1) := by decide +kernel
set_option maxRecDepth 20000 in
theorem ggX7_greater_X7_figure : GoodIn wsX7_greater wsX7_figure := goodIn_r _ [7, 8, 9, 10, 6, 11, 2, 12, 13, 14, 15, 16, 21, 22, 23, 24, 25, 26, 27, 28, 29, 30, 31, 32] (by decide +kernel) (by decide +kernel)
set_option maxRecDepth 20000 in
theorem gX7_greater_X7_figure : GoodIn wsX7_greater (wsV RX7 151 RX7 yX7_figure wsX7_figure) := goodIn_app (goodIn_of _ (by decide +kernel)) ggX7_greater_X7_figure
set_option maxRecDepth 20000 in
theorem ggX7_greater_X7_wants : GoodIn wsX7_greater wsX7_wants := goodIn_r _ [20, 1, 2, 21, 22, 23, 24, 25, 26, 27, 28, 29, 30, 31, 32] (by decide +kernel) (by decide +kernel)
set_option maxRecDepth 20000 in
theorem gX7_greater_X7_wants : GoodIn wsX7_greater (wsV RX7 154 RX7 yX7_wants wsX7_wants) := goodIn_app (goodIn_of _ (by decide +kernel)) ggX7_greater_X7_wants
theorem dX7_greater_0 : decode cX7_greater 0 = .ok (.aload_n 0, 1) := by decide +kernel
theorem dX7_greater_1 : decode cX7_greater 1 = .ok (.invokevirtual 151, 3) := by decide +kernel
theorem dX7_greater_4 : decode cX7_greater 4 = .ok (.istore_n 2, 1) := by decide +kernel
theorem dX7_greater_5 : decode cX7_greater 5 = .ok (.aload_n 0, 1) := by decide +kernel
theorem dX7_greater_6 : decode cX7_greater 6 = .ok (.iload_n 2, 1) := by decide +kernel
theorem dX7_greater_7 : decode cX7_greater 7 = .ok (.ifCond .le 18, 3) := by decide +kernel
theorem dX7_greater_10 : decode cX7_greater 10 = .ok (.bipush 100, 2) := by decide +kernel
theorem dX7_greater_12 : decode cX7_greater 12 = .ok (.iload_n 2, 1) := by decide +kernel
theorem dX7_greater_13 : decode cX7_greater 13 = .ok (.imul, 1) := by decide +kernel
theorem dX7_greater_14 : decode cX7_greater 14 = .ok (.bipush 99, 2) := by decide +kernel
theorem dX7_greater_16 : decode cX7_greater 16 = .ok (.iadd, 1) := by decide +kernel
theorem dX7_greater_17 : decode cX7_greater 17 = .ok (.iload_n 1, 1) := by decide +kernel
theorem dX7_greater_18 : decode cX7_greater 18 = .ok (.if_icmp .le 7, 3) := by decide +kernel
theorem dX7_greater_21 : decode cX7_greater 21 = .ok (.iconst 1, 1) := by decide +kernel
theorem dX7_greater_22 : decode cX7_greater 22 = .ok (.goto 4, 3) := by decide +kernel
theorem dX7_greater_25 : decode cX7_greater 25 = .ok (.iconst 0, 1) := by decide +kernel
theorem dX7_greater_26 : decode cX7_greater 26 = .ok (.invokevirtual 154, 3) := by decide +kernel
theorem dX7_greater_29 : decode cX7_greater 29 = .ok (.bipush 10, 2) := by decide +kernel
theorem dX7_greater_31 : decode cX7_greater 31 = .ok (.istore_n 3, 1) := by decide +kernel
theorem dX7_greater_32 : decode cX7_greater 32 = .ok (.aload_n 0, 1) := by decide +kernel
theorem dX7_greater_33 : decode cX7_greater 33 = .ok (.getfield 148, 3) := by decide +kernel
theorem dX7_greater_36 : decode cX7_greater 36 = .ok (.bipush (-6), 2) := by decide +kernel
theorem dX7_greater_38 : decode cX7_greater 38 = .ok (.if_icmp .ne 63, 3) := by decide +kernel
theorem dX7_greater_41 : decode cX7_greater 41 = .ok (.aload_n 0, 1) := by decide +kernel
theorem dX7_greater_42 : decode cX7_greater 42 = .ok (.invokevirtual 151, 3) := by decide +kernel
theorem dX7_greater_45 : decode cX7_greater 45 = .ok (.bipush (-6), 2) := by decide +kernel
theorem dX7_greater_47 : decode cX7_greater 47 = .ok (.if_icmp .eq 54, 3) := by decide +kernel
theorem dX7_greater_50 : decode cX7_greater 50 = .ok (.iload_n 3, 1) := by decide +kernel
theorem dX7_greater_51 : decode cX7_greater 51 = .ok (.ifCond .le 50, 3) := by decide +kernel
theorem dX7_greater_54 : decode cX7_greater 54 = .ok (.bipush 10, 2) := by decide +kernel
theorem dX7_greater_56 : decode cX7_greater 56 = .ok (.iload_n 2, 1) := by decide +kernel
theorem dX7_greater_57 : decode cX7_greater 57 = .ok (.imul, 1) := by decide +kernel
theorem dX7_greater_58 : decode cX7_greater 58 = .ok (.aload_n 0, 1) := by decide +kernel
theorem dX7_greater_59 : decode cX7_greater 59 = .ok (.invokevirtual 151, 3) := by decide +kernel
theorem dX7_greater_62 : decode cX7_greater 62 = .ok (.iadd, 1) := by decide +kernel
theorem dX7_greater_63 : decode cX7_greater 63 = .ok (.iload_n 3, 1) := by decide +kernel
theorem dX7_greater_64 : decode cX7_greater 64 = .ok (.imul, 1) := by decide +kernel
theorem dX7_greater_65 : decode cX7_greater 65 = .ok (.iload_n 3, 1) := by decide +kernel
theorem dX7_greater_66 : decode cX7_greater 66 = .ok (.iadd, 1) := by decide +kernel
theorem dX7_greater_67 : decode cX7_greater 67 = .ok (.iconst 1, 1) := by decide +kernel
theorem dX7_greater_68 : decode cX7_greater 68 = .ok (.isub, 1) := by decide +kernel
theorem dX7_greater_69 : decode cX7_greater 69 = .ok (.iload_n 1, 1) := by decide +kernel
theorem dX7_greater_70 : decode cX7_greater 70 = .ok (.if_icmp .le 31, 3) := by decide +kernel
theorem dX7_greater_73 : decode cX7_greater 73 = .ok (.bipush 10, 2) := by decide +kernel
theorem dX7_greater_75 : decode cX7_greater 75 = .ok (.iload_n 2, 1) := by decide +kernel
theorem dX7_greater_76 : decode cX7_greater 76 = .ok (.imul, 1) := by decide +kernel
theorem dX7_greater_77 : decode cX7_greater 77 = .ok (.aload_n 0, 1) := by decide +kernel
theorem dX7_greater_78 : decode cX7_greater 78 = .ok (.invokevirtual 151, 3) := by decide +kernel
theorem dX7_greater_81 : decode cX7_greater 81 = .ok (.iadd, 1) := by decide +kernel
theorem dX7_greater_82 : decode cX7_greater 82 = .ok (.istore_n 2, 1) := by decide +kernel
theorem dX7_greater_83 : decode cX7_greater 83 = .ok (.aload_n 0, 1) := by decide +kernel
theorem dX7_greater_84 : decode cX7_greater 84 = .ok (.dup, 1) := by decide +kernel
theorem dX7_greater_85 : decode cX7_greater 85 = .ok (.getfield 142, 3) := by decide +kernel
theorem dX7_greater_88 : decode cX7_greater 88 = .ok (.iconst 1, 1) := by decide +kernel
theorem dX7_greater_89 : decode cX7_greater 89 = .ok (.iadd, 1) := by decide +kernel
theorem dX7_greater_90 : decode cX7_greater 90 = .ok (.putfield 142, 3) := by decide +kernel
theorem dX7_greater_93 : decode cX7_greater 93 = .ok (.iload_n 3, 1) := by decide +kernel
theorem dX7_greater_94 : decode cX7_greater 94 = .ok (.bipush 10, 2) := by decide +kernel
theorem dX7_greater_96 : decode cX7_greater 96 = .ok (.idiv, 1) := by decide +kernel
theorem dX7_greater_97 : decode cX7_greater 97 = .ok (.istore_n 3, 1) := by decide +kernel
theorem dX7_greater_98 : decode cX7_greater 98 = .ok (.goto (-66), 3) := by decide +kernel
theorem dX7_greater_101 : decode cX7_greater 101 = .ok (.aload_n 0, 1) := by decide +kernel
theorem dX7_greater_102 : decode cX7_greater 102 = .ok (.getfield 148, 3) := by decide +kernel
theorem dX7_greater_105 : decode cX7_greater 105 = .ok (.bipush (-6), 2) := by decide +kernel
theorem dX7_greater_107 : decode cX7_greater 107 = .ok (.if_icmp .ne 16, 3) := by decide +kernel
theorem dX7_greater_110 : decode cX7_greater 110 = .ok (.iload_n 2, 1) := by decide +kernel
theorem dX7_greater_111 : decode cX7_greater 111 = .ok (.iload_n 1, 1) := by decide +kernel
theorem dX7_greater_112 : decode cX7_greater 112 = .ok (.if_icmp .gt 11, 3) := by decide +kernel
theorem dX7_greater_115 : decode cX7_greater 115 = .ok (.aload_n 0, 1) := by decide +kernel
theorem dX7_greater_116 : decode cX7_greater 116 = .ok (.aload_n 0, 1) := by decide +kernel
theorem dX7_greater_117 : decode cX7_greater 117 = .ok (.getfield 142, 3) := by decide +kernel
theorem dX7_greater_120 : decode cX7_greater 120 = .ok (.putfield 148, 3) := by decide +kernel
theorem dX7_greater_123 : decode cX7_greater 123 = .ok (.iload_n 2, 1) := by decide +kernel
theorem dX7_greater_124 : decode cX7_greater 124 = .ok (.ireturn, 1) := by decide +kernel
set_option maxRecDepth 20000 in
theorem ggX7_number_X7_figure : GoodIn wsX7_number wsX7_figure := goodIn_r _ [7, 8, 9, 10, 6, 11, 2, 12, 13, 14, 15, 16, 21, 22, 23, 24, 25, 26, 27, 28, 29, 30, 31, 32] (by decide +kernel) (by decide +kernel)
set_option maxRecDepth 20000 in
theorem gX7_number_X7_figure : GoodIn wsX7_number (wsV RX7 151 RX7 yX7_figure wsX7_figure) := goodIn_app (goodIn_of _ (by decide +kernel)) ggX7_number_X7_figure
set_option maxRecDepth 20000 in
theorem ggX7_number_X7_wants : GoodIn wsX7_number wsX7_wants := goodIn_r _ [20, 1, 2, 21, 22, 23, 24, 25, 26, 27, 28, 29, 30, 31, 32] (by decide +kernel) (by decide +kernel)
set_option maxRecDepth 20000 in
theorem gX7_number_X7_wants : GoodIn wsX7_number (wsV RX7 154 RX7 yX7_wants wsX7_wants) := goodIn_app (goodIn_of _ (by decide +kernel)) ggX7_number_X7_wants
theorem dX7_number_0 : decode cX7_number 0 = .ok (.aload_n 0, 1) := by decide +kernel
theorem dX7_number_1 : decode cX7_number 1 = .ok (.invokevirtual 151, 3) := by decide +kernel
theorem dX7_number_4 : decode cX7_number 4 = .ok (.istore_n 1, 1) := by decide +kernel
theorem dX7_number_5 : decode cX7_number 5 = .ok (.aload_n 0, 1) := by decide +kernel
theorem dX7_number_6 : decode cX7_number 6 = .ok (.iload_n 1, 1) := by decide +kernel
theorem dX7_number_7 : decode cX7_number 7 = .ok (.ifCond .le 7, 3) := by decide +kernel
theorem dX7_number_10 : decode cX7_number 10 = .ok (.iconst 1, 1) := by decide +kernel
theorem dX7_number_11 : decode cX7_number 11 = .ok (.goto 4, 3) := by decide +kernel
theorem dX7_number_14 : decode cX7_number 14 = .ok (.iconst 0, 1) := by decide +kernel
theorem dX7_number_15 : decode cX7_number 15 = .ok (.invokevirtual 154, 3) := by decide +kernel
theorem dX7_number_18 : decode cX7_number 18 = .ok (.aload_n 0, 1) := by decide +kernel
theorem dX7_number_19 : decode cX7_number 19 = .ok (.getfield 148, 3) := by decide +kernel
theorem dX7_number_22 : decode cX7_number 22 = .ok (.bipush (-6), 2) := by decide +kernel
theorem dX7_number_24 : decode cX7_number 24 = .ok (.if_icmp .ne 34, 3) := by decide +kernel
theorem dX7_number_27 : decode cX7_number 27 = .ok (.iload_n 1, 1) := by decide +kernel
theorem dX7_number_28 : decode cX7_number 28 = .ok (.iconst 1, 1) := by decide +kernel
theorem dX7_number_29 : decode cX7_number 29 = .ok (.if_icmp .ne 29, 3) := by decide +kernel
theorem dX7_number_32 : decode cX7_number 32 = .ok (.bipush 10, 2) := by decide +kernel
theorem dX7_number_34 : decode cX7_number 34 = .ok (.aload_n 0, 1) := by decide +kernel
theorem dX7_number_35 : decode cX7_number 35 = .ok (.invokevirtual 151, 3) := by decide +kernel
theorem dX7_number_38 : decode cX7_number 38 = .ok (.iadd, 1) := by decide +kernel
theorem dX7_number_39 : decode cX7_number 39 = .ok (.istore_n 1, 1) := by decide +kernel
theorem dX7_number_40 : decode cX7_number 40 = .ok (.aload_n 0, 1) := by decide +kernel
theorem dX7_number_41 : decode cX7_number 41 = .ok (.iload_n 1, 1) := by decide +kernel
theorem dX7_number_42 : decode cX7_number 42 = .ok (.bipush 10, 2) := by decide +kernel
theorem dX7_number_44 : decode cX7_number 44 = .ok (.if_icmp .lt 7, 3) := by decide +kernel
theorem dX7_number_47 : decode cX7_number 47 = .ok (.iconst 1, 1) := by decide +kernel
theorem dX7_number_48 : decode cX7_number 48 = .ok (.goto 4, 3) := by decide +kernel
theorem dX7_number_51 : decode cX7_number 51 = .ok (.iconst 0, 1) := by decide +kernel
theorem dX7_number_52 : decode cX7_number 52 = .ok (.invokevirtual 154, 3) := by decide +kernel
theorem dX7_number_55 : decode cX7_number 55 = .ok (.goto 37, 3) := by decide +kernel
theorem dX7_number_58 : decode cX7_number 58 = .ok (.aload_n 0, 1) := by decide +kernel
theorem dX7_number_59 : decode cX7_number 59 = .ok (.getfield 148, 3) := by decide +kernel
theorem dX7_number_62 : decode cX7_number 62 = .ok (.bipush (-6), 2) := by decide +kernel
theorem dX7_number_64 : decode cX7_number 64 = .ok (.if_icmp .ne 28, 3) := by decide +kernel
theorem dX7_number_67 : decode cX7_number 67 = .ok (.iload_n 1, 1) := by decide +kernel
theorem dX7_number_68 : decode cX7_number 68 = .ok (.iconst 2, 1) := by decide +kernel
theorem dX7_number_69 : decode cX7_number 69 = .ok (.if_icmp .ne 23, 3) := by decide +kernel
theorem dX7_number_72 : decode cX7_number 72 = .ok (.aload_n 0, 1) := by decide +kernel
theorem dX7_number_73 : decode cX7_number 73 = .ok (.invokevirtual 151, 3) := by decide +kernel
theorem dX7_number_76 : decode cX7_number 76 = .ok (.ifCond .ne 16, 3) := by decide +kernel
theorem dX7_number_79 : decode cX7_number 79 = .ok (.bipush 20, 2) := by decide +kernel
theorem dX7_number_81 : decode cX7_number 81 = .ok (.istore_n 1, 1) := by decide +kernel
theorem dX7_number_82 : decode cX7_number 82 = .ok (.aload_n 0, 1) := by decide +kernel
theorem dX7_number_83 : decode cX7_number 83 = .ok (.dup, 1) := by decide +kernel
theorem dX7_number_84 : decode cX7_number 84 = .ok (.getfield 142, 3) := by decide +kernel
theorem dX7_number_87 : decode cX7_number 87 = .ok (.iconst 1, 1) := by decide +kernel
theorem dX7_number_88 : decode cX7_number 88 = .ok (.iadd, 1) := by decide +kernel
theorem dX7_number_89 : decode cX7_number 89 = .ok (.putfield 142, 3) := by decide +kernel
theorem dX7_number_92 : decode cX7_number 92 = .ok (.iload_n 1, 1) := by decide +kernel
theorem dX7_number_93 : decode cX7_number 93 = .ok (.ireturn, 1) := by decide +kernel
def ck_wsX7_readItem : List (List Cond) := [[.code yX7_readItem cX7_readItem 3 none], wsX7_readItem_r1, wsX7_readItem_r2]
theorem ck_wsX7_readItem_m : ∀ c ∈ ck_wsX7_readItem, ∀ w ∈ c, w ∈ wsX7_readItem := List.forall_mem_cons.mpr ⟨fun w h => List.mem_cons.mpr (Or.inl (List.mem_singleton.mp h)), List.forall_mem_cons.mpr ⟨fun _ h => (List.mem_cons_of_mem _ (List.mem_append_left _ (List.mem_append_left _ h))), List.forall_mem_cons.mpr ⟨fun _ h => (List.mem_cons_of_mem _ (List.mem_append_left _ (List.mem_append_right _ h))), fun _ h => absurd h List.not_mem_nil⟩⟩⟩
set_option maxRecDepth 100000 in
theorem ck_wsX7_readItem_g : ∀ w ∈ wsX7_readItem, goodWord w = true := List.all_eq_true.mp (by decide +kernel)
set_option maxRecDepth 100000 in
theorem ggX7_readItem_X7_key : GoodIn wsX7_readItem wsX7_key := goodIn_ca (goodIn_2 ck_wsX7_readItem [(1, 8), (1, 2), (1, 3), (1, 9), (1, 10), (1, 11), (1, 7), (1, 12), (1, 13), (1, 14), (1, 15), (1, 16), (1, 17), (1, 18), (1, 19), (1, 20), (1, 21), (1, 22), (1, 23), (2, 0), (2, 1)] ck_wsX7_readItem_m ck_wsX7_readItem_g rfl) (goodIn_b (fun _ h => (List.mem_cons_of_mem _ (List.mem_append_right _ h))) ck_wsX7_readItem_g)
set_option maxRecDepth 20000 in
theorem gX7_readItem_X7_key : GoodIn wsX7_readItem (wsV RX7 161 RX7 yX7_key wsX7_key) := goodIn_app (goodIn_of _ (by decide +kernel)) ggX7_readItem_X7_key
set_option maxRecDepth 100000 in
theorem ggX7_readItem_X7_letter : GoodIn wsX7_readItem wsX7_letter := goodIn_ca (goodIn_2 ck_wsX7_readItem [(1, 16), (1, 3), (1, 17), (1, 18)] ck_wsX7_readItem_m ck_wsX7_readItem_g rfl) (goodIn_b (fun _ h => (List.mem_cons_of_mem _ (List.mem_append_right _ h))) ck_wsX7_readItem_g)
set_option maxRecDepth 20000 in
theorem gX7_readItem_X7_letter : GoodIn wsX7_readItem (wsV RX7 145 RX7 yX7_letter wsX7_letter) := goodIn_app (goodIn_of _ (by decide +kernel)) ggX7_readItem_X7_letter
set_option maxRecDepth 100000 in
theorem ggX7_readItem_X7_number : GoodIn wsX7_readItem wsX7_number := goodIn_ca (goodIn_2 ck_wsX7_readItem [(2, 5), (1, 2), (1, 3), (1, 9), (1, 10), (1, 11), (1, 7), (1, 12), (1, 13), (1, 14), (1, 15), (1, 16), (1, 17), (1, 18), (1, 19), (1, 20), (1, 21), (1, 22), (1, 23), (2, 0), (2, 1)] ck_wsX7_readItem_m ck_wsX7_readItem_g rfl) (goodIn_b (fun _ h => (List.mem_cons_of_mem _ (List.mem_append_right _ h))) ck_wsX7_readItem_g)
set_option maxRecDepth 20000 in
theorem gX7_readItem_X7_number : GoodIn wsX7_readItem (wsV RX7 164 RX7 yX7_number wsX7_number) := goodIn_app (goodIn_of _ (by decide +kernel)) ggX7_readItem_X7_number
set_option maxRecDepth 100000 in
theorem ggX7_readItem_X7_wants : GoodIn wsX7_readItem wsX7_wants := goodIn_ca (goodIn_2 ck_wsX7_readItem [(2, 1), (1, 2), (1, 3)] ck_wsX7_readItem_m ck_wsX7_readItem_g rfl) (goodIn_b (fun _ h => (List.mem_cons_of_mem _ (List.mem_append_right _ h))) ck_wsX7_readItem_g)
set_option maxRecDepth 20000 in
theorem gX7_readItem_X7_wants : GoodIn wsX7_readItem (wsV RX7 154 RX7 yX7_wants wsX7_wants) := goodIn_app (goodIn_of _ (by decide +kernel)) ggX7_readItem_X7_wants
set_option maxRecDepth 100000 in
theorem ggX7_readItem_X7_greater : GoodIn wsX7_readItem wsX7_greater := goodIn_ca (goodIn_2 ck_wsX7_readItem [(2, 9), (1, 2), (1, 3), (1, 9), (1, 10), (1, 11), (1, 7), (1, 12), (1, 13), (1, 14), (1, 15), (1, 16), (1, 17), (1, 18), (1, 19), (1, 20), (1, 21), (1, 22), (1, 23), (2, 0), (2, 1)] ck_wsX7_readItem_m ck_wsX7_readItem_g rfl) (goodIn_b (fun _ h => (List.mem_cons_of_mem _ (List.mem_append_right _ h))) ck_wsX7_readItem_g)
set_option maxRecDepth 20000 in
theorem gX7_readItem_X7_greater : GoodIn wsX7_readItem (wsV RX7 167 RX7 yX7_greater wsX7_greater) := goodIn_app (goodIn_of _ (by decide +kernel)) ggX7_readItem_X7_greater
theorem dX7_readItem_0 : decode cX7_readItem 0 = .ok (.iconst 3, 1) := by decide +kernel
theorem dX7_readItem_1 : decode cX7_readItem 1 = .ok (.aload_n 0, 1) := by decide +kernel
theorem dX7_readItem_2 : decode cX7_readItem 2 = .ok (.getfield 158, 3) := by decide +kernel
theorem dX7_readItem_5 : decode cX7_readItem 5 = .ok (.imul, 1) := by decide +kernel
theorem dX7_readItem_6 : decode cX7_readItem 6 = .ok (.istore_n 1, 1) := by decide +kernel
theorem dX7_readItem_7 : decode cX7_readItem 7 = .ok (.aload_n 0, 1) := by decide +kernel
theorem dX7_readItem_8 : decode cX7_readItem 8 = .ok (.invokevirtual 161, 3) := by decide +kernel
theorem dX7_readItem_11 : decode cX7_readItem 11 = .ok (.istore_n 2, 1) := by decide +kernel
theorem dX7_readItem_12 : decode cX7_readItem 12 = .ok (.aload_n 0, 1) := by decide +kernel
theorem dX7_readItem_13 : decode cX7_readItem 13 = .ok (.getfield 26, 3) := by decide +kernel
theorem dX7_readItem_16 : decode cX7_readItem 16 = .ok (.iload_n 1, 1) := by decide +kernel
theorem dX7_readItem_17 : decode cX7_readItem 17 = .ok (.iload_n 2, 1) := by decide +kernel
theorem dX7_readItem_18 : decode cX7_readItem 18 = .ok (.iastore, 1) := by decide +kernel
theorem dX7_readItem_19 : decode cX7_readItem 19 = .ok (.aload_n 0, 1) := by decide +kernel
theorem dX7_readItem_20 : decode cX7_readItem 20 = .ok (.getfield 26, 3) := by decide +kernel
theorem dX7_readItem_23 : decode cX7_readItem 23 = .ok (.iload_n 1, 1) := by decide +kernel
theorem dX7_readItem_24 : decode cX7_readItem 24 = .ok (.iconst 1, 1) := by decide +kernel
theorem dX7_readItem_25 : decode cX7_readItem 25 = .ok (.iadd, 1) := by decide +kernel
theorem dX7_readItem_26 : decode cX7_readItem 26 = .ok (.iconst 1, 1) := by decide +kernel
theorem dX7_readItem_27 : decode cX7_readItem 27 = .ok (.iastore, 1) := by decide +kernel
theorem dX7_readItem_28 : decode cX7_readItem 28 = .ok (.aload_n 0, 1) := by decide +kernel
theorem dX7_readItem_29 : decode cX7_readItem 29 = .ok (.getfield 26, 3) := by decide +kernel
theorem dX7_readItem_32 : decode cX7_readItem 32 = .ok (.iload_n 1, 1) := by decide +kernel
theorem dX7_readItem_33 : decode cX7_readItem 33 = .ok (.iconst 2, 1) := by decide +kernel
theorem dX7_readItem_34 : decode cX7_readItem 34 = .ok (.iadd, 1) := by decide +kernel
theorem dX7_readItem_35 : decode cX7_readItem 35 = .ok (.iconst 0, 1) := by decide +kernel
theorem dX7_readItem_36 : decode cX7_readItem 36 = .ok (.iastore, 1) := by decide +kernel
theorem dX7_readItem_37 : decode cX7_readItem 37 = .ok (.aload_n 0, 1) := by decide +kernel
theorem dX7_readItem_38 : decode cX7_readItem 38 = .ok (.getfield 148, 3) := by decide +kernel
theorem dX7_readItem_41 : decode cX7_readItem 41 = .ok (.bipush (-6), 2) := by decide +kernel
theorem dX7_readItem_43 : decode cX7_readItem 43 = .ok (.if_icmp .ne 37, 3) := by decide +kernel
theorem dX7_readItem_46 : decode cX7_readItem 46 = .ok (.aload_n 0, 1) := by decide +kernel
theorem dX7_readItem_47 : decode cX7_readItem 47 = .ok (.invokevirtual 145, 3) := by decide +kernel
theorem dX7_readItem_50 : decode cX7_readItem 50 = .ok (.bipush 120, 2) := by decide +kernel
theorem dX7_readItem_52 : decode cX7_readItem 52 = .ok (.if_icmp .ne 28, 3) := by decide +kernel
theorem dX7_readItem_55 : decode cX7_readItem 55 = .ok (.aload_n 0, 1) := by decide +kernel
theorem dX7_readItem_56 : decode cX7_readItem 56 = .ok (.dup, 1) := by decide +kernel
theorem dX7_readItem_57 : decode cX7_readItem 57 = .ok (.getfield 142, 3) := by decide +kernel
theorem dX7_readItem_60 : decode cX7_readItem 60 = .ok (.iconst 1, 1) := by decide +kernel
theorem dX7_readItem_61 : decode cX7_readItem 61 = .ok (.iadd, 1) := by decide +kernel
theorem dX7_readItem_62 : decode cX7_readItem 62 = .ok (.putfield 142, 3) := by decide +kernel
theorem dX7_readItem_65 : decode cX7_readItem 65 = .ok (.aload_n 0, 1) := by decide +kernel
theorem dX7_readItem_66 : decode cX7_readItem 66 = .ok (.getfield 26, 3) := by decide +kernel
theorem dX7_readItem_69 : decode cX7_readItem 69 = .ok (.iload_n 1, 1) := by decide +kernel
theorem dX7_readItem_70 : decode cX7_readItem 70 = .ok (.iconst 1, 1) := by decide +kernel
theorem dX7_readItem_71 : decode cX7_readItem 71 = .ok (.iadd, 1) := by decide +kernel
theorem dX7_readItem_72 : decode cX7_readItem 72 = .ok (.aload_n 0, 1) := by decide +kernel
theorem dX7_readItem_73 : decode cX7_readItem 73 = .ok (.invokevirtual 164, 3) := by decide +kernel
theorem dX7_readItem_76 : decode cX7_readItem 76 = .ok (.iastore, 1) := by decide +kernel
theorem dX7_readItem_77 : decode cX7_readItem 77 = .ok (.goto 72, 3) := by decide +kernel
theorem dX7_readItem_80 : decode cX7_readItem 80 = .ok (.aload_n 0, 1) := by decide +kernel
theorem dX7_readItem_81 : decode cX7_readItem 81 = .ok (.getfield 148, 3) := by decide +kernel
theorem dX7_readItem_84 : decode cX7_readItem 84 = .ok (.bipush (-6), 2) := by decide +kernel
theorem dX7_readItem_86 : decode cX7_readItem 86 = .ok (.if_icmp .ne 63, 3) := by decide +kernel
theorem dX7_readItem_89 : decode cX7_readItem 89 = .ok (.aload_n 0, 1) := by decide +kernel
theorem dX7_readItem_90 : decode cX7_readItem 90 = .ok (.invokevirtual 145, 3) := by decide +kernel
theorem dX7_readItem_93 : decode cX7_readItem 93 = .ok (.bipush 45, 2) := by decide +kernel
theorem dX7_readItem_95 : decode cX7_readItem 95 = .ok (.if_icmp .ne 54, 3) := by decide +kernel
theorem dX7_readItem_98 : decode cX7_readItem 98 = .ok (.aload_n 0, 1) := by decide +kernel
theorem dX7_readItem_99 : decode cX7_readItem 99 = .ok (.iload_n 2, 1) := by decide +kernel
theorem dX7_readItem_100 : decode cX7_readItem 100 = .ok (.sipush 999, 3) := by decide +kernel
theorem dX7_readItem_103 : decode cX7_readItem 103 = .ok (.if_icmp .ge 7, 3) := by decide +kernel
theorem dX7_readItem_106 : decode cX7_readItem 106 = .ok (.iconst 1, 1) := by decide +kernel
theorem dX7_readItem_107 : decode cX7_readItem 107 = .ok (.goto 4, 3) := by decide +kernel
theorem dX7_readItem_110 : decode cX7_readItem 110 = .ok (.iconst 0, 1) := by decide +kernel
theorem dX7_readItem_111 : decode cX7_readItem 111 = .ok (.invokevirtual 154, 3) := by decide +kernel
theorem dX7_readItem_114 : decode cX7_readItem 114 = .ok (.aload_n 0, 1) := by decide +kernel
theorem dX7_readItem_115 : decode cX7_readItem 115 = .ok (.getfield 148, 3) := by decide +kernel
theorem dX7_readItem_118 : decode cX7_readItem 118 = .ok (.bipush (-6), 2) := by decide +kernel
theorem dX7_readItem_120 : decode cX7_readItem 120 = .ok (.if_icmp .ne 29, 3) := by decide +kernel
theorem dX7_readItem_123 : decode cX7_readItem 123 = .ok (.aload_n 0, 1) := by decide +kernel
theorem dX7_readItem_124 : decode cX7_readItem 124 = .ok (.getfield 26, 3) := by decide +kernel
theorem dX7_readItem_127 : decode cX7_readItem 127 = .ok (.iload_n 1, 1) := by decide +kernel
theorem dX7_readItem_128 : decode cX7_readItem 128 = .ok (.iconst 1, 1) := by decide +kernel
theorem dX7_readItem_129 : decode cX7_readItem 129 = .ok (.iadd, 1) := by decide +kernel
theorem dX7_readItem_130 : decode cX7_readItem 130 = .ok (.aload_n 0, 1) := by decide +kernel
theorem dX7_readItem_131 : decode cX7_readItem 131 = .ok (.iload_n 2, 1) := by decide +kernel
theorem dX7_readItem_132 : decode cX7_readItem 132 = .ok (.invokevirtual 167, 3) := by decide +kernel
theorem dX7_readItem_135 : decode cX7_readItem 135 = .ok (.iload_n 2, 1) := by decide +kernel
theorem dX7_readItem_136 : decode cX7_readItem 136 = .ok (.isub, 1) := by decide +kernel
theorem dX7_readItem_137 : decode cX7_readItem 137 = .ok (.iconst 1, 1) := by decide +kernel
theorem dX7_readItem_138 : decode cX7_readItem 138 = .ok (.iadd, 1) := by decide +kernel
theorem dX7_readItem_139 : decode cX7_readItem 139 = .ok (.iastore, 1) := by decide +kernel
theorem dX7_readItem_140 : decode cX7_readItem 140 = .ok (.aload_n 0, 1) := by decide +kernel
theorem dX7_readItem_141 : decode cX7_readItem 141 = .ok (.getfield 26, 3) := by decide +kernel
theorem dX7_readItem_144 : decode cX7_readItem 144 = .ok (.iload_n 1, 1) := by decide +kernel
theorem dX7_readItem_145 : decode cX7_readItem 145 = .ok (.iconst 2, 1) := by decide +kernel
theorem dX7_readItem_146 : decode cX7_readItem 146 = .ok (.iadd, 1) := by decide +kernel
theorem dX7_readItem_147 : decode cX7_readItem 147 = .ok (.iconst 1, 1) := by decide +kernel
theorem dX7_readItem_148 : decode cX7_readItem 148 = .ok (.iastore, 1) := by decide +kernel
theorem dX7_readItem_149 : decode cX7_readItem 149 = .ok (.aload_n 0, 1) := by decide +kernel
theorem dX7_readItem_150 : decode cX7_readItem 150 = .ok (.dup, 1) := by decide +kernel
theorem dX7_readItem_151 : decode cX7_readItem 151 = .ok (.getfield 158, 3) := by decide +kernel
theorem dX7_readItem_154 : decode cX7_readItem 154 = .ok (.iconst 1, 1) := by decide +kernel
theorem dX7_readItem_155 : decode cX7_readItem 155 = .ok (.iadd, 1) := by decide +kernel
theorem dX7_readItem_156 : decode cX7_readItem 156 = .ok (.putfield 158, 3) := by decide +kernel
theorem dX7_readItem_159 : decode cX7_readItem 159 = .ok (.return_, 1) := by decide +kernel
def ck_wsX7_errorPosition : List (List Cond) := [[.code yX7_errorPosition cX7_errorPosition 2 (some .int)], wsX7_errorPosition_r1, wsX7_errorPosition_r2]
theorem ck_wsX7_errorPosition_m : ∀ c ∈ ck_wsX7_errorPosition, ∀ w ∈ c, w ∈ wsX7_errorPosition := List.forall_mem_cons.mpr ⟨fun w h => List.mem_cons.mpr (Or.inl (List.mem_singleton.mp h)), List.forall_mem_cons.mpr ⟨fun _ h => (List.mem_cons_of_mem _ (List.mem_append_left _ (List.mem_append_left _ h))), List.forall_mem_cons.mpr ⟨fun _ h => (List.mem_cons_of_mem _ (List.mem_append_left _ (List.mem_append_right _ h))), fun _ h => absurd h List.not_mem_nil⟩⟩⟩
set_option maxRecDepth 100000 in
theorem ck_wsX7_errorPosition_g : ∀ w ∈ wsX7_errorPosition, goodWord w = true := List.all_eq_true.mp (by decide +kernel)
set_option maxRecDepth 100000 in
theorem ggX7_errorPosition_X7_readItem : GoodIn wsX7_errorPosition wsX7_readItem := goodIn_ca (goodIn_2 ck_wsX7_errorPosition [(1, 8), (1, 0), (1, 9), (1, 2), (1, 1), (1, 10), (1, 11), (1, 12), (1, 7), (1, 13), (1, 14), (1, 15), (1, 16), (1, 17), (1, 18), (1, 19), (1, 20), (1, 21), (1, 3), (1, 22), (1, 23), (2, 0), (2, 1), (2, 2), (2, 3), (2, 4), (2, 5), (2, 6), (2, 7), (2, 8), (2, 9), (2, 10), (2, 11), (2, 12), (2, 13)] ck_wsX7_errorPosition_m ck_wsX7_errorPosition_g rfl) (goodIn_b (fun _ h => (List.mem_cons_of_mem _ (List.mem_append_right _ h))) ck_wsX7_errorPosition_g)
set_option maxRecDepth 20000 in
theorem gX7_errorPosition_X7_readItem : GoodIn wsX7_errorPosition (wsV RX7 170 RX7 yX7_readItem wsX7_readItem) := goodIn_app (goodIn_of _ (by decide +kernel)) ggX7_errorPosition_X7_readItem
set_option maxRecDepth 100000 in
theorem ggX7_errorPosition_X7_letter : GoodIn wsX7_errorPosition wsX7_letter := goodIn_ca (goodIn_2 ck_wsX7_errorPosition [(1, 21), (1, 1), (1, 3), (1, 22)] ck_wsX7_errorPosition_m ck_wsX7_errorPosition_g rfl) (goodIn_b (fun _ h => (List.mem_cons_of_mem _ (List.mem_append_right _ h))) ck_wsX7_errorPosition_g)
set_option maxRecDepth 20000 in
theorem gX7_errorPosition_X7_letter : GoodIn wsX7_errorPosition (wsV RX7 145 RX7 yX7_letter wsX7_letter) := goodIn_app (goodIn_of _ (by decide +kernel)) ggX7_errorPosition_X7_letter
set_option maxRecDepth 100000 in
theorem ggX7_errorPosition_X7_wants : GoodIn wsX7_errorPosition wsX7_wants := goodIn_ca (goodIn_2 ck_wsX7_errorPosition [(2, 5), (1, 2), (1, 1)] ck_wsX7_errorPosition_m ck_wsX7_errorPosition_g rfl) (goodIn_b (fun _ h => (List.mem_cons_of_mem _ (List.mem_append_right _ h))) ck_wsX7_errorPosition_g)
set_option maxRecDepth 20000 in
theorem gX7_errorPosition_X7_wants : GoodIn wsX7_errorPosition (wsV RX7 154 RX7 yX7_wants wsX7_wants) := goodIn_app (goodIn_of _ (by decide +kernel)) ggX7_errorPosition_X7_wants
theorem dX7_errorPosition_0 : decode cX7_errorPosition 0 = .ok (.aload_n 0, 1) := by decide +kernel
theorem dX7_errorPosition_1 : decode cX7_errorPosition 1 = .ok (.iconst 0, 1) := by decide +kernel
theorem dX7_errorPosition_2 : decode cX7_errorPosition 2 = .ok (.putfield 158, 3) := by decide +kernel
theorem dX7_errorPosition_5 : decode cX7_errorPosition 5 = .ok (.aload_n 0, 1) := by decide +kernel
theorem dX7_errorPosition_6 : decode cX7_errorPosition 6 = .ok (.iconst 0, 1) := by decide +kernel
theorem dX7_errorPosition_7 : decode cX7_errorPosition 7 = .ok (.putfield 142, 3) := by decide +kernel
theorem dX7_errorPosition_10 : decode cX7_errorPosition 10 = .ok (.aload_n 0, 1) := by decide +kernel
theorem dX7_errorPosition_11 : decode cX7_errorPosition 11 = .ok (.bipush (-6), 2) := by decide +kernel
theorem dX7_errorPosition_13 : decode cX7_errorPosition 13 = .ok (.putfield 148, 3) := by decide +kernel
theorem dX7_errorPosition_16 : decode cX7_errorPosition 16 = .ok (.iconst 1, 1) := by decide +kernel
theorem dX7_errorPosition_17 : decode cX7_errorPosition 17 = .ok (.istore_n 1, 1) := by decide +kernel
theorem dX7_errorPosition_18 : decode cX7_errorPosition 18 = .ok (.iload_n 1, 1) := by decide +kernel
theorem dX7_errorPosition_19 : decode cX7_errorPosition 19 = .ok (.ifCond .eq 73, 3) := by decide +kernel
theorem dX7_errorPosition_22 : decode cX7_errorPosition 22 = .ok (.aload_n 0, 1) := by decide +kernel
theorem dX7_errorPosition_23 : decode cX7_errorPosition 23 = .ok (.invokevirtual 170, 3) := by decide +kernel
theorem dX7_errorPosition_26 : decode cX7_errorPosition 26 = .ok (.aload_n 0, 1) := by decide +kernel
theorem dX7_errorPosition_27 : decode cX7_errorPosition 27 = .ok (.getfield 148, 3) := by decide +kernel
theorem dX7_errorPosition_30 : decode cX7_errorPosition 30 = .ok (.bipush (-6), 2) := by decide +kernel
theorem dX7_errorPosition_32 : decode cX7_errorPosition 32 = .ok (.if_icmp .ne 18, 3) := by decide +kernel
theorem dX7_errorPosition_35 : decode cX7_errorPosition 35 = .ok (.aload_n 0, 1) := by decide +kernel
theorem dX7_errorPosition_36 : decode cX7_errorPosition 36 = .ok (.getfield 142, 3) := by decide +kernel
theorem dX7_errorPosition_39 : decode cX7_errorPosition 39 = .ok (.aload_n 0, 1) := by decide +kernel
theorem dX7_errorPosition_40 : decode cX7_errorPosition 40 = .ok (.getfield 139, 3) := by decide +kernel
theorem dX7_errorPosition_43 : decode cX7_errorPosition 43 = .ok (.if_icmp .ge 7, 3) := by decide +kernel
theorem dX7_errorPosition_46 : decode cX7_errorPosition 46 = .ok (.iconst 1, 1) := by decide +kernel
theorem dX7_errorPosition_47 : decode cX7_errorPosition 47 = .ok (.goto 4, 3) := by decide +kernel
theorem dX7_errorPosition_50 : decode cX7_errorPosition 50 = .ok (.iconst 0, 1) := by decide +kernel
theorem dX7_errorPosition_51 : decode cX7_errorPosition 51 = .ok (.istore_n 1, 1) := by decide +kernel
theorem dX7_errorPosition_52 : decode cX7_errorPosition 52 = .ok (.iload_n 1, 1) := by decide +kernel
theorem dX7_errorPosition_53 : decode cX7_errorPosition 53 = .ok (.ifCond .eq (-35), 3) := by decide +kernel
theorem dX7_errorPosition_56 : decode cX7_errorPosition 56 = .ok (.aload_n 0, 1) := by decide +kernel
theorem dX7_errorPosition_57 : decode cX7_errorPosition 57 = .ok (.aload_n 0, 1) := by decide +kernel
theorem dX7_errorPosition_58 : decode cX7_errorPosition 58 = .ok (.invokevirtual 145, 3) := by decide +kernel
theorem dX7_errorPosition_61 : decode cX7_errorPosition 61 = .ok (.bipush 44, 2) := by decide +kernel
theorem dX7_errorPosition_63 : decode cX7_errorPosition 63 = .ok (.if_icmp .ne 7, 3) := by decide +kernel
theorem dX7_errorPosition_66 : decode cX7_errorPosition 66 = .ok (.iconst 1, 1) := by decide +kernel
theorem dX7_errorPosition_67 : decode cX7_errorPosition 67 = .ok (.goto 4, 3) := by decide +kernel
theorem dX7_errorPosition_70 : decode cX7_errorPosition 70 = .ok (.iconst 0, 1) := by decide +kernel
theorem dX7_errorPosition_71 : decode cX7_errorPosition 71 = .ok (.invokevirtual 154, 3) := by decide +kernel
theorem dX7_errorPosition_74 : decode cX7_errorPosition 74 = .ok (.aload_n 0, 1) := by decide +kernel
theorem dX7_errorPosition_75 : decode cX7_errorPosition 75 = .ok (.getfield 148, 3) := by decide +kernel
theorem dX7_errorPosition_78 : decode cX7_errorPosition 78 = .ok (.bipush (-6), 2) := by decide +kernel
theorem dX7_errorPosition_80 : decode cX7_errorPosition 80 = .ok (.if_icmp .ne 7, 3) := by decide +kernel
theorem dX7_errorPosition_83 : decode cX7_errorPosition 83 = .ok (.iconst 1, 1) := by decide +kernel
theorem dX7_errorPosition_84 : decode cX7_errorPosition 84 = .ok (.goto 4, 3) := by decide +kernel
theorem dX7_errorPosition_87 : decode cX7_errorPosition 87 = .ok (.iconst 0, 1) := by decide +kernel
theorem dX7_errorPosition_88 : decode cX7_errorPosition 88 = .ok (.istore_n 1, 1) := by decide +kernel
theorem dX7_errorPosition_89 : decode cX7_errorPosition 89 = .ok (.goto (-71), 3) := by decide +kernel
theorem dX7_errorPosition_92 : decode cX7_errorPosition 92 = .ok (.aload_n 0, 1) := by decide +kernel
theorem dX7_errorPosition_93 : decode cX7_errorPosition 93 = .ok (.getfield 148, 3) := by decide +kernel
theorem dX7_errorPosition_96 : decode cX7_errorPosition 96 = .ok (.ireturn, 1) := by decide +kernel
def ck_wsX7_read : List (List Cond) := [[.code yX7_read cX7_read 4 (some .int)], wsX7_read_r1, wsX7_read_r2, wsX7_read_r3, wsX7_read_r4]
theorem ck_wsX7_read_m : ∀ c ∈ ck_wsX7_read, ∀ w ∈ c, w ∈ wsX7_read := List.forall_mem_cons.mpr ⟨fun w h => List.mem_cons.mpr (Or.inl (List.mem_singleton.mp h)), List.forall_mem_cons.mpr ⟨fun _ h => (List.mem_cons_of_mem _ (List.mem_append_left _ (List.mem_append_left _ h))), List.forall_mem_cons.mpr ⟨fun _ h => (List.mem_cons_of_mem _ (List.mem_append_left _ (List.mem_append_right _ (List.mem_append_left _ h)))), List.forall_mem_cons.mpr ⟨fun _ h => (List.mem_cons_of_mem _ (List.mem_append_left _ (List.mem_append_right _ (List.mem_append_right _ (List.mem_append_left _ h))))), List.forall_mem_cons.mpr ⟨fun _ h => (List.mem_cons_of_mem _ (List.mem_append_left _ (List.mem_append_right _ (List.mem_append_right _ (List.mem_append_right _ h))))), fun _ h => absurd h List.not_mem_nil⟩⟩⟩⟩⟩
set_option maxRecDepth 100000 in
theorem ck_wsX7_read_g : ∀ w ∈ wsX7_read, goodWord w = true := List.all_eq_true.mp (by decide +kernel)
set_option maxRecDepth 100000 in
theorem ggX7_read_X7_errorPosition : GoodIn wsX7_read wsX7_errorPosition := goodIn_ca (goodIn_2 ck_wsX7_read [(1, 8), (1, 1), (1, 9), (1, 10), (1, 3), (1, 11), (1, 12), (1, 13), (1, 7), (1, 14), (1, 2), (1, 15), (1, 16), (1, 17), (1, 18), (1, 19), (1, 20), (1, 21), (1, 22), (1, 23), (2, 0), (2, 1), (2, 2), (2, 3), (2, 4), (2, 5), (2, 6), (2, 7), (2, 8), (2, 9), (2, 10), (2, 11), (2, 12), (2, 13), (2, 14), (2, 15), (2, 16), (2, 17), (2, 18)] ck_wsX7_read_m ck_wsX7_read_g rfl) (goodIn_b (fun _ h => (List.mem_cons_of_mem _ (List.mem_append_right _ h))) ck_wsX7_read_g)
set_option maxRecDepth 20000 in
theorem gX7_read_X7_errorPosition : GoodIn wsX7_read (wsV RX7 173 RX7 yX7_errorPosition wsX7_errorPosition) := goodIn_app (goodIn_of _ (by decide +kernel)) ggX7_read_X7_errorPosition
set_option maxRecDepth 100000 in
theorem ggX7_read_X7_record : GoodIn wsX7_read wsX7_record := goodIn_ca (goodIn_2 ck_wsX7_read [(2, 22), (2, 23), (3, 0), (1, 0)] ck_wsX7_read_m ck_wsX7_read_g rfl) (goodIn_b (fun _ h => (List.mem_cons_of_mem _ (List.mem_append_right _ h))) ck_wsX7_read_g)
set_option maxRecDepth 20000 in
theorem gX7_read_X7_record : GoodIn wsX7_read (wsV RX7 37 RX7 yX7_record wsX7_record) := goodIn_app (goodIn_of _ (by decide +kernel)) ggX7_read_X7_record
set_option maxRecDepth 100000 in
theorem ggX7_read_X7_adds : GoodIn wsX7_read wsX7_adds := goodIn_ca (goodIn_2 ck_wsX7_read [(3, 4), (1, 0), (3, 5), (3, 6), (3, 7), (1, 7), (3, 8), (3, 9), (3, 10), (3, 11), (3, 12), (3, 13), (3, 14), (3, 15), (3, 16), (3, 17), (3, 18), (3, 19), (3, 20), (3, 21), (3, 22), (3, 23), (4, 0)] ck_wsX7_read_m ck_wsX7_read_g rfl) (goodIn_b (fun _ h => (List.mem_cons_of_mem _ (List.mem_append_right _ h))) ck_wsX7_read_g)
set_option maxRecDepth 20000 in
theorem gX7_read_X7_adds : GoodIn wsX7_read (wsV RX7 68 RX7 yX7_adds wsX7_adds) := goodIn_app (goodIn_of _ (by decide +kernel)) ggX7_read_X7_adds
theorem dX7_read_0 : decode cX7_read 0 = .ok (.aload_n 0, 1) := by decide +kernel
theorem dX7_read_1 : decode cX7_read 1 = .ok (.invokevirtual 173, 3) := by decide +kernel
theorem dX7_read_4 : decode cX7_read 4 = .ok (.bipush (-6), 2) := by decide +kernel
theorem dX7_read_6 : decode cX7_read 6 = .ok (.if_icmp .eq 6, 3) := by decide +kernel
theorem dX7_read_9 : decode cX7_read 9 = .ok (.bipush (-5), 2) := by decide +kernel
theorem dX7_read_11 : decode cX7_read 11 = .ok (.ireturn, 1) := by decide +kernel
theorem dX7_read_12 : decode cX7_read 12 = .ok (.aload_n 0, 1) := by decide +kernel
theorem dX7_read_13 : decode cX7_read 13 = .ok (.getfield 7, 3) := by decide +kernel
theorem dX7_read_16 : decode cX7_read 16 = .ok (.iconst 2, 1) := by decide +kernel
theorem dX7_read_17 : decode cX7_read 17 = .ok (.iaload, 1) := by decide +kernel
theorem dX7_read_18 : decode cX7_read 18 = .ok (.ifCond .ne 6, 3) := by decide +kernel
theorem dX7_read_21 : decode cX7_read 21 = .ok (.bipush (-3), 2) := by decide +kernel
theorem dX7_read_23 : decode cX7_read 23 = .ok (.ireturn, 1) := by decide +kernel
theorem dX7_read_24 : decode cX7_read 24 = .ok (.aload_n 0, 1) := by decide +kernel
theorem dX7_read_25 : decode cX7_read 25 = .ok (.invokevirtual 37, 3) := by decide +kernel
theorem dX7_read_28 : decode cX7_read 28 = .ok (.aload_n 0, 1) := by decide +kernel
theorem dX7_read_29 : decode cX7_read 29 = .ok (.getfield 7, 3) := by decide +kernel
theorem dX7_read_32 : decode cX7_read 32 = .ok (.iconst 3, 1) := by decide +kernel
theorem dX7_read_33 : decode cX7_read 33 = .ok (.iaload, 1) := by decide +kernel
theorem dX7_read_34 : decode cX7_read 34 = .ok (.istore_n 1, 1) := by decide +kernel
theorem dX7_read_35 : decode cX7_read 35 = .ok (.iconst 0, 1) := by decide +kernel
theorem dX7_read_36 : decode cX7_read 36 = .ok (.istore_n 2, 1) := by decide +kernel
theorem dX7_read_37 : decode cX7_read 37 = .ok (.iload_n 2, 1) := by decide +kernel
theorem dX7_read_38 : decode cX7_read 38 = .ok (.aload_n 0, 1) := by decide +kernel
theorem dX7_read_39 : decode cX7_read 39 = .ok (.getfield 158, 3) := by decide +kernel
theorem dX7_read_42 : decode cX7_read 42 = .ok (.if_icmp .ge 68, 3) := by decide +kernel
theorem dX7_read_45 : decode cX7_read 45 = .ok (.iconst 0, 1) := by decide +kernel
theorem dX7_read_46 : decode cX7_read 46 = .ok (.istore_n 3, 1) := by decide +kernel
theorem dX7_read_47 : decode cX7_read 47 = .ok (.iload_n 3, 1) := by decide +kernel
theorem dX7_read_48 : decode cX7_read 48 = .ok (.aload_n 0, 1) := by decide +kernel
theorem dX7_read_49 : decode cX7_read 49 = .ok (.getfield 26, 3) := by decide +kernel
theorem dX7_read_52 : decode cX7_read 52 = .ok (.iconst 3, 1) := by decide +kernel
theorem dX7_read_53 : decode cX7_read 53 = .ok (.iload_n 2, 1) := by decide +kernel
theorem dX7_read_54 : decode cX7_read 54 = .ok (.imul, 1) := by decide +kernel
theorem dX7_read_55 : decode cX7_read 55 = .ok (.iconst 1, 1) := by decide +kernel
theorem dX7_read_56 : decode cX7_read 56 = .ok (.iadd, 1) := by decide +kernel
theorem dX7_read_57 : decode cX7_read 57 = .ok (.iaload, 1) := by decide +kernel
theorem dX7_read_58 : decode cX7_read 58 = .ok (.if_icmp .ge 46, 3) := by decide +kernel
theorem dX7_read_61 : decode cX7_read 61 = .ok (.aload_n 0, 1) := by decide +kernel
theorem dX7_read_62 : decode cX7_read 62 = .ok (.getfield 7, 3) := by decide +kernel
theorem dX7_read_65 : decode cX7_read 65 = .ok (.iconst 3, 1) := by decide +kernel
theorem dX7_read_66 : decode cX7_read 66 = .ok (.iaload, 1) := by decide +kernel
theorem dX7_read_67 : decode cX7_read 67 = .ok (.bipush 120, 2) := by decide +kernel
theorem dX7_read_69 : decode cX7_read 69 = .ok (.if_icmp .ge 35, 3) := by decide +kernel
theorem dX7_read_72 : decode cX7_read 72 = .ok (.aload_n 0, 1) := by decide +kernel
theorem dX7_read_73 : decode cX7_read 73 = .ok (.aload_n 0, 1) := by decide +kernel
theorem dX7_read_74 : decode cX7_read 74 = .ok (.getfield 26, 3) := by decide +kernel
theorem dX7_read_77 : decode cX7_read 77 = .ok (.iconst 3, 1) := by decide +kernel
theorem dX7_read_78 : decode cX7_read 78 = .ok (.iload_n 2, 1) := by decide +kernel
theorem dX7_read_79 : decode cX7_read 79 = .ok (.imul, 1) := by decide +kernel
theorem dX7_read_80 : decode cX7_read 80 = .ok (.iaload, 1) := by decide +kernel
theorem dX7_read_81 : decode cX7_read 81 = .ok (.iload_n 3, 1) := by decide +kernel
theorem dX7_read_82 : decode cX7_read 82 = .ok (.aload_n 0, 1) := by decide +kernel
theorem dX7_read_83 : decode cX7_read 83 = .ok (.getfield 26, 3) := by decide +kernel
theorem dX7_read_86 : decode cX7_read 86 = .ok (.iconst 3, 1) := by decide +kernel
theorem dX7_read_87 : decode cX7_read 87 = .ok (.iload_n 2, 1) := by decide +kernel
theorem dX7_read_88 : decode cX7_read 88 = .ok (.imul, 1) := by decide +kernel
theorem dX7_read_89 : decode cX7_read 89 = .ok (.iconst 2, 1) := by decide +kernel
theorem dX7_read_90 : decode cX7_read 90 = .ok (.iadd, 1) := by decide +kernel
theorem dX7_read_91 : decode cX7_read 91 = .ok (.iaload, 1) := by decide +kernel
theorem dX7_read_92 : decode cX7_read 92 = .ok (.imul, 1) := by decide +kernel
theorem dX7_read_93 : decode cX7_read 93 = .ok (.iadd, 1) := by decide +kernel
theorem dX7_read_94 : decode cX7_read 94 = .ok (.invokevirtual 68, 3) := by decide +kernel
theorem dX7_read_97 : decode cX7_read 97 = .ok (.pop, 1) := by decide +kernel
theorem dX7_read_98 : decode cX7_read 98 = .ok (.iinc 3 1, 3) := by decide +kernel
theorem dX7_read_101 : decode cX7_read 101 = .ok (.goto (-54), 3) := by decide +kernel
theorem dX7_read_104 : decode cX7_read 104 = .ok (.iinc 2 1, 3) := by decide +kernel
theorem dX7_read_107 : decode cX7_read 107 = .ok (.goto (-70), 3) := by decide +kernel
theorem dX7_read_110 : decode cX7_read 110 = .ok (.aload_n 0, 1) := by decide +kernel
theorem dX7_read_111 : decode cX7_read 111 = .ok (.iconst 0, 1) := by decide +kernel
theorem dX7_read_112 : decode cX7_read 112 = .ok (.putfield 139, 3) := by decide +kernel
theorem dX7_read_115 : decode cX7_read 115 = .ok (.aload_n 0, 1) := by decide +kernel
theorem dX7_read_116 : decode cX7_read 116 = .ok (.getfield 7, 3) := by decide +kernel
theorem dX7_read_119 : decode cX7_read 119 = .ok (.iconst 3, 1) := by decide +kernel
theorem dX7_read_120 : decode cX7_read 120 = .ok (.iaload, 1) := by decide +kernel
theorem dX7_read_121 : decode cX7_read 121 = .ok (.iload_n 1, 1) := by decide +kernel
theorem dX7_read_122 : decode cX7_read 122 = .ok (.isub, 1) := by decide +kernel
theorem dX7_read_123 : decode cX7_read 123 = .ok (.ireturn, 1) := by decide +kernel
theorem dJ9_floorMod_7cf53_0 : decode cJ9_floorMod_7cf53 0 = .ok (.iload_n 0, 1) := by decide +kernel
theorem dJ9_floorMod_7cf53_1 : decode cJ9_floorMod_7cf53 1 = .ok (.iload_n 1, 1) := by decide +kernel
theorem dJ9_floorMod_7cf53_2 : decode cJ9_floorMod_7cf53 2 = .ok (.irem, 1) := by decide +kernel
theorem dJ9_floorMod_7cf53_3 : decode cJ9_floorMod_7cf53 3 = .ok (.istore_n 2, 1) := by decide +kernel
theorem dJ9_floorMod_7cf53_4 : decode cJ9_floorMod_7cf53 4 = .ok (.iload_n 0, 1) := by decide +kernel
theorem dJ9_floorMod_7cf53_5 : decode cJ9_floorMod_7cf53 5 = .ok (.iload_n 1, 1) := by decide +kernel
theorem dJ9_floorMod_7cf53_6 : decode cJ9_floorMod_7cf53 6 = .ok (.ixor, 1) := by decide +kernel
theorem dJ9_floorMod_7cf53_7 : decode cJ9_floorMod_7cf53 7 = .ok (.ifCond .ge 11, 3) := by decide +kernel
theorem dJ9_floorMod_7cf53_10 : decode cJ9_floorMod_7cf53 10 = .ok (.iload_n 2, 1) := by decide +kernel
theorem dJ9_floorMod_7cf53_11 : decode cJ9_floorMod_7cf53 11 = .ok (.ifCond .eq 7, 3) := by decide +kernel
theorem dJ9_floorMod_7cf53_14 : decode cJ9_floorMod_7cf53 14 = .ok (.iload_n 2, 1) := by decide +kernel
theorem dJ9_floorMod_7cf53_15 : decode cJ9_floorMod_7cf53 15 = .ok (.iload_n 1, 1) := by decide +kernel
theorem dJ9_floorMod_7cf53_16 : decode cJ9_floorMod_7cf53 16 = .ok (.iadd, 1) := by decide +kernel
theorem dJ9_floorMod_7cf53_17 : decode cJ9_floorMod_7cf53 17 = .ok (.ireturn, 1) := by decide +kernel
theorem dJ9_floorMod_7cf53_18 : decode cJ9_floorMod_7cf53 18 = .ok (.iload_n 2, 1) := by decide +kernel
theorem dJ9_floorMod_7cf53_19 : decode cJ9_floorMod_7cf53 19 = .ok (.ireturn, 1) := by decide +kernel
theorem dJ9_min_7cf53_0 : decode cJ9_min_7cf53 0 = .ok (.iload_n 0, 1) := by decide +kernel
theorem dJ9_min_7cf53_1 : decode cJ9_min_7cf53 1 = .ok (.iload_n 1, 1) := by decide +kernel
theorem dJ9_min_7cf53_2 : decode cJ9_min_7cf53 2 = .ok (.if_icmp .gt 7, 3) := by decide +kernel
theorem dJ9_min_7cf53_5 : decode cJ9_min_7cf53 5 = .ok (.iload_n 0, 1) := by decide +kernel
theorem dJ9_min_7cf53_6 : decode cJ9_min_7cf53 6 = .ok (.goto 4, 3) := by decide +kernel
theorem dJ9_min_7cf53_9 : decode cJ9_min_7cf53 9 = .ok (.iload_n 1, 1) := by decide +kernel
theorem dJ9_min_7cf53_10 : decode cJ9_min_7cf53 10 = .ok (.ireturn, 1) := by decide +kernel
def ck_wsL_law : List (List Cond) := [wsL_law_r1, wsL_law_r2, wsL_law_r3, wsL_law_r4, wsL_law_r5, wsL_law_r6, wsL_law_r7, wsL_law_r8, wsL_law_r9, wsL_law_r10, wsL_law_r11, wsL_law_r12, wsL_law_r13, wsL_law_r14, wsL_law_r15, wsL_law_r16, wsL_law_r17, wsL_law_r18, wsL_law_r19, wsL_law_r20, wsL_law_r21, wsL_law_r22, wsL_law_r23, wsL_law_r24, wsL_law_r25, wsL_law_r26, wsL_law_r27, wsL_law_r28, wsL_law_r29, wsL_law_r30, wsL_law_r31, wsL_law_r32, wsL_law_r33, wsL_law_r34, wsL_law_r35, wsL_law_r36]
theorem ck_wsL_law_m : ∀ c ∈ ck_wsL_law, ∀ w ∈ c, w ∈ wsL_law := List.forall_mem_cons.mpr ⟨fun _ h => (List.mem_append_left _ (List.mem_append_left _ (List.mem_append_left _ (List.mem_append_left _ (List.mem_append_left _ (List.mem_append_left _ (List.mem_append_left _ (List.mem_append_left _ (List.mem_append_left _ (List.mem_append_left _ h)))))))))), List.forall_mem_cons.mpr ⟨fun _ h => (List.mem_append_left _ (List.mem_append_left _ (List.mem_append_left _ (List.mem_append_left _ (List.mem_append_left _ (List.mem_append_left _ (List.mem_append_left _ (List.mem_append_left _ (List.mem_append_left _ (List.mem_append_right _ (List.mem_append_left _ h))))))))))), List.forall_mem_cons.mpr ⟨fun _ h => (List.mem_append_left _ (List.mem_append_left _ (List.mem_append_left _ (List.mem_append_left _ (List.mem_append_left _ (List.mem_append_left _ (List.mem_append_left _ (List.mem_append_left _ (List.mem_append_left _ (List.mem_append_right _ (List.mem_append_right _ (List.mem_append_left _ h)))))))))))), List.forall_mem_cons.mpr ⟨fun _ h => (List.mem_append_left _ (List.mem_append_left _ (List.mem_append_left _ (List.mem_append_left _ (List.mem_append_left _ (List.mem_append_left _ (List.mem_append_left _ (List.mem_append_left _ (List.mem_append_left _ (List.mem_append_right _ (List.mem_append_right _ (List.mem_append_right _ (List.mem_append_left _ h))))))))))))), List.forall_mem_cons.mpr ⟨fun _ h => (List.mem_append_left _ (List.mem_append_left _ (List.mem_append_left _ (List.mem_append_left _ (List.mem_append_left _ (List.mem_append_left _ (List.mem_append_left _ (List.mem_append_left _ (List.mem_append_left _ (List.mem_append_right _ (List.mem_append_right _ (List.mem_append_right _ (List.mem_append_right _ (List.mem_append_left _ h)))))))))))))), List.forall_mem_cons.mpr ⟨fun _ h => (List.mem_append_left _ (List.mem_append_left _ (List.mem_append_left _ (List.mem_append_left _ (List.mem_append_left _ (List.mem_append_left _ (List.mem_append_left _ (List.mem_append_left _ (List.mem_append_left _ (List.mem_append_right _ (List.mem_append_right _ (List.mem_append_right _ (List.mem_append_right _ (List.mem_append_right _ (List.mem_append_left _ h))))))))))))))), List.forall_mem_cons.mpr ⟨fun _ h => (List.mem_append_left _ (List.mem_append_left _ (List.mem_append_left _ (List.mem_append_left _ (List.mem_append_left _ (List.mem_append_left _ (List.mem_append_left _ (List.mem_append_left _ (List.mem_append_left _ (List.mem_append_right _ (List.mem_append_right _ (List.mem_append_right _ (List.mem_append_right _ (List.mem_append_right _ (List.mem_append_right _ (List.mem_append_left _ h)))))))))))))))), List.forall_mem_cons.mpr ⟨fun _ h => (List.mem_append_left _ (List.mem_append_left _ (List.mem_append_left _ (List.mem_append_left _ (List.mem_append_left _ (List.mem_append_left _ (List.mem_append_left _ (List.mem_append_left _ (List.mem_append_left _ (List.mem_append_right _ (List.mem_append_right _ (List.mem_append_right _ (List.mem_append_right _ (List.mem_append_right _ (List.mem_append_right _ (List.mem_append_right _ (List.mem_append_left _ h))))))))))))))))), List.forall_mem_cons.mpr ⟨fun _ h => (List.mem_append_left _ (List.mem_append_left _ (List.mem_append_left _ (List.mem_append_left _ (List.mem_append_left _ (List.mem_append_left _ (List.mem_append_left _ (List.mem_append_left _ (List.mem_append_left _ (List.mem_append_right _ (List.mem_append_right _ (List.mem_append_right _ (List.mem_append_right _ (List.mem_append_right _ (List.mem_append_right _ (List.mem_append_right _ (List.mem_append_right _ (List.mem_append_left _ h)))))))))))))))))), List.forall_mem_cons.mpr ⟨fun _ h => (List.mem_append_left _ (List.mem_append_left _ (List.mem_append_left _ (List.mem_append_left _ (List.mem_append_left _ (List.mem_append_left _ (List.mem_append_left _ (List.mem_append_left _ (List.mem_append_left _ (List.mem_append_right _ (List.mem_append_right _ (List.mem_append_right _ (List.mem_append_right _ (List.mem_append_right _ (List.mem_append_right _ (List.mem_append_right _ (List.mem_append_right _ (List.mem_append_right _ (List.mem_append_left _ h))))))))))))))))))), List.forall_mem_cons.mpr ⟨fun _ h => (List.mem_append_left _ (List.mem_append_left _ (List.mem_append_left _ (List.mem_append_left _ (List.mem_append_left _ (List.mem_append_left _ (List.mem_append_left _ (List.mem_append_left _ (List.mem_append_left _ (List.mem_append_right _ (List.mem_append_right _ (List.mem_append_right _ (List.mem_append_right _ (List.mem_append_right _ (List.mem_append_right _ (List.mem_append_right _ (List.mem_append_right _ (List.mem_append_right _ (List.mem_append_right _ (List.mem_append_left _ h)))))))))))))))))))), List.forall_mem_cons.mpr ⟨fun _ h => (List.mem_append_left _ (List.mem_append_left _ (List.mem_append_left _ (List.mem_append_left _ (List.mem_append_left _ (List.mem_append_left _ (List.mem_append_left _ (List.mem_append_left _ (List.mem_append_left _ (List.mem_append_right _ (List.mem_append_right _ (List.mem_append_right _ (List.mem_append_right _ (List.mem_append_right _ (List.mem_append_right _ (List.mem_append_right _ (List.mem_append_right _ (List.mem_append_right _ (List.mem_append_right _ (List.mem_append_right _ (List.mem_append_left _ h))))))))))))))))))))), List.forall_mem_cons.mpr ⟨fun _ h => (List.mem_append_left _ (List.mem_append_left _ (List.mem_append_left _ (List.mem_append_left _ (List.mem_append_left _ (List.mem_append_left _ (List.mem_append_left _ (List.mem_append_left _ (List.mem_append_left _ (List.mem_append_right _ (List.mem_append_right _ (List.mem_append_right _ (List.mem_append_right _ (List.mem_append_right _ (List.mem_append_right _ (List.mem_append_right _ (List.mem_append_right _ (List.mem_append_right _ (List.mem_append_right _ (List.mem_append_right _ (List.mem_append_right _ (List.mem_append_left _ h)))))))))))))))))))))), List.forall_mem_cons.mpr ⟨fun _ h => (List.mem_append_left _ (List.mem_append_left _ (List.mem_append_left _ (List.mem_append_left _ (List.mem_append_left _ (List.mem_append_left _ (List.mem_append_left _ (List.mem_append_left _ (List.mem_append_left _ (List.mem_append_right _ (List.mem_append_right _ (List.mem_append_right _ (List.mem_append_right _ (List.mem_append_right _ (List.mem_append_right _ (List.mem_append_right _ (List.mem_append_right _ (List.mem_append_right _ (List.mem_append_right _ (List.mem_append_right _ (List.mem_append_right _ (List.mem_append_right _ (List.mem_append_left _ h))))))))))))))))))))))), List.forall_mem_cons.mpr ⟨fun _ h => (List.mem_append_left _ (List.mem_append_left _ (List.mem_append_left _ (List.mem_append_left _ (List.mem_append_left _ (List.mem_append_left _ (List.mem_append_left _ (List.mem_append_left _ (List.mem_append_left _ (List.mem_append_right _ (List.mem_append_right _ (List.mem_append_right _ (List.mem_append_right _ (List.mem_append_right _ (List.mem_append_right _ (List.mem_append_right _ (List.mem_append_right _ (List.mem_append_right _ (List.mem_append_right _ (List.mem_append_right _ (List.mem_append_right _ (List.mem_append_right _ (List.mem_append_right _ (List.mem_append_left _ h)))))))))))))))))))))))), List.forall_mem_cons.mpr ⟨fun _ h => (List.mem_append_left _ (List.mem_append_left _ (List.mem_append_left _ (List.mem_append_left _ (List.mem_append_left _ (List.mem_append_left _ (List.mem_append_left _ (List.mem_append_left _ (List.mem_append_left _ (List.mem_append_right _ (List.mem_append_right _ (List.mem_append_right _ (List.mem_append_right _ (List.mem_append_right _ (List.mem_append_right _ (List.mem_append_right _ (List.mem_append_right _ (List.mem_append_right _ (List.mem_append_right _ (List.mem_append_right _ (List.mem_append_right _ (List.mem_append_right _ (List.mem_append_right _ (List.mem_append_right _ (List.mem_append_left _ h))))))))))))))))))))))))), List.forall_mem_cons.mpr ⟨fun _ h => (List.mem_append_left _ (List.mem_append_left _ (List.mem_append_left _ (List.mem_append_left _ (List.mem_append_left _ (List.mem_append_left _ (List.mem_append_left _ (List.mem_append_left _ (List.mem_append_left _ (List.mem_append_right _ (List.mem_append_right _ (List.mem_append_right _ (List.mem_append_right _ (List.mem_append_right _ (List.mem_append_right _ (List.mem_append_right _ (List.mem_append_right _ (List.mem_append_right _ (List.mem_append_right _ (List.mem_append_right _ (List.mem_append_right _ (List.mem_append_right _ (List.mem_append_right _ (List.mem_append_right _ (List.mem_append_right _ (List.mem_append_left _ h)))))))))))))))))))))))))), List.forall_mem_cons.mpr ⟨fun _ h => (List.mem_append_left _ (List.mem_append_left _ (List.mem_append_left _ (List.mem_append_left _ (List.mem_append_left _ (List.mem_append_left _ (List.mem_append_left _ (List.mem_append_left _ (List.mem_append_left _ (List.mem_append_right _ (List.mem_append_right _ (List.mem_append_right _ (List.mem_append_right _ (List.mem_append_right _ (List.mem_append_right _ (List.mem_append_right _ (List.mem_append_right _ (List.mem_append_right _ (List.mem_append_right _ (List.mem_append_right _ (List.mem_append_right _ (List.mem_append_right _ (List.mem_append_right _ (List.mem_append_right _ (List.mem_append_right _ (List.mem_append_right _ (List.mem_append_left _ h))))))))))))))))))))))))))), List.forall_mem_cons.mpr ⟨fun _ h => (List.mem_append_left _ (List.mem_append_left _ (List.mem_append_left _ (List.mem_append_left _ (List.mem_append_left _ (List.mem_append_left _ (List.mem_append_left _ (List.mem_append_left _ (List.mem_append_left _ (List.mem_append_right _ (List.mem_append_right _ (List.mem_append_right _ (List.mem_append_right _ (List.mem_append_right _ (List.mem_append_right _ (List.mem_append_right _ (List.mem_append_right _ (List.mem_append_right _ (List.mem_append_right _ (List.mem_append_right _ (List.mem_append_right _ (List.mem_append_right _ (List.mem_append_right _ (List.mem_append_right _ (List.mem_append_right _ (List.mem_append_right _ (List.mem_append_right _ (List.mem_append_left _ h)))))))))))))))))))))))))))), List.forall_mem_cons.mpr ⟨fun _ h => (List.mem_append_left _ (List.mem_append_left _ (List.mem_append_left _ (List.mem_append_left _ (List.mem_append_left _ (List.mem_append_left _ (List.mem_append_left _ (List.mem_append_left _ (List.mem_append_left _ (List.mem_append_right _ (List.mem_append_right _ (List.mem_append_right _ (List.mem_append_right _ (List.mem_append_right _ (List.mem_append_right _ (List.mem_append_right _ (List.mem_append_right _ (List.mem_append_right _ (List.mem_append_right _ (List.mem_append_right _ (List.mem_append_right _ (List.mem_append_right _ (List.mem_append_right _ (List.mem_append_right _ (List.mem_append_right _ (List.mem_append_right _ (List.mem_append_right _ (List.mem_append_right _ (List.mem_append_left _ h))))))))))))))))))))))))))))), List.forall_mem_cons.mpr ⟨fun _ h => (List.mem_append_left _ (List.mem_append_left _ (List.mem_append_left _ (List.mem_append_left _ (List.mem_append_left _ (List.mem_append_left _ (List.mem_append_left _ (List.mem_append_left _ (List.mem_append_left _ (List.mem_append_right _ (List.mem_append_right _ (List.mem_append_right _ (List.mem_append_right _ (List.mem_append_right _ (List.mem_append_right _ (List.mem_append_right _ (List.mem_append_right _ (List.mem_append_right _ (List.mem_append_right _ (List.mem_append_right _ (List.mem_append_right _ (List.mem_append_right _ (List.mem_append_right _ (List.mem_append_right _ (List.mem_append_right _ (List.mem_append_right _ (List.mem_append_right _ (List.mem_append_right _ (List.mem_append_right _ (List.mem_append_left _ h)))))))))))))))))))))))))))))), List.forall_mem_cons.mpr ⟨fun _ h => (List.mem_append_left _ (List.mem_append_left _ (List.mem_append_left _ (List.mem_append_left _ (List.mem_append_left _ (List.mem_append_left _ (List.mem_append_left _ (List.mem_append_left _ (List.mem_append_left _ (List.mem_append_right _ (List.mem_append_right _ (List.mem_append_right _ (List.mem_append_right _ (List.mem_append_right _ (List.mem_append_right _ (List.mem_append_right _ (List.mem_append_right _ (List.mem_append_right _ (List.mem_append_right _ (List.mem_append_right _ (List.mem_append_right _ (List.mem_append_right _ (List.mem_append_right _ (List.mem_append_right _ (List.mem_append_right _ (List.mem_append_right _ (List.mem_append_right _ (List.mem_append_right _ (List.mem_append_right _ (List.mem_append_right _ (List.mem_append_left _ h))))))))))))))))))))))))))))))), List.forall_mem_cons.mpr ⟨fun _ h => (List.mem_append_left _ (List.mem_append_left _ (List.mem_append_left _ (List.mem_append_left _ (List.mem_append_left _ (List.mem_append_left _ (List.mem_append_left _ (List.mem_append_left _ (List.mem_append_left _ (List.mem_append_right _ (List.mem_append_right _ (List.mem_append_right _ (List.mem_append_right _ (List.mem_append_right _ (List.mem_append_right _ (List.mem_append_right _ (List.mem_append_right _ (List.mem_append_right _ (List.mem_append_right _ (List.mem_append_right _ (List.mem_append_right _ (List.mem_append_right _ (List.mem_append_right _ (List.mem_append_right _ (List.mem_append_right _ (List.mem_append_right _ (List.mem_append_right _ (List.mem_append_right _ (List.mem_append_right _ (List.mem_append_right _ (List.mem_append_right _ (List.mem_append_left _ h)))))))))))))))))))))))))))))))), List.forall_mem_cons.mpr ⟨fun _ h => (List.mem_append_left _ (List.mem_append_left _ (List.mem_append_left _ (List.mem_append_left _ (List.mem_append_left _ (List.mem_append_left _ (List.mem_append_left _ (List.mem_append_left _ (List.mem_append_left _ (List.mem_append_right _ (List.mem_append_right _ (List.mem_append_right _ (List.mem_append_right _ (List.mem_append_right _ (List.mem_append_right _ (List.mem_append_right _ (List.mem_append_right _ (List.mem_append_right _ (List.mem_append_right _ (List.mem_append_right _ (List.mem_append_right _ (List.mem_append_right _ (List.mem_append_right _ (List.mem_append_right _ (List.mem_append_right _ (List.mem_append_right _ (List.mem_append_right _ (List.mem_append_right _ (List.mem_append_right _ (List.mem_append_right _ (List.mem_append_right _ (List.mem_append_right _ (List.mem_append_left _ h))))))))))))))))))))))))))))))))), List.forall_mem_cons.mpr ⟨fun _ h => (List.mem_append_left _ (List.mem_append_left _ (List.mem_append_left _ (List.mem_append_left _ (List.mem_append_left _ (List.mem_append_left _ (List.mem_append_left _ (List.mem_append_left _ (List.mem_append_left _ (List.mem_append_right _ (List.mem_append_right _ (List.mem_append_right _ (List.mem_append_right _ (List.mem_append_right _ (List.mem_append_right _ (List.mem_append_right _ (List.mem_append_right _ (List.mem_append_right _ (List.mem_append_right _ (List.mem_append_right _ (List.mem_append_right _ (List.mem_append_right _ (List.mem_append_right _ (List.mem_append_right _ (List.mem_append_right _ (List.mem_append_right _ (List.mem_append_right _ (List.mem_append_right _ (List.mem_append_right _ (List.mem_append_right _ (List.mem_append_right _ (List.mem_append_right _ (List.mem_append_right _ (List.mem_append_left _ h)))))))))))))))))))))))))))))))))), List.forall_mem_cons.mpr ⟨fun _ h => (List.mem_append_left _ (List.mem_append_left _ (List.mem_append_left _ (List.mem_append_left _ (List.mem_append_left _ (List.mem_append_left _ (List.mem_append_left _ (List.mem_append_left _ (List.mem_append_left _ (List.mem_append_right _ (List.mem_append_right _ (List.mem_append_right _ (List.mem_append_right _ (List.mem_append_right _ (List.mem_append_right _ (List.mem_append_right _ (List.mem_append_right _ (List.mem_append_right _ (List.mem_append_right _ (List.mem_append_right _ (List.mem_append_right _ (List.mem_append_right _ (List.mem_append_right _ (List.mem_append_right _ (List.mem_append_right _ (List.mem_append_right _ (List.mem_append_right _ (List.mem_append_right _ (List.mem_append_right _ (List.mem_append_right _ (List.mem_append_right _ (List.mem_append_right _ (List.mem_append_right _ (List.mem_append_right _ (List.mem_append_left _ h))))))))))))))))))))))))))))))))))), List.forall_mem_cons.mpr ⟨fun _ h => (List.mem_append_left _ (List.mem_append_left _ (List.mem_append_left _ (List.mem_append_left _ (List.mem_append_left _ (List.mem_append_left _ (List.mem_append_left _ (List.mem_append_left _ (List.mem_append_left _ (List.mem_append_right _ (List.mem_append_right _ (List.mem_append_right _ (List.mem_append_right _ (List.mem_append_right _ (List.mem_append_right _ (List.mem_append_right _ (List.mem_append_right _ (List.mem_append_right _ (List.mem_append_right _ (List.mem_append_right _ (List.mem_append_right _ (List.mem_append_right _ (List.mem_append_right _ (List.mem_append_right _ (List.mem_append_right _ (List.mem_append_right _ (List.mem_append_right _ (List.mem_append_right _ (List.mem_append_right _ (List.mem_append_right _ (List.mem_append_right _ (List.mem_append_right _ (List.mem_append_right _ (List.mem_append_right _ (List.mem_append_right _ (List.mem_append_left _ h)))))))))))))))))))))))))))))))))))), List.forall_mem_cons.mpr ⟨fun _ h => (List.mem_append_left _ (List.mem_append_left _ (List.mem_append_left _ (List.mem_append_left _ (List.mem_append_left _ (List.mem_append_left _ (List.mem_append_left _ (List.mem_append_left _ (List.mem_append_left _ (List.mem_append_right _ (List.mem_append_right _ (List.mem_append_right _ (List.mem_append_right _ (List.mem_append_right _ (List.mem_append_right _ (List.mem_append_right _ (List.mem_append_right _ (List.mem_append_right _ (List.mem_append_right _ (List.mem_append_right _ (List.mem_append_right _ (List.mem_append_right _ (List.mem_append_right _ (List.mem_append_right _ (List.mem_append_right _ (List.mem_append_right _ (List.mem_append_right _ (List.mem_append_right _ (List.mem_append_right _ (List.mem_append_right _ (List.mem_append_right _ (List.mem_append_right _ (List.mem_append_right _ (List.mem_append_right _ (List.mem_append_right _ (List.mem_append_right _ (List.mem_append_left _ h))))))))))))))))))))))))))))))))))))), List.forall_mem_cons.mpr ⟨fun _ h => (List.mem_append_left _ (List.mem_append_left _ (List.mem_append_left _ (List.mem_append_left _ (List.mem_append_left _ (List.mem_append_left _ (List.mem_append_left _ (List.mem_append_left _ (List.mem_append_left _ (List.mem_append_right _ (List.mem_append_right _ (List.mem_append_right _ (List.mem_append_right _ (List.mem_append_right _ (List.mem_append_right _ (List.mem_append_right _ (List.mem_append_right _ (List.mem_append_right _ (List.mem_append_right _ (List.mem_append_right _ (List.mem_append_right _ (List.mem_append_right _ (List.mem_append_right _ (List.mem_append_right _ (List.mem_append_right _ (List.mem_append_right _ (List.mem_append_right _ (List.mem_append_right _ (List.mem_append_right _ (List.mem_append_right _ (List.mem_append_right _ (List.mem_append_right _ (List.mem_append_right _ (List.mem_append_right _ (List.mem_append_right _ (List.mem_append_right _ (List.mem_append_right _ (List.mem_append_left _ h)))))))))))))))))))))))))))))))))))))), List.forall_mem_cons.mpr ⟨fun _ h => (List.mem_append_left _ (List.mem_append_left _ (List.mem_append_left _ (List.mem_append_left _ (List.mem_append_left _ (List.mem_append_left _ (List.mem_append_left _ (List.mem_append_left _ (List.mem_append_left _ (List.mem_append_right _ (List.mem_append_right _ (List.mem_append_right _ (List.mem_append_right _ (List.mem_append_right _ (List.mem_append_right _ (List.mem_append_right _ (List.mem_append_right _ (List.mem_append_right _ (List.mem_append_right _ (List.mem_append_right _ (List.mem_append_right _ (List.mem_append_right _ (List.mem_append_right _ (List.mem_append_right _ (List.mem_append_right _ (List.mem_append_right _ (List.mem_append_right _ (List.mem_append_right _ (List.mem_append_right _ (List.mem_append_right _ (List.mem_append_right _ (List.mem_append_right _ (List.mem_append_right _ (List.mem_append_right _ (List.mem_append_right _ (List.mem_append_right _ (List.mem_append_right _ (List.mem_append_right _ (List.mem_append_left _ h))))))))))))))))))))))))))))))))))))))), List.forall_mem_cons.mpr ⟨fun _ h => (List.mem_append_left _ (List.mem_append_left _ (List.mem_append_left _ (List.mem_append_left _ (List.mem_append_left _ (List.mem_append_left _ (List.mem_append_left _ (List.mem_append_left _ (List.mem_append_left _ (List.mem_append_right _ (List.mem_append_right _ (List.mem_append_right _ (List.mem_append_right _ (List.mem_append_right _ (List.mem_append_right _ (List.mem_append_right _ (List.mem_append_right _ (List.mem_append_right _ (List.mem_append_right _ (List.mem_append_right _ (List.mem_append_right _ (List.mem_append_right _ (List.mem_append_right _ (List.mem_append_right _ (List.mem_append_right _ (List.mem_append_right _ (List.mem_append_right _ (List.mem_append_right _ (List.mem_append_right _ (List.mem_append_right _ (List.mem_append_right _ (List.mem_append_right _ (List.mem_append_right _ (List.mem_append_right _ (List.mem_append_right _ (List.mem_append_right _ (List.mem_append_right _ (List.mem_append_right _ (List.mem_append_right _ (List.mem_append_left _ h)))))))))))))))))))))))))))))))))))))))), List.forall_mem_cons.mpr ⟨fun _ h => (List.mem_append_left _ (List.mem_append_left _ (List.mem_append_left _ (List.mem_append_left _ (List.mem_append_left _ (List.mem_append_left _ (List.mem_append_left _ (List.mem_append_left _ (List.mem_append_left _ (List.mem_append_right _ (List.mem_append_right _ (List.mem_append_right _ (List.mem_append_right _ (List.mem_append_right _ (List.mem_append_right _ (List.mem_append_right _ (List.mem_append_right _ (List.mem_append_right _ (List.mem_append_right _ (List.mem_append_right _ (List.mem_append_right _ (List.mem_append_right _ (List.mem_append_right _ (List.mem_append_right _ (List.mem_append_right _ (List.mem_append_right _ (List.mem_append_right _ (List.mem_append_right _ (List.mem_append_right _ (List.mem_append_right _ (List.mem_append_right _ (List.mem_append_right _ (List.mem_append_right _ (List.mem_append_right _ (List.mem_append_right _ (List.mem_append_right _ (List.mem_append_right _ (List.mem_append_right _ (List.mem_append_right _ (List.mem_append_right _ (List.mem_append_left _ h))))))))))))))))))))))))))))))))))))))))), List.forall_mem_cons.mpr ⟨fun _ h => (List.mem_append_left _ (List.mem_append_left _ (List.mem_append_left _ (List.mem_append_left _ (List.mem_append_left _ (List.mem_append_left _ (List.mem_append_left _ (List.mem_append_left _ (List.mem_append_left _ (List.mem_append_right _ (List.mem_append_right _ (List.mem_append_right _ (List.mem_append_right _ (List.mem_append_right _ (List.mem_append_right _ (List.mem_append_right _ (List.mem_append_right _ (List.mem_append_right _ (List.mem_append_right _ (List.mem_append_right _ (List.mem_append_right _ (List.mem_append_right _ (List.mem_append_right _ (List.mem_append_right _ (List.mem_append_right _ (List.mem_append_right _ (List.mem_append_right _ (List.mem_append_right _ (List.mem_append_right _ (List.mem_append_right _ (List.mem_append_right _ (List.mem_append_right _ (List.mem_append_right _ (List.mem_append_right _ (List.mem_append_right _ (List.mem_append_right _ (List.mem_append_right _ (List.mem_append_right _ (List.mem_append_right _ (List.mem_append_right _ (List.mem_append_right _ (List.mem_append_left _ h)))))))))))))))))))))))))))))))))))))))))), List.forall_mem_cons.mpr ⟨fun _ h => (List.mem_append_left _ (List.mem_append_left _ (List.mem_append_left _ (List.mem_append_left _ (List.mem_append_left _ (List.mem_append_left _ (List.mem_append_left _ (List.mem_append_left _ (List.mem_append_left _ (List.mem_append_right _ (List.mem_append_right _ (List.mem_append_right _ (List.mem_append_right _ (List.mem_append_right _ (List.mem_append_right _ (List.mem_append_right _ (List.mem_append_right _ (List.mem_append_right _ (List.mem_append_right _ (List.mem_append_right _ (List.mem_append_right _ (List.mem_append_right _ (List.mem_append_right _ (List.mem_append_right _ (List.mem_append_right _ (List.mem_append_right _ (List.mem_append_right _ (List.mem_append_right _ (List.mem_append_right _ (List.mem_append_right _ (List.mem_append_right _ (List.mem_append_right _ (List.mem_append_right _ (List.mem_append_right _ (List.mem_append_right _ (List.mem_append_right _ (List.mem_append_right _ (List.mem_append_right _ (List.mem_append_right _ (List.mem_append_right _ (List.mem_append_right _ (List.mem_append_right _ (List.mem_append_left _ h))))))))))))))))))))))))))))))))))))))))))), List.forall_mem_cons.mpr ⟨fun _ h => (List.mem_append_left _ (List.mem_append_left _ (List.mem_append_left _ (List.mem_append_left _ (List.mem_append_left _ (List.mem_append_left _ (List.mem_append_left _ (List.mem_append_left _ (List.mem_append_left _ (List.mem_append_right _ (List.mem_append_right _ (List.mem_append_right _ (List.mem_append_right _ (List.mem_append_right _ (List.mem_append_right _ (List.mem_append_right _ (List.mem_append_right _ (List.mem_append_right _ (List.mem_append_right _ (List.mem_append_right _ (List.mem_append_right _ (List.mem_append_right _ (List.mem_append_right _ (List.mem_append_right _ (List.mem_append_right _ (List.mem_append_right _ (List.mem_append_right _ (List.mem_append_right _ (List.mem_append_right _ (List.mem_append_right _ (List.mem_append_right _ (List.mem_append_right _ (List.mem_append_right _ (List.mem_append_right _ (List.mem_append_right _ (List.mem_append_right _ (List.mem_append_right _ (List.mem_append_right _ (List.mem_append_right _ (List.mem_append_right _ (List.mem_append_right _ (List.mem_append_right _ (List.mem_append_right _ (List.mem_append_left _ h)))))))))))))))))))))))))))))))))))))))))))), List.forall_mem_cons.mpr ⟨fun _ h => (List.mem_append_left _ (List.mem_append_left _ (List.mem_append_left _ (List.mem_append_left _ (List.mem_append_left _ (List.mem_append_left _ (List.mem_append_left _ (List.mem_append_left _ (List.mem_append_left _ (List.mem_append_right _ (List.mem_append_right _ (List.mem_append_right _ (List.mem_append_right _ (List.mem_append_right _ (List.mem_append_right _ (List.mem_append_right _ (List.mem_append_right _ (List.mem_append_right _ (List.mem_append_right _ (List.mem_append_right _ (List.mem_append_right _ (List.mem_append_right _ (List.mem_append_right _ (List.mem_append_right _ (List.mem_append_right _ (List.mem_append_right _ (List.mem_append_right _ (List.mem_append_right _ (List.mem_append_right _ (List.mem_append_right _ (List.mem_append_right _ (List.mem_append_right _ (List.mem_append_right _ (List.mem_append_right _ (List.mem_append_right _ (List.mem_append_right _ (List.mem_append_right _ (List.mem_append_right _ (List.mem_append_right _ (List.mem_append_right _ (List.mem_append_right _ (List.mem_append_right _ (List.mem_append_right _ (List.mem_append_right _ h)))))))))))))))))))))))))))))))))))))))))))), fun _ h => absurd h List.not_mem_nil⟩⟩⟩⟩⟩⟩⟩⟩⟩⟩⟩⟩⟩⟩⟩⟩⟩⟩⟩⟩⟩⟩⟩⟩⟩⟩⟩⟩⟩⟩⟩⟩⟩⟩⟩⟩
set_option maxRecDepth 100000 in
theorem ck_wsL_law_g : ∀ w ∈ wsL_law, goodWord w = true := List.all_eq_true.mp (by decide +kernel)
set_option maxRecDepth 100000 in
theorem ggL_law_X6_init : GoodIn wsL_law wsX6_init := goodIn_ca (goodIn_ca (goodIn_ca (goodIn_ca (goodIn_ca (goodIn_ca (goodIn_ca (goodIn_2 ck_wsL_law [(0, 8), (0, 9), (0, 10), (0, 11), (0, 12), (0, 13), (0, 14), (0, 15), (0, 16), (0, 17), (0, 18), (0, 19), (0, 20), (0, 21), (0, 22), (0, 23), (1, 0), (1, 1), (1, 2), (1, 3), (1, 4), (1, 5), (1, 6), (1, 7), (1, 8), (1, 9), (1, 10), (1, 11), (1, 12), (1, 13), (1, 14), (1, 15), (1, 16), (1, 17), (1, 18), (1, 19), (1, 20), (1, 21), (1, 22), (1, 23), (2, 0), (2, 1), (2, 2), (2, 3), (2, 4), (2, 5), (2, 6), (2, 7), (2, 8), (2, 9), (2, 10), (2, 11), (2, 12), (2, 13), (2, 14), (2, 15), (2, 16), (2, 17), (2, 18), (2, 19), (2, 20), (2, 21), (2, 22)] ck_wsL_law_m ck_wsL_law_g rfl) (goodIn_b (fun _ h => (List.mem_append_left _ (List.mem_append_left _ (List.mem_append_left _ (List.mem_append_left _ (List.mem_append_left _ (List.mem_append_left _ (List.mem_append_right _ h)))))))) ck_wsL_law_g)) (goodIn_b (fun _ h => (List.mem_append_left _ (List.mem_append_left _ (List.mem_append_left _ (List.mem_append_left _ (List.mem_append_left _ (List.mem_append_left _ (List.mem_append_left _ (List.mem_append_left _ (List.mem_append_right _ h)))))))))) ck_wsL_law_g)) (goodIn_b (fun _ h => (List.mem_append_left _ (List.mem_append_left _ (List.mem_append_left _ (List.mem_append_left _ (List.mem_append_left _ (List.mem_append_right _ h))))))) ck_wsL_law_g)) (goodIn_b (fun _ h => (List.mem_append_left _ (List.mem_append_left _ (List.mem_append_left _ (List.mem_append_left _ (List.mem_append_right _ h)))))) ck_wsL_law_g)) (goodIn_b (fun _ h => (List.mem_append_left _ (List.mem_append_left _ (List.mem_append_left _ (List.mem_append_right _ h))))) ck_wsL_law_g)) (goodIn_b (fun _ h => (List.mem_append_left _ (List.mem_append_left _ (List.mem_append_right _ h)))) ck_wsL_law_g)) (goodIn_b (fun _ h => (List.mem_append_left _ (List.mem_append_right _ h))) ck_wsL_law_g)
set_option maxRecDepth 20000 in
theorem gL_law_X6_init : GoodIn wsL_law (wsX6_init) := ggL_law_X6_init
set_option maxRecDepth 100000 in
theorem ggL_law_X7_init : GoodIn wsL_law wsX7_init := goodIn_ca (goodIn_2 ck_wsL_law [(3, 1), (3, 2), (0, 10), (0, 11), (1, 19), (3, 3), (3, 4), (3, 5), (3, 6), (3, 7), (3, 8), (3, 9)] ck_wsL_law_m ck_wsL_law_g rfl) (goodIn_b (fun _ h => (List.mem_append_left _ (List.mem_append_left _ (List.mem_append_left _ (List.mem_append_left _ (List.mem_append_left _ (List.mem_append_left _ (List.mem_append_left _ (List.mem_append_right _ h))))))))) ck_wsL_law_g)
set_option maxRecDepth 20000 in
theorem gL_law_X7_init : GoodIn wsL_law (wsX7_init) := ggL_law_X7_init
set_option maxRecDepth 100000 in
theorem ggL_law_X6_add : GoodIn wsL_law wsX6_add := goodIn_ca (goodIn_ca (goodIn_ca (goodIn_ca (goodIn_ca (goodIn_2 ck_wsL_law [(3, 13), (0, 15), (3, 14), (3, 15), (0, 21), (3, 16), (3, 17), (0, 2), (3, 18), (3, 19), (3, 20), (3, 21), (1, 11), (3, 22), (3, 23), (4, 0), (4, 1), (4, 2), (0, 20), (4, 3), (4, 4), (4, 5), (4, 6), (4, 7), (4, 8), (4, 9), (2, 15), (4, 10), (4, 11), (4, 12), (4, 13), (4, 14), (4, 15), (4, 16), (0, 14), (4, 17), (1, 12), (1, 16), (4, 18), (1, 17), (1, 18), (1, 20), (4, 19), (4, 20), (4, 21), (4, 22), (4, 23), (1, 21), (5, 0), (5, 1), (5, 2), (5, 3), (5, 4), (5, 5), (5, 6), (5, 7), (5, 8), (5, 9), (5, 10), (5, 11), (2, 1), (5, 12), (2, 2), (2, 3), (5, 13), (5, 14), (5, 15), (1, 15), (5, 16), (2, 7), (5, 17), (2, 8), (2, 9), (5, 18), (5, 19), (5, 20), (5, 21), (5, 22), (5, 23), (6, 0), (6, 1), (6, 2), (6, 3), (6, 4), (6, 5), (6, 6), (6, 7), (6, 8), (6, 9), (6, 10), (6, 11), (6, 12), (6, 13), (6, 14), (6, 15), (6, 16), (6, 17), (6, 18), (6, 19), (6, 20), (6, 21), (6, 22), (6, 23), (7, 0), (7, 1), (7, 2), (7, 3), (7, 4), (7, 5), (7, 6), (7, 7), (7, 8), (7, 9), (7, 10), (7, 11), (7, 12), (7, 13), (7, 14), (7, 15), (7, 16), (7, 17), (7, 18), (7, 19), (7, 20), (7, 21), (7, 22), (7, 23), (8, 0), (8, 1), (8, 2), (8, 3)] ck_wsL_law_m ck_wsL_law_g rfl) (goodIn_b (fun _ h => (List.mem_append_left _ (List.mem_append_left _ (List.mem_append_left _ (List.mem_append_left _ (List.mem_append_left _ (List.mem_append_left _ (List.mem_append_left _ (List.mem_append_left _ (List.mem_append_right _ h)))))))))) ck_wsL_law_g)) (goodIn_b (fun _ h => (List.mem_append_left _ (List.mem_append_left _ (List.mem_append_left _ (List.mem_append_left _ (List.mem_append_left _ (List.mem_append_left _ (List.mem_append_right _ h)))))))) ck_wsL_law_g)) (goodIn_b (fun _ h => (List.mem_append_left _ (List.mem_append_left _ (List.mem_append_right _ h)))) ck_wsL_law_g)) (goodIn_b (fun _ h => (List.mem_append_left _ (List.mem_append_left _ (List.mem_append_left _ (List.mem_append_left _ (List.mem_append_left _ (List.mem_append_right _ h))))))) ck_wsL_law_g)) (goodIn_b (fun _ h => (List.mem_append_left _ (List.mem_append_right _ h))) ck_wsL_law_g)
set_option maxRecDepth 20000 in
theorem gL_law_X6_add : GoodIn wsL_law (wsV RL 13 RX6 yX6_add wsX6_add) := goodIn_app (goodIn_of _ (by decide +kernel)) ggL_law_X6_add
set_option maxRecDepth 100000 in
theorem ggL_law_X7_add : GoodIn wsL_law wsX7_add := goodIn_ca (goodIn_2 ck_wsL_law [(8, 7), (3, 3), (8, 8), (8, 9), (0, 5), (8, 10), (8, 11), (8, 12), (8, 13), (8, 14), (8, 15), (3, 4), (8, 16), (8, 17), (8, 18), (8, 19), (8, 20), (8, 21), (8, 22), (8, 23), (9, 0), (9, 1), (9, 2), (9, 3), (9, 4), (9, 5), (9, 6), (9, 7), (9, 8), (9, 9), (9, 10), (9, 11), (9, 12), (9, 13), (9, 14), (9, 15)] ck_wsL_law_m ck_wsL_law_g rfl) (goodIn_b (fun _ h => (List.mem_append_left _ (List.mem_append_left _ (List.mem_append_left _ (List.mem_append_left _ (List.mem_append_left _ (List.mem_append_left _ (List.mem_append_left _ (List.mem_append_right _ h))))))))) ck_wsL_law_g)
set_option maxRecDepth 20000 in
theorem gL_law_X7_add : GoodIn wsL_law (wsV RL 17 RX7 yX7_add wsX7_add) := goodIn_app (goodIn_of _ (by decide +kernel)) ggL_law_X7_add
set_option maxRecDepth 100000 in
theorem ggL_law_X6_combine : GoodIn wsL_law wsX6_combine := goodIn_ca (goodIn_ca (goodIn_ca (goodIn_ca (goodIn_ca (goodIn_2 ck_wsL_law [(9, 19), (0, 15), (3, 15), (9, 20), (0, 21), (9, 21), (4, 0), (4, 1), (4, 2), (0, 20), (4, 3), (4, 4), (4, 5), (4, 6), (4, 7), (4, 8), (4, 9), (2, 15), (4, 10), (4, 11), (4, 12), (4, 13), (4, 14), (4, 15), (4, 16), (0, 14), (4, 17), (1, 12), (1, 16), (4, 18), (1, 17), (1, 18), (1, 20), (4, 19), (4, 20), (4, 21), (4, 22), (4, 23), (1, 21), (5, 0), (5, 1), (5, 2), (5, 3), (5, 4), (5, 5), (5, 6), (5, 7), (5, 8), (5, 9), (5, 10), (1, 11), (5, 11), (2, 1), (5, 12), (2, 2), (2, 3), (3, 23), (5, 13), (5, 14), (5, 15), (1, 15), (5, 16), (2, 7), (5, 17), (2, 8), (2, 9), (5, 18), (9, 22), (9, 23), (0, 2), (10, 0)] ck_wsL_law_m ck_wsL_law_g rfl) (goodIn_b (fun _ h => (List.mem_append_left _ (List.mem_append_left _ (List.mem_append_left _ (List.mem_append_left _ (List.mem_append_left _ (List.mem_append_left _ (List.mem_append_left _ (List.mem_append_left _ (List.mem_append_right _ h)))))))))) ck_wsL_law_g)) (goodIn_b (fun _ h => (List.mem_append_left _ (List.mem_append_left _ (List.mem_append_left _ (List.mem_append_left _ (List.mem_append_left _ (List.mem_append_left _ (List.mem_append_right _ h)))))))) ck_wsL_law_g)) (goodIn_b (fun _ h => (List.mem_append_left _ (List.mem_append_left _ (List.mem_append_right _ h)))) ck_wsL_law_g)) (goodIn_b (fun _ h => (List.mem_append_left _ (List.mem_append_left _ (List.mem_append_left _ (List.mem_append_left _ (List.mem_append_left _ (List.mem_append_right _ h))))))) ck_wsL_law_g)) (goodIn_b (fun _ h => (List.mem_append_left _ (List.mem_append_right _ h))) ck_wsL_law_g)
set_option maxRecDepth 20000 in
theorem gL_law_X6_combine : GoodIn wsL_law (wsV RL 18 RX6 yX6_combine wsX6_combine) := goodIn_app (goodIn_of _ (by decide +kernel)) ggL_law_X6_combine
set_option maxRecDepth 100000 in
theorem ggL_law_X7_combine : GoodIn wsL_law wsX7_combine := goodIn_ca (goodIn_2 ck_wsL_law [(10, 4), (3, 3), (8, 11), (8, 12), (8, 13), (0, 5), (8, 14), (8, 15), (3, 4)] ck_wsL_law_m ck_wsL_law_g rfl) (goodIn_b (fun _ h => (List.mem_append_left _ (List.mem_append_left _ (List.mem_append_left _ (List.mem_append_left _ (List.mem_append_left _ (List.mem_append_left _ (List.mem_append_left _ (List.mem_append_right _ h))))))))) ck_wsL_law_g)
set_option maxRecDepth 20000 in
theorem gL_law_X7_combine : GoodIn wsL_law (wsV RL 22 RX7 yX7_combine wsX7_combine) := goodIn_app (goodIn_of _ (by decide +kernel)) ggL_law_X7_combine
set_option maxRecDepth 100000 in
theorem ggL_law_X6_flush : GoodIn wsL_law wsX6_flush := goodIn_ca (goodIn_ca (goodIn_ca (goodIn_ca (goodIn_ca (goodIn_2 ck_wsL_law [(10, 8), (0, 15), (3, 14), (0, 21), (4, 0), (4, 1), (4, 2), (0, 20), (4, 3), (4, 4), (4, 5), (4, 6), (4, 7), (4, 8), (4, 9), (2, 15), (4, 10), (4, 11), (4, 12), (4, 13), (4, 14), (4, 15), (4, 16), (0, 14), (4, 17), (1, 12), (1, 16), (4, 18), (1, 17), (1, 18), (1, 20), (4, 19), (4, 20), (4, 21), (4, 22), (4, 23), (1, 21), (5, 0), (5, 1), (5, 2), (5, 3), (5, 4), (5, 5), (5, 6), (5, 7), (5, 8), (5, 9), (5, 10), (1, 11), (5, 11), (2, 1), (5, 12), (2, 2), (2, 3), (3, 23), (5, 13), (5, 14), (5, 15), (1, 15), (5, 16), (2, 7), (5, 17), (2, 8), (2, 9), (5, 18), (10, 9), (7, 1), (7, 2), (7, 3), (7, 4), (7, 5), (7, 6), (7, 7), (6, 3), (6, 4), (6, 5), (6, 6), (7, 8), (7, 9), (7, 10), (7, 11), (7, 12), (7, 13), (7, 14), (7, 15), (7, 16), (7, 17), (7, 18), (7, 19), (7, 20), (7, 21), (7, 22), (7, 23), (8, 0), (8, 1), (8, 2), (8, 3)] ck_wsL_law_m ck_wsL_law_g rfl) (goodIn_b (fun _ h => (List.mem_append_left _ (List.mem_append_left _ (List.mem_append_left _ (List.mem_append_left _ (List.mem_append_left _ (List.mem_append_left _ (List.mem_append_left _ (List.mem_append_left _ (List.mem_append_right _ h)))))))))) ck_wsL_law_g)) (goodIn_b (fun _ h => (List.mem_append_left _ (List.mem_append_left _ (List.mem_append_left _ (List.mem_append_left _ (List.mem_append_left _ (List.mem_append_left _ (List.mem_append_right _ h)))))))) ck_wsL_law_g)) (goodIn_b (fun _ h => (List.mem_append_left _ (List.mem_append_left _ (List.mem_append_left _ (List.mem_append_left _ (List.mem_append_left _ (List.mem_append_right _ h))))))) ck_wsL_law_g)) (goodIn_b (fun _ h => (List.mem_append_left _ (List.mem_append_left _ (List.mem_append_right _ h)))) ck_wsL_law_g)) (goodIn_b (fun _ h => (List.mem_append_left _ (List.mem_append_right _ h))) ck_wsL_law_g)
set_option maxRecDepth 20000 in
theorem gL_law_X6_flush : GoodIn wsL_law (wsV RL 23 RX6 yX6_flush wsX6_flush) := goodIn_app (goodIn_of _ (by decide +kernel)) ggL_law_X6_flush
set_option maxRecDepth 100000 in
theorem ggL_law_X7_flush : GoodIn wsL_law wsX7_flush := goodIn_ca (goodIn_2 ck_wsL_law [(10, 13), (3, 3), (8, 11), (8, 12), (8, 13), (0, 5), (8, 14), (8, 15), (3, 4), (9, 8), (9, 9), (9, 10), (9, 11), (9, 4), (9, 5), (9, 6), (9, 7), (9, 0), (9, 1), (9, 2), (9, 3), (9, 12), (9, 13), (9, 14), (9, 15)] ck_wsL_law_m ck_wsL_law_g rfl) (goodIn_b (fun _ h => (List.mem_append_left _ (List.mem_append_left _ (List.mem_append_left _ (List.mem_append_left _ (List.mem_append_left _ (List.mem_append_left _ (List.mem_append_left _ (List.mem_append_right _ h))))))))) ck_wsL_law_g)
set_option maxRecDepth 20000 in
theorem gL_law_X7_flush : GoodIn wsL_law (wsV RL 27 RX7 yX7_flush wsX7_flush) := goodIn_app (goodIn_of _ (by decide +kernel)) ggL_law_X7_flush
set_option maxRecDepth 100000 in
theorem ggL_law_X6_finish : GoodIn wsL_law wsX6_finish := goodIn_ca (goodIn_ca (goodIn_ca (goodIn_ca (goodIn_ca (goodIn_2 ck_wsL_law [(10, 17), (0, 15), (3, 14), (0, 21), (10, 18), (10, 19), (4, 0), (4, 1), (4, 2), (0, 20), (4, 3), (4, 4), (4, 5), (4, 6), (4, 7), (4, 8), (4, 9), (2, 15), (4, 10), (4, 11), (4, 12), (4, 13), (4, 14), (4, 15), (4, 16), (0, 14), (4, 17), (1, 12), (1, 16), (4, 18), (1, 17), (1, 18), (1, 20), (4, 19), (4, 20), (4, 21), (4, 22), (4, 23), (1, 21), (5, 0), (5, 1), (5, 2), (5, 3), (5, 4), (5, 5), (5, 6), (5, 7), (5, 8), (5, 9), (5, 10), (1, 11), (5, 11), (2, 1), (5, 12), (2, 2), (2, 3), (3, 23), (5, 13), (5, 14), (5, 15), (1, 15), (5, 16), (2, 7), (5, 17), (2, 8), (2, 9), (5, 18), (10, 20), (10, 21), (10, 22), (10, 23), (7, 0), (7, 1), (7, 2), (7, 3), (7, 4), (7, 5), (7, 6), (7, 7), (6, 3), (6, 4), (6, 5), (6, 6), (7, 8), (7, 9), (7, 10), (7, 11), (7, 12), (7, 13), (7, 14), (7, 15), (7, 16), (7, 17), (7, 18), (7, 19), (7, 20), (7, 21), (7, 22), (7, 23), (8, 0), (8, 1), (8, 2), (8, 3)] ck_wsL_law_m ck_wsL_law_g rfl) (goodIn_b (fun _ h => (List.mem_append_left _ (List.mem_append_left _ (List.mem_append_left _ (List.mem_append_left _ (List.mem_append_left _ (List.mem_append_left _ (List.mem_append_left _ (List.mem_append_left _ (List.mem_append_right _ h)))))))))) ck_wsL_law_g)) (goodIn_b (fun _ h => (List.mem_append_left _ (List.mem_append_left _ (List.mem_append_left _ (List.mem_append_left _ (List.mem_append_left _ (List.mem_append_left _ (List.mem_append_right _ h)))))))) ck_wsL_law_g)) (goodIn_b (fun _ h => (List.mem_append_left _ (List.mem_append_right _ h))) ck_wsL_law_g)) (goodIn_b (fun _ h => (List.mem_append_left _ (List.mem_append_left _ (List.mem_append_left _ (List.mem_append_left _ (List.mem_append_left _ (List.mem_append_right _ h))))))) ck_wsL_law_g)) (goodIn_b (fun _ h => (List.mem_append_left _ (List.mem_append_left _ (List.mem_append_right _ h)))) ck_wsL_law_g)
set_option maxRecDepth 20000 in
theorem gL_law_X6_finish : GoodIn wsL_law (wsV RL 28 RX6 yX6_finish wsX6_finish) := goodIn_app (goodIn_of _ (by decide +kernel)) ggL_law_X6_finish
set_option maxRecDepth 100000 in
theorem ggL_law_X7_finish : GoodIn wsL_law wsX7_finish := goodIn_ca (goodIn_2 ck_wsL_law [(11, 3), (3, 3), (8, 11), (8, 12), (8, 13), (0, 5), (8, 14), (8, 15), (3, 4), (11, 4), (11, 5), (11, 6), (11, 7), (9, 8), (9, 9), (9, 10), (9, 11), (9, 4), (9, 5), (9, 6), (9, 7), (9, 0), (9, 1), (9, 2), (9, 3), (9, 12), (9, 13), (9, 14), (9, 15), (11, 8), (11, 9), (11, 10), (11, 11), (11, 12), (11, 13), (11, 14), (11, 15), (11, 16), (11, 17), (11, 18), (11, 19)] ck_wsL_law_m ck_wsL_law_g rfl) (goodIn_b (fun _ h => (List.mem_append_left _ (List.mem_append_left _ (List.mem_append_left _ (List.mem_append_left _ (List.mem_append_left _ (List.mem_append_left _ (List.mem_append_left _ (List.mem_append_right _ h))))))))) ck_wsL_law_g)
set_option maxRecDepth 20000 in
theorem gL_law_X7_finish : GoodIn wsL_law (wsV RL 31 RX7 yX7_finish wsX7_finish) := goodIn_app (goodIn_of _ (by decide +kernel)) ggL_law_X7_finish
set_option maxRecDepth 100000 in
theorem ggL_law_X6_isCollecting : GoodIn wsL_law wsX6_isCollecting := goodIn_ca (goodIn_ca (goodIn_2 ck_wsL_law [(11, 23), (0, 15), (3, 14), (9, 22), (9, 23), (0, 2), (10, 0)] ck_wsL_law_m ck_wsL_law_g rfl) (goodIn_b (fun _ h => (List.mem_append_left _ (List.mem_append_left _ (List.mem_append_left _ (List.mem_append_left _ (List.mem_append_left _ (List.mem_append_left _ (List.mem_append_left _ (List.mem_append_left _ (List.mem_append_right _ h)))))))))) ck_wsL_law_g)) (goodIn_b (fun _ h => (List.mem_append_left _ (List.mem_append_left _ (List.mem_append_left _ (List.mem_append_left _ (List.mem_append_left _ (List.mem_append_left _ (List.mem_append_right _ h)))))))) ck_wsL_law_g)
set_option maxRecDepth 20000 in
theorem gL_law_X6_isCollecting : GoodIn wsL_law (wsV RL 32 RX6 yX6_isCollecting wsX6_isCollecting) := goodIn_app (goodIn_of _ (by decide +kernel)) ggL_law_X6_isCollecting
set_option maxRecDepth 100000 in
theorem ggL_law_X7_isCollecting : GoodIn wsL_law wsX7_isCollecting := goodIn_ca (goodIn_2 ck_wsL_law [(12, 3), (3, 3)] ck_wsL_law_m ck_wsL_law_g rfl) (goodIn_b (fun _ h => (List.mem_append_left _ (List.mem_append_left _ (List.mem_append_left _ (List.mem_append_left _ (List.mem_append_left _ (List.mem_append_left _ (List.mem_append_left _ (List.mem_append_right _ h))))))))) ck_wsL_law_g)
set_option maxRecDepth 20000 in
theorem gL_law_X7_isCollecting : GoodIn wsL_law (wsV RL 35 RX7 yX7_isCollecting wsX7_isCollecting) := goodIn_app (goodIn_of _ (by decide +kernel)) ggL_law_X7_isCollecting
set_option maxRecDepth 100000 in
theorem ggL_law_X6_grant : GoodIn wsL_law wsX6_grant := goodIn_ca (goodIn_ca (goodIn_ca (goodIn_ca (goodIn_ca (goodIn_2 ck_wsL_law [(12, 7), (0, 21), (0, 15), (12, 8), (12, 9), (0, 2), (12, 10), (4, 0), (4, 1), (4, 2), (0, 20), (4, 3), (4, 4), (4, 5), (4, 6), (4, 7), (4, 8), (4, 9), (2, 15), (4, 10), (4, 11), (4, 12), (4, 13), (4, 14), (4, 15), (4, 16), (0, 14), (4, 17), (1, 12), (1, 16), (4, 18), (1, 17), (1, 18), (1, 20), (4, 19), (4, 20), (4, 21), (4, 22), (4, 23), (1, 21), (5, 0), (5, 1), (5, 2), (5, 3), (5, 4), (5, 5), (5, 6), (5, 7), (5, 8), (5, 9), (5, 10), (1, 11), (5, 11), (2, 1), (5, 12), (2, 2), (2, 3), (3, 23), (5, 13), (5, 14), (5, 15), (1, 15), (5, 16), (2, 7), (5, 17), (2, 8), (2, 9), (5, 18), (12, 11), (12, 12), (12, 13), (12, 14), (12, 15), (7, 0), (7, 1), (7, 2), (7, 3), (7, 4), (7, 5), (7, 6), (7, 7), (6, 3), (6, 4), (6, 5), (6, 6), (7, 8), (7, 9), (7, 10), (7, 11), (7, 12), (7, 13), (7, 14), (7, 15), (7, 16), (7, 17), (7, 18), (7, 19), (7, 20), (7, 21), (7, 22), (7, 23), (8, 0), (8, 1), (8, 2), (8, 3), (12, 16), (12, 17), (12, 18), (12, 19), (12, 20), (12, 21), (12, 22), (12, 23), (13, 0), (13, 1), (13, 2), (13, 3), (13, 4), (13, 5), (13, 6), (13, 7), (13, 8), (13, 9), (13, 10), (13, 11), (13, 12), (13, 13), (13, 14), (13, 15), (13, 16), (13, 17), (13, 18), (13, 19)] ck_wsL_law_m ck_wsL_law_g rfl) (goodIn_b (fun _ h => (List.mem_append_left _ (List.mem_append_left _ (List.mem_append_left _ (List.mem_append_left _ (List.mem_append_left _ (List.mem_append_left _ (List.mem_append_left _ (List.mem_append_left _ (List.mem_append_right _ h)))))))))) ck_wsL_law_g)) (goodIn_b (fun _ h => (List.mem_append_left _ (List.mem_append_left _ (List.mem_append_left _ (List.mem_append_left _ (List.mem_append_left _ (List.mem_append_right _ h))))))) ck_wsL_law_g)) (goodIn_b (fun _ h => (List.mem_append_left _ (List.mem_append_left _ (List.mem_append_left _ (List.mem_append_left _ (List.mem_append_left _ (List.mem_append_left _ (List.mem_append_right _ h)))))))) ck_wsL_law_g)) (goodIn_b (fun _ h => (List.mem_append_left _ (List.mem_append_left _ (List.mem_append_right _ h)))) ck_wsL_law_g)) (goodIn_b (fun _ h => (List.mem_append_left _ (List.mem_append_right _ h))) ck_wsL_law_g)
set_option maxRecDepth 20000 in
theorem gL_law_X6_grant : GoodIn wsL_law (wsV RL 36 RX6 yX6_grant wsX6_grant) := goodIn_app (goodIn_of _ (by decide +kernel)) ggL_law_X6_grant
set_option maxRecDepth 100000 in
theorem ggL_law_X7_grant : GoodIn wsL_law wsX7_grant := goodIn_ca (goodIn_2 ck_wsL_law [(13, 23), (14, 0), (14, 1), (0, 5), (14, 2), (8, 8), (8, 9), (8, 10), (8, 11), (8, 12), (8, 13), (8, 14), (8, 15), (3, 4), (3, 3), (14, 3), (14, 4), (14, 5), (14, 6), (9, 4), (9, 5), (9, 6), (9, 7), (9, 0), (9, 1), (9, 2), (9, 3), (9, 8), (9, 9), (9, 10), (9, 11), (9, 12), (9, 13), (9, 14), (9, 15), (14, 7), (14, 8), (14, 9), (14, 10), (11, 12), (11, 13), (11, 14), (11, 15), (11, 16), (11, 17), (11, 18), (11, 19), (14, 11), (14, 12), (14, 13), (14, 14), (14, 15), (14, 16), (14, 17)] ck_wsL_law_m ck_wsL_law_g rfl) (goodIn_b (fun _ h => (List.mem_append_left _ (List.mem_append_left _ (List.mem_append_left _ (List.mem_append_left _ (List.mem_append_left _ (List.mem_append_left _ (List.mem_append_left _ (List.mem_append_right _ h))))))))) ck_wsL_law_g)
set_option maxRecDepth 20000 in
theorem gL_law_X7_grant : GoodIn wsL_law (wsV RL 39 RX7 yX7_grant wsX7_grant) := goodIn_app (goodIn_of _ (by decide +kernel)) ggL_law_X7_grant
set_option maxRecDepth 100000 in
theorem ggL_law_X6_memory : GoodIn wsL_law wsX6_memory := goodIn_ca (goodIn_ca (goodIn_ca (goodIn_2 ck_wsL_law [(14, 21), (0, 15), (14, 22), (14, 23), (15, 0), (15, 1), (0, 14), (15, 2), (1, 17), (4, 23), (1, 21), (12, 15), (15, 3), (15, 4), (15, 5), (15, 6), (15, 7), (12, 17), (12, 18), (12, 19), (1, 18), (12, 20), (12, 21), (12, 22), (12, 23)] ck_wsL_law_m ck_wsL_law_g rfl) (goodIn_b (fun _ h => (List.mem_append_left _ (List.mem_append_left _ (List.mem_append_left _ (List.mem_append_left _ (List.mem_append_left _ (List.mem_append_left _ (List.mem_append_left _ (List.mem_append_left _ (List.mem_append_right _ h)))))))))) ck_wsL_law_g)) (goodIn_b (fun _ h => (List.mem_append_left _ (List.mem_append_left _ (List.mem_append_left _ (List.mem_append_left _ (List.mem_append_left _ (List.mem_append_left _ (List.mem_append_right _ h)))))))) ck_wsL_law_g)) (goodIn_b (fun _ h => (List.mem_append_left _ (List.mem_append_right _ h))) ck_wsL_law_g)
set_option maxRecDepth 20000 in
theorem gL_law_X6_memory : GoodIn wsL_law (wsV RL 40 RX6 yX6_memory wsX6_memory) := goodIn_app (goodIn_of _ (by decide +kernel)) ggL_law_X6_memory
set_option maxRecDepth 100000 in
theorem ggL_law_X7_memory : GoodIn wsL_law wsX7_memory := goodIn_ca (goodIn_2 ck_wsL_law [(15, 11), (3, 3), (9, 4), (9, 5), (9, 6), (0, 5), (9, 7), (9, 0), (9, 1), (9, 2), (9, 3), (14, 7), (14, 8), (14, 9), (14, 10), (11, 12), (11, 13), (11, 14), (11, 15), (11, 16), (11, 17), (11, 18), (11, 19), (14, 11), (14, 12), (14, 13)] ck_wsL_law_m ck_wsL_law_g rfl) (goodIn_b (fun _ h => (List.mem_append_left _ (List.mem_append_left _ (List.mem_append_left _ (List.mem_append_left _ (List.mem_append_left _ (List.mem_append_left _ (List.mem_append_left _ (List.mem_append_right _ h))))))))) ck_wsL_law_g)
set_option maxRecDepth 20000 in
theorem gL_law_X7_memory : GoodIn wsL_law (wsV RL 43 RX7 yX7_memory wsX7_memory) := goodIn_app (goodIn_of _ (by decide +kernel)) ggL_law_X7_memory
set_option maxRecDepth 100000 in
theorem ggL_law_X6_inMemory : GoodIn wsL_law wsX6_inMemory := goodIn_ca (goodIn_ca (goodIn_ca (goodIn_2 ck_wsL_law [(15, 15), (0, 15), (3, 15), (15, 16), (15, 17), (15, 18), (0, 14), (15, 19), (4, 23), (15, 20), (6, 4), (6, 5), (6, 6), (1, 20), (15, 21), (6, 8), (6, 9), (1, 11), (6, 10), (2, 1)] ck_wsL_law_m ck_wsL_law_g rfl) (goodIn_b (fun _ h => (List.mem_append_left _ (List.mem_append_left _ (List.mem_append_left _ (List.mem_append_left _ (List.mem_append_left _ (List.mem_append_left _ (List.mem_append_left _ (List.mem_append_left _ (List.mem_append_right _ h)))))))))) ck_wsL_law_g)) (goodIn_b (fun _ h => (List.mem_append_left _ (List.mem_append_left _ (List.mem_append_left _ (List.mem_append_left _ (List.mem_append_left _ (List.mem_append_left _ (List.mem_append_right _ h)))))))) ck_wsL_law_g)) (goodIn_b (fun _ h => (List.mem_append_left _ (List.mem_append_left _ (List.mem_append_right _ h)))) ck_wsL_law_g)
set_option maxRecDepth 20000 in
theorem gL_law_X6_inMemory : GoodIn wsL_law (wsV RL 44 RX6 yX6_inMemory wsX6_inMemory) := goodIn_app (goodIn_of _ (by decide +kernel)) ggL_law_X6_inMemory
set_option maxRecDepth 100000 in
theorem ggL_law_X7_inMemory : GoodIn wsL_law wsX7_inMemory := goodIn_ca (goodIn_2 ck_wsL_law [(16, 1), (3, 3), (9, 0), (9, 1), (9, 2), (0, 5), (9, 3)] ck_wsL_law_m ck_wsL_law_g rfl) (goodIn_b (fun _ h => (List.mem_append_left _ (List.mem_append_left _ (List.mem_append_left _ (List.mem_append_left _ (List.mem_append_left _ (List.mem_append_left _ (List.mem_append_left _ (List.mem_append_right _ h))))))))) ck_wsL_law_g)
set_option maxRecDepth 20000 in
theorem gL_law_X7_inMemory : GoodIn wsL_law (wsV RL 47 RX7 yX7_inMemory wsX7_inMemory) := goodIn_app (goodIn_of _ (by decide +kernel)) ggL_law_X7_inMemory
set_option maxRecDepth 100000 in
theorem ggL_law_X6_merge : GoodIn wsL_law wsX6_merge := goodIn_ca (goodIn_ca (goodIn_ca (goodIn_ca (goodIn_ca (goodIn_2 ck_wsL_law [(16, 5), (0, 15), (0, 21), (16, 6), (16, 7), (16, 8), (0, 14), (16, 9), (1, 17), (1, 16), (12, 15), (15, 3), (15, 4), (15, 5), (15, 6), (1, 21), (12, 16), (12, 17), (12, 18), (12, 19), (1, 18), (12, 20), (12, 21), (12, 22), (12, 23), (4, 0), (4, 1), (4, 2), (0, 20), (4, 3), (4, 4), (4, 5), (4, 6), (4, 7), (4, 8), (4, 9), (2, 15), (4, 10), (4, 11), (4, 12), (4, 13), (4, 14), (4, 15), (4, 16), (4, 17), (1, 12), (4, 18), (1, 20), (4, 19), (4, 20), (4, 21), (4, 22), (4, 23), (5, 0), (5, 1), (5, 2), (5, 3), (5, 4), (5, 5), (5, 6), (5, 7), (5, 8), (5, 9), (5, 10), (1, 11), (5, 11), (2, 1), (5, 12), (2, 2), (2, 3), (3, 23), (5, 13), (5, 14), (5, 15), (1, 15), (5, 16), (2, 7), (5, 17), (2, 8), (2, 9), (5, 18), (16, 10), (16, 11), (16, 12), (16, 13), (16, 14), (16, 15), (16, 16), (16, 17), (16, 18), (13, 13), (13, 14), (13, 15), (16, 19), (16, 20), (16, 21), (16, 22), (13, 8), (13, 9), (13, 10), (13, 11), (13, 12), (8, 0), (8, 1), (8, 2), (8, 3), (16, 23), (17, 0), (17, 1), (17, 2)] ck_wsL_law_m ck_wsL_law_g rfl) (goodIn_b (fun _ h => (List.mem_append_left _ (List.mem_append_left _ (List.mem_append_left _ (List.mem_append_left _ (List.mem_append_left _ (List.mem_append_left _ (List.mem_append_left _ (List.mem_append_left _ (List.mem_append_right _ h)))))))))) ck_wsL_law_g)) (goodIn_b (fun _ h => (List.mem_append_left _ (List.mem_append_left _ (List.mem_append_left _ (List.mem_append_left _ (List.mem_append_left _ (List.mem_append_left _ (List.mem_append_right _ h)))))))) ck_wsL_law_g)) (goodIn_b (fun _ h => (List.mem_append_left _ (List.mem_append_right _ h))) ck_wsL_law_g)) (goodIn_b (fun _ h => (List.mem_append_left _ (List.mem_append_left _ (List.mem_append_left _ (List.mem_append_left _ (List.mem_append_left _ (List.mem_append_right _ h))))))) ck_wsL_law_g)) (goodIn_b (fun _ h => (List.mem_append_left _ (List.mem_append_left _ (List.mem_append_right _ h)))) ck_wsL_law_g)
set_option maxRecDepth 20000 in
theorem gL_law_X6_merge : GoodIn wsL_law (wsV RL 48 RX6 yX6_merge wsX6_merge) := goodIn_app (goodIn_of _ (by decide +kernel)) ggL_law_X6_merge
set_option maxRecDepth 100000 in
theorem ggL_law_X7_merge : GoodIn wsL_law wsX7_merge := goodIn_ca (goodIn_2 ck_wsL_law [(17, 6), (3, 3), (11, 8), (11, 9), (11, 10), (0, 5), (11, 11), (11, 12), (11, 13), (11, 14), (11, 15), (11, 16), (11, 17), (11, 18), (11, 19), (9, 0), (9, 1), (9, 2), (9, 3), (14, 11), (14, 12), (14, 13), (8, 11), (8, 12), (8, 13), (8, 14), (8, 15), (3, 4), (17, 7), (17, 8), (17, 9), (17, 10), (17, 11), (17, 12), (17, 13), (17, 14), (9, 4), (9, 5), (9, 6), (9, 7)] ck_wsL_law_m ck_wsL_law_g rfl) (goodIn_b (fun _ h => (List.mem_append_left _ (List.mem_append_left _ (List.mem_append_left _ (List.mem_append_left _ (List.mem_append_left _ (List.mem_append_left _ (List.mem_append_left _ (List.mem_append_right _ h))))))))) ck_wsL_law_g)
set_option maxRecDepth 20000 in
theorem gL_law_X7_merge : GoodIn wsL_law (wsV RL 51 RX7 yX7_merge wsX7_merge) := goodIn_app (goodIn_of _ (by decide +kernel)) ggL_law_X7_merge
set_option maxRecDepth 100000 in
theorem ggL_law_X6_step : GoodIn wsL_law wsX6_step := goodIn_ca (goodIn_ca (goodIn_ca (goodIn_ca (goodIn_ca (goodIn_2 ck_wsL_law [(17, 18), (0, 15), (0, 21), (17, 19), (15, 4), (15, 5), (0, 14), (15, 6), (1, 21), (12, 15), (4, 0), (4, 1), (4, 2), (0, 20), (4, 3), (4, 4), (4, 5), (4, 6), (4, 7), (4, 8), (4, 9), (2, 15), (4, 10), (4, 11), (4, 12), (4, 13), (4, 14), (4, 15), (4, 16), (4, 17), (1, 12), (1, 16), (4, 18), (1, 17), (1, 18), (1, 20), (4, 19), (4, 20), (4, 21), (4, 22), (4, 23), (5, 0), (5, 1), (5, 2), (5, 3), (5, 4), (5, 5), (5, 6), (5, 7), (5, 8), (5, 9), (5, 10), (1, 11), (5, 11), (2, 1), (5, 12), (2, 2), (2, 3), (3, 23), (5, 13), (5, 14), (5, 15), (1, 15), (5, 16), (2, 7), (5, 17), (2, 8), (2, 9), (5, 18), (17, 20), (17, 21), (17, 22), (17, 23), (15, 3), (18, 0), (18, 1), (18, 2), (18, 3), (18, 4), (18, 5), (18, 6), (18, 7), (13, 8), (13, 9), (13, 10), (13, 11), (7, 8), (7, 9), (7, 10), (7, 11), (13, 12), (13, 13), (13, 14), (13, 15), (18, 8), (18, 9), (18, 10), (18, 11), (18, 12), (18, 13), (18, 14), (18, 15), (16, 23), (17, 0), (17, 1), (17, 2), (6, 7), (6, 8), (6, 9), (6, 10), (6, 20), (6, 21), (6, 22), (6, 23), (7, 16), (7, 17), (7, 18), (7, 19), (13, 4), (13, 5), (13, 6), (13, 7), (7, 20), (7, 21), (7, 22), (7, 23), (8, 0), (8, 1), (8, 2), (8, 3)] ck_wsL_law_m ck_wsL_law_g rfl) (goodIn_b (fun _ h => (List.mem_append_left _ (List.mem_append_left _ (List.mem_append_left _ (List.mem_append_left _ (List.mem_append_left _ (List.mem_append_left _ (List.mem_append_left _ (List.mem_append_left _ (List.mem_append_right _ h)))))))))) ck_wsL_law_g)) (goodIn_b (fun _ h => (List.mem_append_left _ (List.mem_append_left _ (List.mem_append_left _ (List.mem_append_left _ (List.mem_append_left _ (List.mem_append_left _ (List.mem_append_right _ h)))))))) ck_wsL_law_g)) (goodIn_b (fun _ h => (List.mem_append_left _ (List.mem_append_right _ h))) ck_wsL_law_g)) (goodIn_b (fun _ h => (List.mem_append_left _ (List.mem_append_left _ (List.mem_append_left _ (List.mem_append_left _ (List.mem_append_left _ (List.mem_append_right _ h))))))) ck_wsL_law_g)) (goodIn_b (fun _ h => (List.mem_append_left _ (List.mem_append_left _ (List.mem_append_right _ h)))) ck_wsL_law_g)
set_option maxRecDepth 20000 in
theorem gL_law_X6_step : GoodIn wsL_law (wsV RL 52 RX6 yX6_step wsX6_step) := goodIn_app (goodIn_of _ (by decide +kernel)) ggL_law_X6_step
set_option maxRecDepth 100000 in
theorem ggL_law_X7_step : GoodIn wsL_law wsX7_step := goodIn_ca (goodIn_2 ck_wsL_law [(18, 19), (3, 3), (8, 8), (8, 9), (0, 5), (8, 10), (8, 11), (8, 12), (8, 13), (8, 14), (8, 15), (3, 4), (18, 20), (18, 21), (18, 22), (18, 23), (19, 0), (19, 1), (19, 2), (19, 3), (19, 4), (19, 5), (19, 6), (19, 7), (9, 0), (9, 1), (9, 2), (9, 3), (19, 8), (19, 9), (19, 10), (19, 11), (19, 12), (19, 13), (19, 14), (19, 15), (9, 12), (9, 13), (9, 14), (9, 15)] ck_wsL_law_m ck_wsL_law_g rfl) (goodIn_b (fun _ h => (List.mem_append_left _ (List.mem_append_left _ (List.mem_append_left _ (List.mem_append_left _ (List.mem_append_left _ (List.mem_append_left _ (List.mem_append_left _ (List.mem_append_right _ h))))))))) ck_wsL_law_g)
set_option maxRecDepth 20000 in
theorem gL_law_X7_step : GoodIn wsL_law (wsV RL 55 RX7 yX7_step wsX7_step) := goodIn_app (goodIn_of _ (by decide +kernel)) ggL_law_X7_step
set_option maxRecDepth 100000 in
theorem ggL_law_X6_run : GoodIn wsL_law wsX6_run := goodIn_ca (goodIn_ca (goodIn_ca (goodIn_ca (goodIn_ca (goodIn_2 ck_wsL_law [(19, 19), (0, 15), (0, 21), (19, 20), (19, 21), (19, 22), (0, 14), (19, 23), (1, 16), (12, 15), (4, 23), (15, 3), (15, 4), (15, 5), (15, 6), (1, 21), (12, 16), (12, 17), (12, 18), (12, 19), (1, 18), (12, 20), (12, 21), (12, 22), (12, 23), (4, 0), (4, 1), (4, 2), (0, 20), (4, 3), (4, 4), (4, 5), (4, 6), (4, 7), (4, 8), (4, 9), (2, 15), (4, 10), (4, 11), (4, 12), (4, 13), (4, 14), (4, 15), (4, 16), (4, 17), (1, 12), (4, 18), (1, 17), (1, 20), (4, 19), (4, 20), (4, 21), (4, 22), (5, 0), (5, 1), (5, 2), (5, 3), (5, 4), (5, 5), (5, 6), (5, 7), (5, 8), (5, 9), (5, 10), (1, 11), (5, 11), (2, 1), (5, 12), (2, 2), (2, 3), (3, 23), (5, 13), (5, 14), (5, 15), (1, 15), (5, 16), (2, 7), (5, 17), (2, 8), (2, 9), (5, 18), (20, 0), (20, 1), (20, 2), (20, 3), (20, 4), (10, 21), (10, 22), (10, 23), (7, 0), (7, 1), (7, 2), (7, 3), (7, 4), (7, 5), (7, 6), (7, 7), (6, 3), (6, 4), (6, 5), (6, 6), (7, 8), (7, 9), (7, 10), (7, 11), (7, 12), (7, 13), (7, 14), (7, 15), (7, 16), (7, 17), (7, 18), (7, 19), (7, 20), (7, 21), (7, 22), (7, 23), (8, 0), (8, 1), (8, 2), (8, 3), (20, 5), (17, 21), (17, 22), (17, 23), (18, 0), (18, 1), (18, 2), (18, 3), (18, 4), (18, 5), (18, 6), (18, 7), (13, 8), (13, 9), (13, 10), (13, 11), (13, 12), (13, 13), (13, 14), (13, 15), (18, 8), (18, 9), (18, 10), (18, 11), (18, 12), (18, 13), (18, 14), (18, 15), (16, 23), (17, 0), (17, 1), (17, 2), (6, 7), (6, 8), (6, 9), (6, 10), (6, 20), (6, 21), (6, 22), (6, 23), (13, 4), (13, 5), (13, 6), (13, 7), (20, 6), (16, 7), (16, 8), (16, 9), (20, 7), (16, 11), (16, 12), (16, 13), (16, 14), (16, 15), (16, 16), (16, 17), (16, 18), (16, 19), (16, 20), (16, 21), (16, 22)] ck_wsL_law_m ck_wsL_law_g rfl) (goodIn_b (fun _ h => (List.mem_append_left _ (List.mem_append_left _ (List.mem_append_left _ (List.mem_append_left _ (List.mem_append_left _ (List.mem_append_left _ (List.mem_append_left _ (List.mem_append_left _ (List.mem_append_right _ h)))))))))) ck_wsL_law_g)) (goodIn_b (fun _ h => (List.mem_append_left _ (List.mem_append_left _ (List.mem_append_left _ (List.mem_append_left _ (List.mem_append_left _ (List.mem_append_left _ (List.mem_append_right _ h)))))))) ck_wsL_law_g)) (goodIn_b (fun _ h => (List.mem_append_left _ (List.mem_append_right _ h))) ck_wsL_law_g)) (goodIn_b (fun _ h => (List.mem_append_left _ (List.mem_append_left _ (List.mem_append_left _ (List.mem_append_left _ (List.mem_append_left _ (List.mem_append_right _ h))))))) ck_wsL_law_g)) (goodIn_b (fun _ h => (List.mem_append_left _ (List.mem_append_left _ (List.mem_append_right _ h)))) ck_wsL_law_g)
set_option maxRecDepth 20000 in
theorem gL_law_X6_run : GoodIn wsL_law (wsV RL 56 RX6 yX6_run wsX6_run) := goodIn_app (goodIn_of _ (by decide +kernel)) ggL_law_X6_run
set_option maxRecDepth 100000 in
theorem ggL_law_X7_run : GoodIn wsL_law wsX7_run := goodIn_ca (goodIn_2 ck_wsL_law [(20, 11), (20, 12), (20, 13), (20, 14), (0, 5), (20, 15), (3, 3), (20, 16), (20, 17), (20, 18), (20, 19), (11, 8), (11, 9), (11, 10), (11, 11), (11, 12), (11, 13), (11, 14), (11, 15), (11, 16), (11, 17), (11, 18), (11, 19), (9, 0), (9, 1), (9, 2), (9, 3), (9, 4), (9, 5), (9, 6), (9, 7), (14, 11), (14, 12), (14, 13), (8, 11), (8, 12), (8, 13), (8, 14), (8, 15), (3, 4), (20, 20), (20, 21), (20, 22), (20, 23), (11, 4), (11, 5), (11, 6), (11, 7), (9, 8), (9, 9), (9, 10), (9, 11), (9, 12), (9, 13), (9, 14), (9, 15), (17, 7), (17, 8), (17, 9), (17, 10), (17, 11), (17, 12), (17, 13), (17, 14), (18, 20), (18, 21), (18, 22), (18, 23), (19, 0), (19, 1), (19, 2), (19, 3), (19, 4), (19, 5), (19, 6), (19, 7), (19, 8), (19, 9), (19, 10), (19, 11), (19, 12), (19, 13), (19, 14), (19, 15)] ck_wsL_law_m ck_wsL_law_g rfl) (goodIn_b (fun _ h => (List.mem_append_left _ (List.mem_append_left _ (List.mem_append_left _ (List.mem_append_left _ (List.mem_append_left _ (List.mem_append_left _ (List.mem_append_left _ (List.mem_append_right _ h))))))))) ck_wsL_law_g)
set_option maxRecDepth 20000 in
theorem gL_law_X7_run : GoodIn wsL_law (wsV RL 59 RX7 yX7_run wsX7_run) := goodIn_app (goodIn_of _ (by decide +kernel)) ggL_law_X7_run
set_option maxRecDepth 100000 in
theorem ggL_law_X6_isMerging : GoodIn wsL_law wsX6_isMerging := goodIn_ca (goodIn_ca (goodIn_ca (goodIn_2 ck_wsL_law [(21, 3), (0, 15), (17, 19), (15, 4), (15, 5), (0, 14), (15, 6), (1, 21), (12, 15), (9, 22), (9, 23), (0, 2), (10, 0)] ck_wsL_law_m ck_wsL_law_g rfl) (goodIn_b (fun _ h => (List.mem_append_left _ (List.mem_append_left _ (List.mem_append_left _ (List.mem_append_left _ (List.mem_append_left _ (List.mem_append_left _ (List.mem_append_left _ (List.mem_append_left _ (List.mem_append_right _ h)))))))))) ck_wsL_law_g)) (goodIn_b (fun _ h => (List.mem_append_left _ (List.mem_append_left _ (List.mem_append_left _ (List.mem_append_left _ (List.mem_append_left _ (List.mem_append_left _ (List.mem_append_right _ h)))))))) ck_wsL_law_g)) (goodIn_b (fun _ h => (List.mem_append_left _ (List.mem_append_right _ h))) ck_wsL_law_g)
set_option maxRecDepth 20000 in
theorem gL_law_X6_isMerging : GoodIn wsL_law (wsV RL 60 RX6 yX6_isMerging wsX6_isMerging) := goodIn_app (goodIn_of _ (by decide +kernel)) ggL_law_X6_isMerging
set_option maxRecDepth 100000 in
theorem ggL_law_X7_isMerging : GoodIn wsL_law wsX7_isMerging := goodIn_ca (goodIn_2 ck_wsL_law [(21, 7), (3, 3)] ck_wsL_law_m ck_wsL_law_g rfl) (goodIn_b (fun _ h => (List.mem_append_left _ (List.mem_append_left _ (List.mem_append_left _ (List.mem_append_left _ (List.mem_append_left _ (List.mem_append_left _ (List.mem_append_left _ (List.mem_append_right _ h))))))))) ck_wsL_law_g)
set_option maxRecDepth 20000 in
theorem gL_law_X7_isMerging : GoodIn wsL_law (wsV RL 63 RX7 yX7_isMerging wsX7_isMerging) := goodIn_app (goodIn_of _ (by decide +kernel)) ggL_law_X7_isMerging
set_option maxRecDepth 100000 in
theorem ggL_law_X6_isDone : GoodIn wsL_law wsX6_isDone := goodIn_ca (goodIn_ca (goodIn_ca (goodIn_2 ck_wsL_law [(21, 11), (0, 15), (21, 12), (21, 13), (21, 14), (0, 14), (21, 15), (1, 17), (1, 16), (12, 15), (15, 3), (15, 4), (15, 5), (15, 6), (1, 21), (9, 22), (9, 23), (0, 2), (10, 0)] ck_wsL_law_m ck_wsL_law_g rfl) (goodIn_b (fun _ h => (List.mem_append_left _ (List.mem_append_left _ (List.mem_append_left _ (List.mem_append_left _ (List.mem_append_left _ (List.mem_append_left _ (List.mem_append_left _ (List.mem_append_left _ (List.mem_append_right _ h)))))))))) ck_wsL_law_g)) (goodIn_b (fun _ h => (List.mem_append_left _ (List.mem_append_left _ (List.mem_append_left _ (List.mem_append_left _ (List.mem_append_left _ (List.mem_append_left _ (List.mem_append_right _ h)))))))) ck_wsL_law_g)) (goodIn_b (fun _ h => (List.mem_append_left _ (List.mem_append_right _ h))) ck_wsL_law_g)
set_option maxRecDepth 20000 in
theorem gL_law_X6_isDone : GoodIn wsL_law (wsV RL 64 RX6 yX6_isDone wsX6_isDone) := goodIn_app (goodIn_of _ (by decide +kernel)) ggL_law_X6_isDone
set_option maxRecDepth 100000 in
theorem ggL_law_X7_isDone : GoodIn wsL_law wsX7_isDone := goodIn_ca (goodIn_2 ck_wsL_law [(21, 19), (3, 3), (11, 8), (11, 9), (11, 10), (0, 5), (11, 11), (11, 12), (11, 13), (11, 14), (11, 15), (11, 16), (11, 17), (11, 18), (11, 19), (9, 0), (9, 1), (9, 2), (9, 3)] ck_wsL_law_m ck_wsL_law_g rfl) (goodIn_b (fun _ h => (List.mem_append_left _ (List.mem_append_left _ (List.mem_append_left _ (List.mem_append_left _ (List.mem_append_left _ (List.mem_append_left _ (List.mem_append_left _ (List.mem_append_right _ h))))))))) ck_wsL_law_g)
set_option maxRecDepth 20000 in
theorem gL_law_X7_isDone : GoodIn wsL_law (wsV RL 67 RX7 yX7_isDone wsX7_isDone) := goodIn_app (goodIn_of _ (by decide +kernel)) ggL_law_X7_isDone
set_option maxRecDepth 100000 in
theorem ggL_law_X6_ofMerge : GoodIn wsL_law wsX6_ofMerge := goodIn_ca (goodIn_ca (goodIn_ca (goodIn_2 ck_wsL_law [(21, 23), (0, 15), (22, 0), (22, 1), (10, 19), (22, 2), (17, 19), (15, 4), (15, 5), (0, 14), (15, 6), (1, 21), (12, 15), (22, 3), (22, 4), (22, 5), (1, 15), (22, 6), (5, 18), (16, 18), (13, 13), (13, 14), (13, 15), (2, 9)] ck_wsL_law_m ck_wsL_law_g rfl) (goodIn_b (fun _ h => (List.mem_append_left _ (List.mem_append_left _ (List.mem_append_left _ (List.mem_append_left _ (List.mem_append_left _ (List.mem_append_left _ (List.mem_append_left _ (List.mem_append_left _ (List.mem_append_right _ h)))))))))) ck_wsL_law_g)) (goodIn_b (fun _ h => (List.mem_append_left _ (List.mem_append_left _ (List.mem_append_left _ (List.mem_append_left _ (List.mem_append_left _ (List.mem_append_left _ (List.mem_append_right _ h)))))))) ck_wsL_law_g)) (goodIn_b (fun _ h => (List.mem_append_left _ (List.mem_append_right _ h))) ck_wsL_law_g)
set_option maxRecDepth 20000 in
theorem gL_law_X6_ofMerge : GoodIn wsL_law (wsV RL 68 RX6 yX6_ofMerge wsX6_ofMerge) := goodIn_app (goodIn_of _ (by decide +kernel)) ggL_law_X6_ofMerge
set_option maxRecDepth 100000 in
theorem ggL_law_X7_ofMerge : GoodIn wsL_law wsX7_ofMerge := goodIn_ca (goodIn_2 ck_wsL_law [(22, 10), (3, 3), (8, 8), (8, 9), (0, 5), (8, 10), (14, 7), (14, 8), (14, 9), (14, 10), (11, 12), (11, 13), (11, 14), (11, 15), (11, 16), (11, 17), (11, 18), (11, 19), (9, 0), (9, 1), (9, 2), (9, 3), (9, 4), (9, 5), (9, 6), (9, 7), (19, 12), (19, 13), (19, 14), (19, 15), (19, 4), (19, 5), (19, 6), (19, 7)] ck_wsL_law_m ck_wsL_law_g rfl) (goodIn_b (fun _ h => (List.mem_append_left _ (List.mem_append_left _ (List.mem_append_left _ (List.mem_append_left _ (List.mem_append_left _ (List.mem_append_left _ (List.mem_append_left _ (List.mem_append_right _ h))))))))) ck_wsL_law_g)
set_option maxRecDepth 20000 in
theorem gL_law_X7_ofMerge : GoodIn wsL_law (wsV RL 71 RX7 yX7_ofMerge wsX7_ofMerge) := goodIn_app (goodIn_of _ (by decide +kernel)) ggL_law_X7_ofMerge
set_option maxRecDepth 100000 in
theorem ggL_law_X6_runs : GoodIn wsL_law wsX6_runs := goodIn_ca (goodIn_ca (goodIn_ca (goodIn_2 ck_wsL_law [(22, 14), (0, 15), (10, 18), (10, 19)] ck_wsL_law_m ck_wsL_law_g rfl) (goodIn_b (fun _ h => (List.mem_append_left _ (List.mem_append_left _ (List.mem_append_left _ (List.mem_append_left _ (List.mem_append_left _ (List.mem_append_left _ (List.mem_append_left _ (List.mem_append_left _ (List.mem_append_right _ h)))))))))) ck_wsL_law_g)) (goodIn_b (fun _ h => (List.mem_append_left _ (List.mem_append_left _ (List.mem_append_left _ (List.mem_append_left _ (List.mem_append_left _ (List.mem_append_left _ (List.mem_append_right _ h)))))))) ck_wsL_law_g)) (goodIn_b (fun _ h => (List.mem_append_left _ (List.mem_append_right _ h))) ck_wsL_law_g)
set_option maxRecDepth 20000 in
theorem gL_law_X6_runs : GoodIn wsL_law (wsV RL 72 RX6 yX6_runs wsX6_runs) := goodIn_app (goodIn_of _ (by decide +kernel)) ggL_law_X6_runs
set_option maxRecDepth 100000 in
theorem ggL_law_X7_runs : GoodIn wsL_law wsX7_runs := goodIn_ca (goodIn_2 ck_wsL_law [(22, 18), (11, 8), (11, 9), (11, 10), (0, 5), (11, 11), (11, 12), (11, 13), (11, 14), (11, 15), (11, 16), (11, 17), (11, 18), (11, 19), (3, 3), (9, 0), (9, 1), (9, 2), (9, 3)] ck_wsL_law_m ck_wsL_law_g rfl) (goodIn_b (fun _ h => (List.mem_append_left _ (List.mem_append_left _ (List.mem_append_left _ (List.mem_append_left _ (List.mem_append_left _ (List.mem_append_left _ (List.mem_append_left _ (List.mem_append_right _ h))))))))) ck_wsL_law_g)
set_option maxRecDepth 20000 in
theorem gL_law_X7_runs : GoodIn wsL_law (wsV RL 75 RX7 yX7_runs wsX7_runs) := goodIn_app (goodIn_of _ (by decide +kernel)) ggL_law_X7_runs
set_option maxRecDepth 100000 in
theorem ggL_law_X6_runAt : GoodIn wsL_law wsX6_runAt := goodIn_ca (goodIn_ca (goodIn_ca (goodIn_2 ck_wsL_law [(22, 22), (0, 15), (10, 18), (22, 23), (23, 0), (23, 1), (1, 15), (23, 2), (5, 18), (23, 3), (16, 20), (16, 21), (16, 22), (2, 7)] ck_wsL_law_m ck_wsL_law_g rfl) (goodIn_b (fun _ h => (List.mem_append_left _ (List.mem_append_left _ (List.mem_append_left _ (List.mem_append_left _ (List.mem_append_left _ (List.mem_append_left _ (List.mem_append_left _ (List.mem_append_left _ (List.mem_append_right _ h)))))))))) ck_wsL_law_g)) (goodIn_b (fun _ h => (List.mem_append_left _ (List.mem_append_left _ (List.mem_append_left _ (List.mem_append_left _ (List.mem_append_left _ (List.mem_append_left _ (List.mem_append_right _ h)))))))) ck_wsL_law_g)) (goodIn_b (fun _ h => (List.mem_append_left _ (List.mem_append_right _ h))) ck_wsL_law_g)
set_option maxRecDepth 20000 in
theorem gL_law_X6_runAt : GoodIn wsL_law (wsV RL 76 RX6 yX6_runAt wsX6_runAt) := goodIn_app (goodIn_of _ (by decide +kernel)) ggL_law_X6_runAt
set_option maxRecDepth 100000 in
theorem ggL_law_X7_runAt : GoodIn wsL_law wsX7_runAt := goodIn_ca (goodIn_2 ck_wsL_law [(23, 7), (11, 16), (11, 17), (11, 18), (0, 5), (11, 19), (3, 3), (9, 0), (9, 1), (9, 2), (9, 3)] ck_wsL_law_m ck_wsL_law_g rfl) (goodIn_b (fun _ h => (List.mem_append_left _ (List.mem_append_left _ (List.mem_append_left _ (List.mem_append_left _ (List.mem_append_left _ (List.mem_append_left _ (List.mem_append_left _ (List.mem_append_right _ h))))))))) ck_wsL_law_g)
set_option maxRecDepth 20000 in
theorem gL_law_X7_runAt : GoodIn wsL_law (wsV RL 79 RX7 yX7_runAt wsX7_runAt) := goodIn_app (goodIn_of _ (by decide +kernel)) ggL_law_X7_runAt
set_option maxRecDepth 100000 in
theorem ggL_law_X6_size : GoodIn wsL_law wsX6_size := goodIn_ca (goodIn_ca (goodIn_ca (goodIn_2 ck_wsL_law [(23, 11), (0, 15), (10, 18), (23, 12), (23, 13), (23, 14), (1, 15), (23, 15), (5, 18), (23, 16), (16, 20), (16, 21), (16, 22), (2, 7), (22, 23), (23, 0), (23, 1), (23, 2), (23, 17), (13, 13), (13, 14), (13, 15), (2, 9)] ck_wsL_law_m ck_wsL_law_g rfl) (goodIn_b (fun _ h => (List.mem_append_left _ (List.mem_append_left _ (List.mem_append_left _ (List.mem_append_left _ (List.mem_append_left _ (List.mem_append_left _ (List.mem_append_left _ (List.mem_append_left _ (List.mem_append_right _ h)))))))))) ck_wsL_law_g)) (goodIn_b (fun _ h => (List.mem_append_left _ (List.mem_append_left _ (List.mem_append_left _ (List.mem_append_left _ (List.mem_append_left _ (List.mem_append_left _ (List.mem_append_right _ h)))))))) ck_wsL_law_g)) (goodIn_b (fun _ h => (List.mem_append_left _ (List.mem_append_right _ h))) ck_wsL_law_g)
set_option maxRecDepth 20000 in
theorem gL_law_X6_size : GoodIn wsL_law (wsV RL 80 RX6 yX6_size wsX6_size) := goodIn_app (goodIn_of _ (by decide +kernel)) ggL_law_X6_size
set_option maxRecDepth 100000 in
theorem ggL_law_X7_size : GoodIn wsL_law wsX7_size := goodIn_ca (goodIn_2 ck_wsL_law [(23, 21), (23, 22), (23, 23), (24, 0), (0, 5), (24, 1), (3, 3), (8, 8), (8, 9), (8, 10), (9, 4), (9, 5), (9, 6), (9, 7), (9, 0), (9, 1), (9, 2), (9, 3)] ck_wsL_law_m ck_wsL_law_g rfl) (goodIn_b (fun _ h => (List.mem_append_left _ (List.mem_append_left _ (List.mem_append_left _ (List.mem_append_left _ (List.mem_append_left _ (List.mem_append_left _ (List.mem_append_left _ (List.mem_append_right _ h))))))))) ck_wsL_law_g)
set_option maxRecDepth 20000 in
theorem gL_law_X7_size : GoodIn wsL_law (wsV RL 83 RX7 yX7_size wsX7_size) := goodIn_app (goodIn_of _ (by decide +kernel)) ggL_law_X7_size
set_option maxRecDepth 100000 in
theorem ggL_law_X6_row : GoodIn wsL_law wsX6_row := goodIn_ca (goodIn_ca (goodIn_ca (goodIn_ca (goodIn_2 ck_wsL_law [(24, 5), (0, 15), (3, 15), (24, 6), (24, 7), (24, 8), (0, 14), (24, 9), (1, 16), (1, 12), (24, 10), (23, 13), (23, 14), (1, 15), (23, 15), (5, 18), (23, 16), (16, 20), (16, 21), (16, 22), (2, 7), (13, 12), (13, 13), (13, 14), (13, 15), (2, 9), (13, 8), (13, 9), (13, 10), (13, 11), (2, 8), (24, 11), (24, 12), (24, 13), (1, 11), (24, 14), (24, 15), (18, 9), (18, 10), (18, 11), (2, 3), (24, 16), (6, 17), (6, 18), (6, 19), (3, 23), (15, 21), (6, 8), (6, 9), (6, 10), (2, 1), (24, 17), (24, 18), (24, 19), (24, 20), (2, 2)] ck_wsL_law_m ck_wsL_law_g rfl) (goodIn_b (fun _ h => (List.mem_append_left _ (List.mem_append_left _ (List.mem_append_left _ (List.mem_append_left _ (List.mem_append_left _ (List.mem_append_left _ (List.mem_append_left _ (List.mem_append_left _ (List.mem_append_right _ h)))))))))) ck_wsL_law_g)) (goodIn_b (fun _ h => (List.mem_append_left _ (List.mem_append_left _ (List.mem_append_left _ (List.mem_append_left _ (List.mem_append_left _ (List.mem_append_left _ (List.mem_append_right _ h)))))))) ck_wsL_law_g)) (goodIn_b (fun _ h => (List.mem_append_left _ (List.mem_append_right _ h))) ck_wsL_law_g)) (goodIn_b (fun _ h => (List.mem_append_left _ (List.mem_append_left _ (List.mem_append_right _ h)))) ck_wsL_law_g)
set_option maxRecDepth 20000 in
theorem gL_law_X6_row : GoodIn wsL_law (wsV RL 84 RX6 yX6_row wsX6_row) := goodIn_app (goodIn_of _ (by decide +kernel)) ggL_law_X6_row
set_option maxRecDepth 100000 in
theorem ggL_law_X7_row : GoodIn wsL_law wsX7_row := goodIn_ca (goodIn_2 ck_wsL_law [(25, 0), (3, 3), (23, 22), (23, 23), (24, 0), (0, 5), (24, 1), (8, 8), (8, 9), (8, 10), (9, 4), (9, 5), (9, 6), (9, 7), (9, 0), (9, 1), (9, 2), (9, 3), (25, 1), (25, 2), (25, 3), (25, 4)] ck_wsL_law_m ck_wsL_law_g rfl) (goodIn_b (fun _ h => (List.mem_append_left _ (List.mem_append_left _ (List.mem_append_left _ (List.mem_append_left _ (List.mem_append_left _ (List.mem_append_left _ (List.mem_append_left _ (List.mem_append_right _ h))))))))) ck_wsL_law_g)
set_option maxRecDepth 20000 in
theorem gL_law_X7_row : GoodIn wsL_law (wsV RL 88 RX7 yX7_row wsX7_row) := goodIn_app (goodIn_of _ (by decide +kernel)) ggL_law_X7_row
set_option maxRecDepth 100000 in
theorem ggL_law_X6_count : GoodIn wsL_law wsX6_count := goodIn_ca (goodIn_ca (goodIn_ca (goodIn_2 ck_wsL_law [(25, 8), (0, 15), (3, 15), (9, 20), (25, 9), (25, 10), (25, 11), (25, 12), (25, 13), (25, 14), (25, 15), (1, 11), (25, 16), (3, 23), (25, 17), (24, 18), (24, 19), (24, 20), (2, 2), (25, 18), (25, 19), (25, 20), (25, 21), (25, 22), (6, 8), (6, 9), (6, 10), (2, 1)] ck_wsL_law_m ck_wsL_law_g rfl) (goodIn_b (fun _ h => (List.mem_append_left _ (List.mem_append_left _ (List.mem_append_left _ (List.mem_append_left _ (List.mem_append_left _ (List.mem_append_left _ (List.mem_append_left _ (List.mem_append_left _ (List.mem_append_right _ h)))))))))) ck_wsL_law_g)) (goodIn_b (fun _ h => (List.mem_append_left _ (List.mem_append_left _ (List.mem_append_left _ (List.mem_append_left _ (List.mem_append_left _ (List.mem_append_left _ (List.mem_append_right _ h)))))))) ck_wsL_law_g)) (goodIn_b (fun _ h => (List.mem_append_left _ (List.mem_append_left _ (List.mem_append_right _ h)))) ck_wsL_law_g)
set_option maxRecDepth 20000 in
theorem gL_law_X6_count : GoodIn wsL_law (wsV RL 89 RX6 yX6_count wsX6_count) := goodIn_app (goodIn_of _ (by decide +kernel)) ggL_law_X6_count
set_option maxRecDepth 100000 in
theorem ggL_law_X7_count : GoodIn wsL_law wsX7_count := goodIn_ca (goodIn_2 ck_wsL_law [(26, 2), (3, 3), (26, 3), (26, 4), (26, 5), (0, 5), (26, 6), (9, 0), (9, 1), (9, 2), (9, 3), (26, 7), (26, 8), (26, 9), (26, 10)] ck_wsL_law_m ck_wsL_law_g rfl) (goodIn_b (fun _ h => (List.mem_append_left _ (List.mem_append_left _ (List.mem_append_left _ (List.mem_append_left _ (List.mem_append_left _ (List.mem_append_left _ (List.mem_append_left _ (List.mem_append_right _ h))))))))) ck_wsL_law_g)
set_option maxRecDepth 20000 in
theorem gL_law_X7_count : GoodIn wsL_law (wsV RL 92 RX7 yX7_count wsX7_count) := goodIn_app (goodIn_of _ (by decide +kernel)) ggL_law_X7_count
set_option maxRecDepth 100000 in
theorem ggL_law_X6_rank : GoodIn wsL_law wsX6_rank := goodIn_ca (goodIn_ca (goodIn_ca (goodIn_2 ck_wsL_law [(26, 14), (0, 15), (3, 15), (3, 16), (3, 17), (0, 2), (3, 18), (25, 18), (25, 19), (25, 20), (1, 11), (25, 21), (3, 23), (25, 22), (6, 8), (6, 9), (6, 10), (2, 1), (25, 17), (24, 18), (24, 19), (24, 20), (2, 2)] ck_wsL_law_m ck_wsL_law_g rfl) (goodIn_b (fun _ h => (List.mem_append_left _ (List.mem_append_left _ (List.mem_append_left _ (List.mem_append_left _ (List.mem_append_left _ (List.mem_append_left _ (List.mem_append_left _ (List.mem_append_left _ (List.mem_append_right _ h)))))))))) ck_wsL_law_g)) (goodIn_b (fun _ h => (List.mem_append_left _ (List.mem_append_left _ (List.mem_append_left _ (List.mem_append_left _ (List.mem_append_left _ (List.mem_append_left _ (List.mem_append_right _ h)))))))) ck_wsL_law_g)) (goodIn_b (fun _ h => (List.mem_append_left _ (List.mem_append_left _ (List.mem_append_right _ h)))) ck_wsL_law_g)
set_option maxRecDepth 20000 in
theorem gL_law_X6_rank : GoodIn wsL_law (wsV RL 93 RX6 yX6_rank wsX6_rank) := goodIn_app (goodIn_of _ (by decide +kernel)) ggL_law_X6_rank
set_option maxRecDepth 100000 in
theorem ggL_law_X7_rank : GoodIn wsL_law wsX7_rank := goodIn_ca (goodIn_2 ck_wsL_law [(26, 18), (8, 8), (8, 9), (0, 5), (8, 10), (26, 7), (26, 8), (26, 9), (26, 10), (3, 3)] ck_wsL_law_m ck_wsL_law_g rfl) (goodIn_b (fun _ h => (List.mem_append_left _ (List.mem_append_left _ (List.mem_append_left _ (List.mem_append_left _ (List.mem_append_left _ (List.mem_append_left _ (List.mem_append_left _ (List.mem_append_right _ h))))))))) ck_wsL_law_g)
set_option maxRecDepth 20000 in
theorem gL_law_X7_rank : GoodIn wsL_law (wsV RL 96 RX7 yX7_rank wsX7_rank) := goodIn_app (goodIn_of _ (by decide +kernel)) ggL_law_X7_rank
set_option maxRecDepth 100000 in
theorem ggL_law_X6_costsWith : GoodIn wsL_law wsX6_costsWith := goodIn_ca (goodIn_ca (goodIn_ca (goodIn_ca (goodIn_2 ck_wsL_law [(26, 22), (0, 16), (25, 9), (0, 15), (12, 8), (12, 9), (0, 2), (12, 10), (26, 23), (27, 0), (27, 1), (27, 2), (27, 3), (4, 15), (4, 16), (0, 14), (4, 17), (1, 12), (1, 16), (4, 18), (1, 17), (1, 18), (1, 20), (4, 19), (4, 20), (4, 21), (4, 22), (4, 23), (1, 21), (5, 0), (5, 1), (5, 2), (5, 3), (5, 4), (5, 5), (5, 6), (5, 7), (5, 8), (5, 9), (5, 10), (1, 11), (5, 11), (2, 1), (5, 12), (2, 2), (2, 3), (3, 23), (5, 13), (5, 14), (5, 15), (1, 15), (5, 16), (2, 7), (5, 17), (2, 8), (2, 9), (5, 18), (12, 11), (12, 12), (12, 13), (12, 14), (12, 15), (7, 0), (7, 1), (7, 2), (7, 3), (7, 4), (7, 5), (7, 6), (7, 7), (6, 3), (6, 4), (6, 5), (6, 6), (7, 8), (7, 9), (7, 10), (7, 11), (7, 12), (7, 13), (7, 14), (7, 15), (7, 16), (7, 17), (7, 18), (7, 19), (7, 20), (7, 21), (7, 22), (7, 23), (8, 0), (8, 1), (8, 2), (8, 3), (12, 16), (12, 17), (12, 18), (12, 19), (12, 20), (12, 21), (12, 22), (12, 23), (13, 0), (13, 1), (13, 2), (13, 3), (13, 4), (13, 5), (13, 6), (13, 7), (13, 8), (13, 9), (13, 10), (13, 11), (13, 12), (13, 13), (13, 14), (13, 15), (13, 16), (13, 17), (13, 18), (13, 19), (19, 20), (19, 21), (19, 22), (19, 23), (15, 3), (15, 4), (15, 5), (15, 6), (20, 0), (20, 1), (20, 2), (20, 3), (20, 4), (10, 21), (10, 22), (10, 23), (20, 5), (17, 21), (17, 22), (17, 23), (18, 0), (18, 1), (18, 2), (18, 3), (18, 4), (18, 5), (18, 6), (18, 7), (18, 8), (18, 9), (18, 10), (18, 11), (18, 12), (18, 13), (18, 14), (18, 15), (16, 23), (17, 0), (17, 1), (17, 2), (6, 7), (6, 8), (6, 9), (6, 10), (6, 20), (6, 21), (6, 22), (6, 23), (20, 6), (16, 7), (16, 8), (16, 9), (20, 7), (16, 11), (16, 12), (16, 13), (16, 14), (16, 15), (16, 16), (16, 17), (16, 18), (16, 19), (16, 20), (16, 21), (16, 22)] ck_wsL_law_m ck_wsL_law_g rfl) (goodIn_b (fun _ h => (List.mem_append_left _ (List.mem_append_left _ (List.mem_append_left _ (List.mem_append_left _ (List.mem_append_left _ (List.mem_append_left _ (List.mem_append_left _ (List.mem_append_left _ (List.mem_append_right _ h)))))))))) ck_wsL_law_g)) (goodIn_b (fun _ h => (List.mem_append_left _ (List.mem_append_left _ (List.mem_append_left _ (List.mem_append_left _ (List.mem_append_left _ (List.mem_append_left _ (List.mem_append_right _ h)))))))) ck_wsL_law_g)) (goodIn_b (fun _ h => (List.mem_append_left _ (List.mem_append_left _ (List.mem_append_right _ h)))) ck_wsL_law_g)) (goodIn_b (fun _ h => (List.mem_append_left _ (List.mem_append_right _ h))) ck_wsL_law_g)
set_option maxRecDepth 20000 in
theorem gL_law_X6_costsWith : GoodIn wsL_law (wsV RL 97 RX6 yX6_costsWith wsX6_costsWith) := goodIn_app (goodIn_of _ (by decide +kernel)) ggL_law_X6_costsWith
set_option maxRecDepth 100000 in
theorem ggL_law_X7_costsWith : GoodIn wsL_law wsX7_costsWith := goodIn_ca (goodIn_2 ck_wsL_law [(27, 7), (14, 0), (14, 1), (0, 5), (14, 2), (8, 8), (8, 9), (8, 10), (27, 8), (27, 9), (27, 10), (27, 11), (3, 6), (3, 3), (14, 3), (14, 4), (14, 5), (14, 6), (9, 4), (9, 5), (9, 6), (9, 7), (9, 0), (9, 1), (9, 2), (9, 3), (9, 8), (9, 9), (9, 10), (9, 11), (9, 12), (9, 13), (9, 14), (9, 15), (14, 7), (14, 8), (14, 9), (14, 10), (11, 12), (11, 13), (11, 14), (11, 15), (11, 16), (11, 17), (11, 18), (11, 19), (14, 11), (14, 12), (14, 13), (14, 14), (14, 15), (14, 16), (14, 17), (20, 12), (20, 13), (20, 14), (20, 15), (20, 16), (20, 17), (20, 18), (20, 19), (11, 8), (11, 9), (11, 10), (11, 11), (20, 20), (20, 21), (20, 22), (20, 23), (11, 4), (11, 5), (11, 6), (11, 7), (17, 7), (17, 8), (17, 9), (17, 10), (17, 11), (17, 12), (17, 13), (17, 14), (18, 20), (18, 21), (18, 22), (18, 23), (19, 0), (19, 1), (19, 2), (19, 3), (19, 4), (19, 5), (19, 6), (19, 7), (19, 8), (19, 9), (19, 10), (19, 11), (19, 12), (19, 13), (19, 14), (19, 15)] ck_wsL_law_m ck_wsL_law_g rfl) (goodIn_b (fun _ h => (List.mem_append_left _ (List.mem_append_left _ (List.mem_append_left _ (List.mem_append_left _ (List.mem_append_left _ (List.mem_append_left _ (List.mem_append_left _ (List.mem_append_right _ h))))))))) ck_wsL_law_g)
set_option maxRecDepth 20000 in
theorem gL_law_X7_costsWith : GoodIn wsL_law (wsV RL 100 RX7 yX7_costsWith wsX7_costsWith) := goodIn_app (goodIn_of _ (by decide +kernel)) ggL_law_X7_costsWith
set_option maxRecDepth 100000 in
theorem ggL_law_X6_mergesWith : GoodIn wsL_law wsX6_mergesWith := goodIn_ca (goodIn_ca (goodIn_ca (goodIn_ca (goodIn_2 ck_wsL_law [(27, 15), (0, 16), (25, 10), (0, 15), (12, 8), (12, 9), (0, 2), (12, 10), (26, 23), (27, 0), (27, 1), (27, 2), (27, 3), (4, 15), (4, 16), (0, 14), (4, 17), (1, 12), (1, 16), (4, 18), (1, 17), (1, 18), (1, 20), (4, 19), (4, 20), (4, 21), (4, 22), (4, 23), (1, 21), (5, 0), (5, 1), (5, 2), (5, 3), (5, 4), (5, 5), (5, 6), (5, 7), (5, 8), (5, 9), (5, 10), (1, 11), (5, 11), (2, 1), (5, 12), (2, 2), (2, 3), (3, 23), (5, 13), (5, 14), (5, 15), (1, 15), (5, 16), (2, 7), (5, 17), (2, 8), (2, 9), (5, 18), (12, 11), (12, 12), (12, 13), (12, 14), (12, 15), (7, 0), (7, 1), (7, 2), (7, 3), (7, 4), (7, 5), (7, 6), (7, 7), (6, 3), (6, 4), (6, 5), (6, 6), (7, 8), (7, 9), (7, 10), (7, 11), (7, 12), (7, 13), (7, 14), (7, 15), (7, 16), (7, 17), (7, 18), (7, 19), (7, 20), (7, 21), (7, 22), (7, 23), (8, 0), (8, 1), (8, 2), (8, 3), (12, 16), (12, 17), (12, 18), (12, 19), (12, 20), (12, 21), (12, 22), (12, 23), (13, 0), (13, 1), (13, 2), (13, 3), (13, 4), (13, 5), (13, 6), (13, 7), (13, 8), (13, 9), (13, 10), (13, 11), (13, 12), (13, 13), (13, 14), (13, 15), (13, 16), (13, 17), (13, 18), (13, 19), (19, 20), (19, 21), (19, 22), (19, 23), (15, 3), (15, 4), (15, 5), (15, 6), (20, 0), (20, 1), (20, 2), (20, 3), (20, 4), (10, 21), (10, 22), (10, 23), (20, 5), (17, 21), (17, 22), (17, 23), (18, 0), (18, 1), (18, 2), (18, 3), (18, 4), (18, 5), (18, 6), (18, 7), (18, 8), (18, 9), (18, 10), (18, 11), (18, 12), (18, 13), (18, 14), (18, 15), (16, 23), (17, 0), (17, 1), (17, 2), (6, 7), (6, 8), (6, 9), (6, 10), (6, 20), (6, 21), (6, 22), (6, 23), (20, 6), (16, 7), (16, 8), (16, 9), (20, 7), (16, 11), (16, 12), (16, 13), (16, 14), (16, 15), (16, 16), (16, 17), (16, 18), (16, 19), (16, 20), (16, 21), (16, 22)] ck_wsL_law_m ck_wsL_law_g rfl) (goodIn_b (fun _ h => (List.mem_append_left _ (List.mem_append_left _ (List.mem_append_left _ (List.mem_append_left _ (List.mem_append_left _ (List.mem_append_left _ (List.mem_append_left _ (List.mem_append_left _ (List.mem_append_right _ h)))))))))) ck_wsL_law_g)) (goodIn_b (fun _ h => (List.mem_append_left _ (List.mem_append_left _ (List.mem_append_left _ (List.mem_append_left _ (List.mem_append_left _ (List.mem_append_left _ (List.mem_append_right _ h)))))))) ck_wsL_law_g)) (goodIn_b (fun _ h => (List.mem_append_left _ (List.mem_append_left _ (List.mem_append_right _ h)))) ck_wsL_law_g)) (goodIn_b (fun _ h => (List.mem_append_left _ (List.mem_append_right _ h))) ck_wsL_law_g)
set_option maxRecDepth 20000 in
theorem gL_law_X6_mergesWith : GoodIn wsL_law (wsV RL 101 RX6 yX6_mergesWith wsX6_mergesWith) := goodIn_app (goodIn_of _ (by decide +kernel)) ggL_law_X6_mergesWith
set_option maxRecDepth 100000 in
theorem ggL_law_X7_mergesWith : GoodIn wsL_law wsX7_mergesWith := goodIn_ca (goodIn_2 ck_wsL_law [(27, 19), (14, 0), (14, 1), (0, 5), (14, 2), (8, 8), (8, 9), (8, 10), (27, 8), (27, 9), (27, 10), (27, 11), (3, 6), (3, 3), (14, 3), (14, 4), (14, 5), (14, 6), (9, 4), (9, 5), (9, 6), (9, 7), (9, 0), (9, 1), (9, 2), (9, 3), (9, 8), (9, 9), (9, 10), (9, 11), (9, 12), (9, 13), (9, 14), (9, 15), (14, 7), (14, 8), (14, 9), (14, 10), (11, 12), (11, 13), (11, 14), (11, 15), (11, 16), (11, 17), (11, 18), (11, 19), (14, 11), (14, 12), (14, 13), (14, 14), (14, 15), (14, 16), (14, 17), (20, 12), (20, 13), (20, 14), (20, 15), (20, 16), (20, 17), (20, 18), (20, 19), (11, 8), (11, 9), (11, 10), (11, 11), (20, 20), (20, 21), (20, 22), (20, 23), (11, 4), (11, 5), (11, 6), (11, 7), (17, 7), (17, 8), (17, 9), (17, 10), (17, 11), (17, 12), (17, 13), (17, 14), (18, 20), (18, 21), (18, 22), (18, 23), (19, 0), (19, 1), (19, 2), (19, 3), (19, 4), (19, 5), (19, 6), (19, 7), (19, 8), (19, 9), (19, 10), (19, 11), (19, 12), (19, 13), (19, 14), (19, 15)] ck_wsL_law_m ck_wsL_law_g rfl) (goodIn_b (fun _ h => (List.mem_append_left _ (List.mem_append_left _ (List.mem_append_left _ (List.mem_append_left _ (List.mem_append_left _ (List.mem_append_left _ (List.mem_append_left _ (List.mem_append_right _ h))))))))) ck_wsL_law_g)
set_option maxRecDepth 20000 in
theorem gL_law_X7_mergesWith : GoodIn wsL_law (wsV RL 104 RX7 yX7_mergesWith wsX7_mergesWith) := goodIn_app (goodIn_of _ (by decide +kernel)) ggL_law_X7_mergesWith
set_option maxRecDepth 100000 in
theorem ggL_law_X6_bestSize : GoodIn wsL_law wsX6_bestSize := goodIn_ca (goodIn_ca (goodIn_ca (goodIn_ca (goodIn_2 ck_wsL_law [(27, 23), (0, 16), (25, 9), (26, 23), (27, 0), (27, 1), (0, 2), (27, 2), (0, 15), (27, 3), (4, 15), (4, 16), (0, 14), (4, 17), (1, 12), (1, 16), (4, 18), (1, 17), (1, 18), (1, 20), (4, 19), (4, 20), (4, 21), (4, 22), (4, 23), (1, 21), (5, 0), (5, 1), (5, 2), (5, 3), (5, 4), (5, 5), (5, 6), (5, 7), (5, 8), (5, 9), (5, 10), (1, 11), (5, 11), (2, 1), (5, 12), (2, 2), (2, 3), (3, 23), (5, 13), (5, 14), (5, 15), (1, 15), (5, 16), (2, 7), (5, 17), (2, 8), (2, 9), (5, 18), (12, 11), (12, 12), (12, 13), (12, 14), (12, 15), (7, 0), (7, 1), (7, 2), (7, 3), (7, 4), (7, 5), (7, 6), (7, 7), (6, 3), (6, 4), (6, 5), (6, 6), (7, 8), (7, 9), (7, 10), (7, 11), (7, 12), (7, 13), (7, 14), (7, 15), (7, 16), (7, 17), (7, 18), (7, 19), (7, 20), (7, 21), (7, 22), (7, 23), (8, 0), (8, 1), (8, 2), (8, 3), (12, 16), (12, 17), (12, 18), (12, 19), (12, 20), (12, 21), (12, 22), (12, 23), (13, 0), (13, 1), (13, 2), (13, 3), (13, 4), (13, 5), (13, 6), (13, 7), (13, 8), (13, 9), (13, 10), (13, 11), (13, 12), (13, 13), (13, 14), (13, 15), (13, 16), (13, 17), (13, 18), (13, 19), (19, 20), (19, 21), (19, 22), (19, 23), (15, 3), (15, 4), (15, 5), (15, 6), (20, 0), (20, 1), (20, 2), (20, 3), (20, 4), (10, 21), (10, 22), (10, 23), (20, 5), (17, 21), (17, 22), (17, 23), (18, 0), (18, 1), (18, 2), (18, 3), (18, 4), (18, 5), (18, 6), (18, 7), (18, 8), (18, 9), (18, 10), (18, 11), (18, 12), (18, 13), (18, 14), (18, 15), (16, 23), (17, 0), (17, 1), (17, 2), (6, 7), (6, 8), (6, 9), (6, 10), (6, 20), (6, 21), (6, 22), (6, 23), (20, 6), (16, 7), (16, 8), (16, 9), (20, 7), (16, 11), (16, 12), (16, 13), (16, 14), (16, 15), (16, 16), (16, 17), (16, 18), (16, 19), (16, 20), (16, 21), (16, 22)] ck_wsL_law_m ck_wsL_law_g rfl) (goodIn_b (fun _ h => (List.mem_append_left _ (List.mem_append_left _ (List.mem_append_left _ (List.mem_append_left _ (List.mem_append_left _ (List.mem_append_left _ (List.mem_append_left _ (List.mem_append_left _ (List.mem_append_right _ h)))))))))) ck_wsL_law_g)) (goodIn_b (fun _ h => (List.mem_append_left _ (List.mem_append_left _ (List.mem_append_left _ (List.mem_append_left _ (List.mem_append_left _ (List.mem_append_left _ (List.mem_append_right _ h)))))))) ck_wsL_law_g)) (goodIn_b (fun _ h => (List.mem_append_left _ (List.mem_append_left _ (List.mem_append_right _ h)))) ck_wsL_law_g)) (goodIn_b (fun _ h => (List.mem_append_left _ (List.mem_append_right _ h))) ck_wsL_law_g)
set_option maxRecDepth 20000 in
theorem gL_law_X6_bestSize : GoodIn wsL_law (wsV RL 105 RX6 yX6_bestSize wsX6_bestSize) := goodIn_app (goodIn_of _ (by decide +kernel)) ggL_law_X6_bestSize
set_option maxRecDepth 100000 in
theorem ggL_law_X7_bestSize : GoodIn wsL_law wsX7_bestSize := goodIn_ca (goodIn_2 ck_wsL_law [(28, 3), (27, 8), (27, 9), (27, 10), (0, 5), (27, 11), (3, 6), (3, 3), (14, 3), (14, 4), (14, 5), (14, 6), (9, 4), (9, 5), (9, 6), (9, 7), (9, 0), (9, 1), (9, 2), (9, 3), (9, 8), (9, 9), (9, 10), (9, 11), (9, 12), (9, 13), (9, 14), (9, 15), (14, 7), (14, 8), (14, 9), (14, 10), (11, 12), (11, 13), (11, 14), (11, 15), (11, 16), (11, 17), (11, 18), (11, 19), (14, 11), (14, 12), (14, 13), (14, 14), (14, 15), (14, 16), (14, 17), (20, 12), (20, 13), (20, 14), (20, 15), (20, 16), (20, 17), (20, 18), (20, 19), (11, 8), (11, 9), (11, 10), (11, 11), (20, 20), (20, 21), (20, 22), (20, 23), (11, 4), (11, 5), (11, 6), (11, 7), (17, 7), (17, 8), (17, 9), (17, 10), (17, 11), (17, 12), (17, 13), (17, 14), (18, 20), (18, 21), (18, 22), (18, 23), (19, 0), (19, 1), (19, 2), (19, 3), (19, 4), (19, 5), (19, 6), (19, 7), (19, 8), (19, 9), (19, 10), (19, 11), (19, 12), (19, 13), (19, 14), (19, 15)] ck_wsL_law_m ck_wsL_law_g rfl) (goodIn_b (fun _ h => (List.mem_append_left _ (List.mem_append_left _ (List.mem_append_left _ (List.mem_append_left _ (List.mem_append_left _ (List.mem_append_left _ (List.mem_append_left _ (List.mem_append_right _ h))))))))) ck_wsL_law_g)
set_option maxRecDepth 20000 in
theorem gL_law_X7_bestSize : GoodIn wsL_law (wsV RL 108 RX7 yX7_bestSize wsX7_bestSize) := goodIn_app (goodIn_of _ (by decide +kernel)) ggL_law_X7_bestSize
set_option maxRecDepth 100000 in
theorem ggL_law_X6_append : GoodIn wsL_law wsX6_append := goodIn_ca (goodIn_ca (goodIn_2 ck_wsL_law [(28, 7), (1, 1), (28, 8), (28, 9), (28, 10), (1, 0), (28, 11), (28, 12), (28, 13), (28, 14), (28, 15), (28, 16), (2, 19), (28, 17)] ck_wsL_law_m ck_wsL_law_g rfl) (goodIn_b (fun _ h => (List.mem_append_left _ (List.mem_append_left _ (List.mem_append_left _ (List.mem_append_left _ (List.mem_append_left _ (List.mem_append_left _ (List.mem_append_left _ (List.mem_append_left _ (List.mem_append_right _ h)))))))))) ck_wsL_law_g)) (goodIn_b (fun _ h => (List.mem_append_left _ (List.mem_append_left _ (List.mem_append_left _ (List.mem_append_left _ (List.mem_append_right _ h)))))) ck_wsL_law_g)
set_option maxRecDepth 20000 in
theorem gL_law_X6_append : GoodIn wsL_law (wsV RL 109 RX6 yX6_append wsX6_append) := goodIn_app (goodIn_of _ (by decide +kernel)) ggL_law_X6_append
set_option maxRecDepth 100000 in
theorem ggL_law_X7_append : GoodIn wsL_law wsX7_append := goodIn_ca (goodIn_2 ck_wsL_law [(28, 21), (28, 22), (3, 8), (8, 8), (8, 9), (0, 5), (8, 10)] ck_wsL_law_m ck_wsL_law_g rfl) (goodIn_b (fun _ h => (List.mem_append_left _ (List.mem_append_left _ (List.mem_append_left _ (List.mem_append_left _ (List.mem_append_left _ (List.mem_append_left _ (List.mem_append_left _ (List.mem_append_right _ h))))))))) ck_wsL_law_g)
set_option maxRecDepth 20000 in
theorem gL_law_X7_append : GoodIn wsL_law (wsV RL 112 RX7 yX7_append wsX7_append) := goodIn_app (goodIn_of _ (by decide +kernel)) ggL_law_X7_append
set_option maxRecDepth 100000 in
theorem ggL_law_X6_clearText : GoodIn wsL_law wsX6_clearText := goodIn_ca (goodIn_ca (goodIn_2 ck_wsL_law [(29, 2), (1, 1), (29, 3), (29, 4), (29, 5), (1, 0), (29, 6), (28, 12)] ck_wsL_law_m ck_wsL_law_g rfl) (goodIn_b (fun _ h => (List.mem_append_left _ (List.mem_append_left _ (List.mem_append_left _ (List.mem_append_left _ (List.mem_append_left _ (List.mem_append_left _ (List.mem_append_left _ (List.mem_append_left _ (List.mem_append_right _ h)))))))))) ck_wsL_law_g)) (goodIn_b (fun _ h => (List.mem_append_left _ (List.mem_append_left _ (List.mem_append_left _ (List.mem_append_left _ (List.mem_append_right _ h)))))) ck_wsL_law_g)
set_option maxRecDepth 20000 in
theorem gL_law_X6_clearText : GoodIn wsL_law (wsV RL 113 RX6 yX6_clearText wsX6_clearText) := goodIn_app (goodIn_of _ (by decide +kernel)) ggL_law_X6_clearText
set_option maxRecDepth 100000 in
theorem ggL_law_X7_clearText : GoodIn wsL_law wsX7_clearText := goodIn_ca (goodIn_2 ck_wsL_law [(29, 10), (28, 22)] ck_wsL_law_m ck_wsL_law_g rfl) (goodIn_b (fun _ h => (List.mem_append_left _ (List.mem_append_left _ (List.mem_append_left _ (List.mem_append_left _ (List.mem_append_left _ (List.mem_append_left _ (List.mem_append_left _ (List.mem_append_right _ h))))))))) ck_wsL_law_g)
set_option maxRecDepth 20000 in
theorem gL_law_X7_clearText : GoodIn wsL_law (wsV RL 116 RX7 yX7_clearText wsX7_clearText) := goodIn_app (goodIn_of _ (by decide +kernel)) ggL_law_X7_clearText
set_option maxRecDepth 100000 in
theorem ggL_law_X6_errorPosition : GoodIn wsL_law wsX6_errorPosition := goodIn_ca (goodIn_ca (goodIn_ca (goodIn_2 ck_wsL_law [(29, 14), (1, 5), (1, 1), (29, 15), (29, 16), (29, 17), (29, 18), (1, 4), (29, 19), (29, 20), (29, 21), (29, 22), (29, 23), (30, 0), (30, 1), (30, 2), (30, 3), (30, 4), (30, 5), (30, 6), (30, 7), (1, 0), (30, 8), (28, 12), (2, 19), (30, 9), (30, 10), (30, 11), (30, 12), (30, 13), (30, 14), (30, 15), (30, 16), (30, 17), (30, 18), (30, 19), (30, 20), (30, 21), (30, 22), (30, 23), (31, 0), (31, 1), (31, 2), (31, 3), (31, 4), (31, 5), (31, 6), (31, 7), (31, 8), (31, 9), (31, 10), (31, 11)] ck_wsL_law_m ck_wsL_law_g rfl) (goodIn_b (fun _ h => (List.mem_append_left _ (List.mem_append_left _ (List.mem_append_left _ (List.mem_append_left _ (List.mem_append_left _ (List.mem_append_left _ (List.mem_append_left _ (List.mem_append_left _ (List.mem_append_right _ h)))))))))) ck_wsL_law_g)) (goodIn_b (fun _ h => (List.mem_append_left _ (List.mem_append_left _ (List.mem_append_left _ (List.mem_append_left _ (List.mem_append_right _ h)))))) ck_wsL_law_g)) (goodIn_b (fun _ h => (List.mem_append_left _ (List.mem_append_left _ (List.mem_append_left _ (List.mem_append_right _ h))))) ck_wsL_law_g)
set_option maxRecDepth 20000 in
theorem gL_law_X6_errorPosition : GoodIn wsL_law (wsV RL 117 RX6 yX6_errorPosition wsX6_errorPosition) := goodIn_app (goodIn_of _ (by decide +kernel)) ggL_law_X6_errorPosition
set_option maxRecDepth 100000 in
theorem ggL_law_X7_errorPosition : GoodIn wsL_law wsX7_errorPosition := goodIn_ca (goodIn_2 ck_wsL_law [(31, 15), (31, 16), (31, 17), (31, 18), (28, 22), (31, 19), (31, 20), (31, 21), (0, 5), (31, 22), (3, 9), (31, 23), (32, 0), (32, 1), (32, 2), (32, 3), (32, 4), (32, 5), (32, 6), (32, 7), (32, 8), (32, 9), (32, 10), (3, 8), (8, 8), (8, 9), (8, 10), (32, 11), (32, 12), (32, 13), (32, 14), (32, 15), (32, 16), (32, 17), (32, 18), (32, 19), (32, 20), (32, 21), (32, 22)] ck_wsL_law_m ck_wsL_law_g rfl) (goodIn_b (fun _ h => (List.mem_append_left _ (List.mem_append_left _ (List.mem_append_left _ (List.mem_append_left _ (List.mem_append_left _ (List.mem_append_left _ (List.mem_append_left _ (List.mem_append_right _ h))))))))) ck_wsL_law_g)
set_option maxRecDepth 20000 in
theorem gL_law_X7_errorPosition : GoodIn wsL_law (wsV RL 120 RX7 yX7_errorPosition wsX7_errorPosition) := goodIn_app (goodIn_of _ (by decide +kernel)) ggL_law_X7_errorPosition
set_option maxRecDepth 100000 in
theorem ggL_law_X6_read : GoodIn wsL_law wsX6_read := goodIn_ca (goodIn_ca (goodIn_ca (goodIn_ca (goodIn_ca (goodIn_ca (goodIn_ca (goodIn_2 ck_wsL_law [(33, 2), (0, 15), (3, 14), (0, 21), (3, 15), (9, 20), (1, 1), (33, 3), (29, 12), (29, 13), (0, 2), (29, 14), (1, 5), (29, 15), (29, 16), (29, 17), (29, 18), (1, 4), (29, 19), (29, 20), (29, 21), (29, 22), (29, 23), (30, 0), (30, 1), (30, 2), (30, 3), (30, 4), (30, 5), (30, 6), (30, 7), (1, 0), (30, 8), (28, 12), (2, 19), (30, 9), (30, 10), (30, 11), (30, 12), (30, 13), (30, 14), (30, 15), (30, 16), (30, 17), (30, 18), (30, 19), (30, 20), (30, 21), (30, 22), (30, 23), (31, 0), (31, 1), (31, 2), (31, 3), (31, 4), (31, 5), (31, 6), (31, 7), (31, 8), (31, 9), (31, 10), (31, 11), (4, 0), (4, 1), (4, 2), (0, 20), (4, 3), (4, 4), (4, 5), (4, 6), (4, 7), (4, 8), (4, 9), (2, 15), (4, 10), (4, 11), (4, 12), (4, 13), (4, 14), (4, 15), (4, 16), (0, 14), (4, 17), (1, 12), (1, 16), (4, 18), (1, 17), (1, 18), (1, 20), (4, 19), (4, 20), (4, 21), (4, 22), (4, 23), (1, 21), (5, 0), (5, 1), (5, 2), (5, 3), (5, 4), (5, 5), (5, 6), (5, 7), (5, 8), (5, 9), (5, 10), (1, 11), (5, 11), (2, 1), (5, 12), (2, 2), (2, 3), (3, 23), (5, 13), (5, 14), (5, 15), (1, 15), (5, 16), (2, 7), (5, 17), (2, 8), (2, 9), (5, 18), (33, 4), (33, 5), (33, 6), (33, 7), (33, 8), (33, 9), (33, 10), (33, 11), (33, 12), (33, 13), (33, 14), (33, 15), (3, 19), (3, 20), (3, 21), (3, 22), (33, 16), (33, 17), (33, 18), (33, 19), (5, 19), (5, 20), (5, 21), (5, 22), (5, 23), (6, 0), (6, 1), (6, 2), (6, 3), (6, 4), (6, 5), (6, 6), (6, 7), (6, 8), (6, 9), (6, 10), (6, 11), (6, 12), (6, 13), (6, 14), (6, 15), (6, 16), (6, 17), (6, 18), (6, 19), (6, 20), (6, 21), (6, 22), (6, 23), (7, 0), (7, 1), (7, 2), (7, 3), (7, 4), (7, 5), (7, 6), (7, 7), (7, 8), (7, 9), (7, 10), (7, 11), (7, 12), (7, 13), (7, 14), (7, 15), (7, 16), (7, 17), (7, 18), (7, 19), (7, 20), (7, 21), (7, 22), (7, 23), (8, 0), (8, 1), (8, 2), (8, 3), (29, 3), (29, 4), (29, 5), (29, 6)] ck_wsL_law_m ck_wsL_law_g rfl) (goodIn_b (fun _ h => (List.mem_append_left _ (List.mem_append_left _ (List.mem_append_left _ (List.mem_append_left _ (List.mem_append_left _ (List.mem_append_left _ (List.mem_append_left _ (List.mem_append_left _ (List.mem_append_right _ h)))))))))) ck_wsL_law_g)) (goodIn_b (fun _ h => (List.mem_append_left _ (List.mem_append_left _ (List.mem_append_left _ (List.mem_append_left _ (List.mem_append_left _ (List.mem_append_left _ (List.mem_append_right _ h)))))))) ck_wsL_law_g)) (goodIn_b (fun _ h => (List.mem_append_left _ (List.mem_append_left _ (List.mem_append_right _ h)))) ck_wsL_law_g)) (goodIn_b (fun _ h => (List.mem_append_left _ (List.mem_append_left _ (List.mem_append_left _ (List.mem_append_left _ (List.mem_append_right _ h)))))) ck_wsL_law_g)) (goodIn_b (fun _ h => (List.mem_append_left _ (List.mem_append_left _ (List.mem_append_left _ (List.mem_append_right _ h))))) ck_wsL_law_g)) (goodIn_b (fun _ h => (List.mem_append_left _ (List.mem_append_left _ (List.mem_append_left _ (List.mem_append_left _ (List.mem_append_left _ (List.mem_append_right _ h))))))) ck_wsL_law_g)) (goodIn_b (fun _ h => (List.mem_append_left _ (List.mem_append_right _ h))) ck_wsL_law_g)
set_option maxRecDepth 20000 in
theorem gL_law_X6_read : GoodIn wsL_law (wsV RL 121 RX6 yX6_read wsX6_read) := goodIn_app (goodIn_of _ (by decide +kernel)) ggL_law_X6_read
set_option maxRecDepth 100000 in
theorem ggL_law_X7_read : GoodIn wsL_law wsX7_read := goodIn_ca (goodIn_2 ck_wsL_law [(33, 23), (3, 3), (31, 16), (3, 9), (28, 22), (34, 0), (31, 13), (31, 14), (0, 5), (31, 15), (31, 17), (31, 18), (31, 19), (31, 20), (31, 21), (31, 22), (31, 23), (32, 0), (32, 1), (32, 2), (32, 3), (32, 4), (32, 5), (32, 6), (32, 7), (32, 8), (32, 9), (32, 10), (3, 8), (8, 8), (8, 9), (8, 10), (32, 11), (32, 12), (32, 13), (32, 14), (32, 15), (32, 16), (32, 17), (32, 18), (32, 19), (32, 20), (32, 21), (32, 22), (8, 11), (8, 12), (8, 13), (8, 14), (8, 15), (3, 4), (8, 16), (8, 17), (8, 18), (8, 19), (8, 20), (8, 21), (8, 22), (8, 23), (9, 0), (9, 1), (9, 2), (9, 3), (9, 4), (9, 5), (9, 6), (9, 7), (9, 8), (9, 9), (9, 10), (9, 11), (9, 12), (9, 13), (9, 14), (9, 15)] ck_wsL_law_m ck_wsL_law_g rfl) (goodIn_b (fun _ h => (List.mem_append_left _ (List.mem_append_left _ (List.mem_append_left _ (List.mem_append_left _ (List.mem_append_left _ (List.mem_append_left _ (List.mem_append_left _ (List.mem_append_right _ h))))))))) ck_wsL_law_g)
set_option maxRecDepth 20000 in
theorem gL_law_X7_read : GoodIn wsL_law (wsV RL 124 RX7 yX7_read wsX7_read) := goodIn_app (goodIn_of _ (by decide +kernel)) ggL_law_X7_read
set_option maxRecDepth 100000 in
theorem ggL_law_X6_undo : GoodIn wsL_law wsX6_undo := goodIn_ca (goodIn_ca (goodIn_ca (goodIn_ca (goodIn_ca (goodIn_2 ck_wsL_law [(34, 4), (0, 21), (34, 5), (0, 15), (34, 6), (34, 7), (34, 8), (0, 20), (34, 9), (4, 4), (4, 6), (4, 7), (4, 8), (4, 9), (4, 5), (2, 15), (4, 10), (4, 11), (4, 12), (4, 13), (4, 14), (4, 15), (4, 16), (0, 14), (4, 17), (1, 12), (1, 16), (4, 18), (1, 17), (1, 18), (1, 20), (4, 19), (4, 20), (4, 21), (4, 22), (4, 23), (1, 21), (5, 0), (5, 1), (5, 2), (5, 3), (5, 4), (5, 5), (5, 6), (5, 7), (5, 8), (5, 9), (5, 10), (1, 11), (5, 11), (2, 1), (5, 12), (2, 2), (2, 3), (3, 23), (5, 13), (5, 14), (5, 15), (1, 15), (5, 16), (2, 7), (5, 17), (2, 8), (2, 9), (5, 18)] ck_wsL_law_m ck_wsL_law_g rfl) (goodIn_b (fun _ h => (List.mem_append_left _ (List.mem_append_left _ (List.mem_append_left _ (List.mem_append_left _ (List.mem_append_left _ (List.mem_append_left _ (List.mem_append_left _ (List.mem_append_left _ (List.mem_append_right _ h)))))))))) ck_wsL_law_g)) (goodIn_b (fun _ h => (List.mem_append_left _ (List.mem_append_left _ (List.mem_append_left _ (List.mem_append_left _ (List.mem_append_left _ (List.mem_append_right _ h))))))) ck_wsL_law_g)) (goodIn_b (fun _ h => (List.mem_append_left _ (List.mem_append_left _ (List.mem_append_left _ (List.mem_append_left _ (List.mem_append_left _ (List.mem_append_left _ (List.mem_append_right _ h)))))))) ck_wsL_law_g)) (goodIn_b (fun _ h => (List.mem_append_left _ (List.mem_append_left _ (List.mem_append_right _ h)))) ck_wsL_law_g)) (goodIn_b (fun _ h => (List.mem_append_left _ (List.mem_append_right _ h))) ck_wsL_law_g)
set_option maxRecDepth 20000 in
theorem gL_law_X6_undo : GoodIn wsL_law (wsV RL 125 RX6 yX6_undo wsX6_undo) := goodIn_app (goodIn_of _ (by decide +kernel)) ggL_law_X6_undo
set_option maxRecDepth 100000 in
theorem ggL_law_X7_undo : GoodIn wsL_law wsX7_undo := goodIn_ca (goodIn_2 ck_wsL_law [(34, 13), (8, 15), (3, 3), (3, 4)] ck_wsL_law_m ck_wsL_law_g rfl) (goodIn_b (fun _ h => (List.mem_append_left _ (List.mem_append_left _ (List.mem_append_left _ (List.mem_append_left _ (List.mem_append_left _ (List.mem_append_left _ (List.mem_append_left _ (List.mem_append_right _ h))))))))) ck_wsL_law_g)
set_option maxRecDepth 20000 in
theorem gL_law_X7_undo : GoodIn wsL_law (wsV RL 128 RX7 yX7_undo wsX7_undo) := goodIn_app (goodIn_of _ (by decide +kernel)) ggL_law_X7_undo
set_option maxRecDepth 100000 in
theorem ggL_law_X6_save : GoodIn wsL_law wsX6_save := goodIn_ca (goodIn_ca (goodIn_ca (goodIn_ca (goodIn_2 ck_wsL_law [(34, 17), (0, 17), (0, 15), (34, 18), (3, 15), (9, 20), (27, 3), (4, 15), (4, 16), (0, 14), (4, 17), (1, 12), (1, 16), (4, 18), (1, 17), (1, 18), (1, 20), (4, 19), (4, 20), (4, 21), (4, 22), (4, 23), (1, 21), (5, 0), (5, 1), (5, 2), (5, 3), (5, 4), (5, 5), (5, 6), (5, 7), (5, 8), (5, 9), (5, 10), (1, 11), (5, 11), (2, 1), (5, 12), (2, 2), (2, 3), (3, 23), (5, 13), (5, 14), (5, 15), (1, 15), (5, 16), (2, 7), (5, 17), (2, 8), (2, 9), (5, 18)] ck_wsL_law_m ck_wsL_law_g rfl) (goodIn_b (fun _ h => (List.mem_append_left _ (List.mem_append_left _ (List.mem_append_left _ (List.mem_append_left _ (List.mem_append_left _ (List.mem_append_left _ (List.mem_append_left _ (List.mem_append_left _ (List.mem_append_right _ h)))))))))) ck_wsL_law_g)) (goodIn_b (fun _ h => (List.mem_append_left _ (List.mem_append_left _ (List.mem_append_left _ (List.mem_append_left _ (List.mem_append_left _ (List.mem_append_left _ (List.mem_append_right _ h)))))))) ck_wsL_law_g)) (goodIn_b (fun _ h => (List.mem_append_left _ (List.mem_append_left _ (List.mem_append_right _ h)))) ck_wsL_law_g)) (goodIn_b (fun _ h => (List.mem_append_left _ (List.mem_append_right _ h))) ck_wsL_law_g)
set_option maxRecDepth 20000 in
theorem gL_law_X6_save : GoodIn wsL_law (wsV RL 129 RX6 yX6_save wsX6_save) := goodIn_app (goodIn_of _ (by decide +kernel)) ggL_law_X6_save
set_option maxRecDepth 100000 in
theorem ggL_law_X7_save : GoodIn wsL_law wsX7_save := goodIn_ca (goodIn_2 ck_wsL_law [(34, 22), (34, 23), (3, 5), (3, 3)] ck_wsL_law_m ck_wsL_law_g rfl) (goodIn_b (fun _ h => (List.mem_append_left _ (List.mem_append_left _ (List.mem_append_left _ (List.mem_append_left _ (List.mem_append_left _ (List.mem_append_left _ (List.mem_append_left _ (List.mem_append_right _ h))))))))) ck_wsL_law_g)
set_option maxRecDepth 20000 in
theorem gL_law_X7_save : GoodIn wsL_law (wsV RL 132 RX7 yX7_save wsX7_save) := goodIn_app (goodIn_of _ (by decide +kernel)) ggL_law_X7_save
set_option maxRecDepth 100000 in
theorem ggL_law_X6_restore : GoodIn wsL_law wsX6_restore := goodIn_ca (goodIn_ca (goodIn_ca (goodIn_ca (goodIn_ca (goodIn_2 ck_wsL_law [(35, 3), (34, 18), (0, 21), (0, 15), (0, 17), (3, 15), (9, 20), (4, 0), (4, 1), (4, 2), (0, 20), (4, 3), (4, 4), (4, 5), (4, 6), (4, 7), (4, 8), (4, 9), (2, 15), (4, 10), (4, 11), (4, 12), (4, 13), (4, 14), (4, 15), (4, 16), (0, 14), (4, 17), (1, 12), (1, 16), (4, 18), (1, 17), (1, 18), (1, 20), (4, 19), (4, 20), (4, 21), (4, 22), (4, 23), (1, 21), (5, 0), (5, 1), (5, 2), (5, 3), (5, 4), (5, 5), (5, 6), (5, 7), (5, 8), (5, 9), (5, 10), (1, 11), (5, 11), (2, 1), (5, 12), (2, 2), (2, 3), (3, 23), (5, 13), (5, 14), (5, 15), (1, 15), (5, 16), (2, 7), (5, 17), (2, 8), (2, 9), (5, 18), (27, 3)] ck_wsL_law_m ck_wsL_law_g rfl) (goodIn_b (fun _ h => (List.mem_append_left _ (List.mem_append_left _ (List.mem_append_left _ (List.mem_append_left _ (List.mem_append_left _ (List.mem_append_left _ (List.mem_append_left _ (List.mem_append_left _ (List.mem_append_right _ h)))))))))) ck_wsL_law_g)) (goodIn_b (fun _ h => (List.mem_append_left _ (List.mem_append_left _ (List.mem_append_left _ (List.mem_append_left _ (List.mem_append_left _ (List.mem_append_left _ (List.mem_append_right _ h)))))))) ck_wsL_law_g)) (goodIn_b (fun _ h => (List.mem_append_left _ (List.mem_append_left _ (List.mem_append_right _ h)))) ck_wsL_law_g)) (goodIn_b (fun _ h => (List.mem_append_left _ (List.mem_append_left _ (List.mem_append_left _ (List.mem_append_left _ (List.mem_append_left _ (List.mem_append_right _ h))))))) ck_wsL_law_g)) (goodIn_b (fun _ h => (List.mem_append_left _ (List.mem_append_right _ h))) ck_wsL_law_g)
set_option maxRecDepth 20000 in
theorem gL_law_X6_restore : GoodIn wsL_law (wsV RL 133 RX6 yX6_restore wsX6_restore) := goodIn_app (goodIn_of _ (by decide +kernel)) ggL_law_X6_restore
set_option maxRecDepth 100000 in
theorem ggL_law_X7_restore : GoodIn wsL_law wsX7_restore := goodIn_ca (goodIn_2 ck_wsL_law [(35, 7), (34, 23), (3, 3), (3, 5), (8, 11), (8, 12), (8, 13), (0, 5), (8, 14), (8, 15), (3, 4)] ck_wsL_law_m ck_wsL_law_g rfl) (goodIn_b (fun _ h => (List.mem_append_left _ (List.mem_append_left _ (List.mem_append_left _ (List.mem_append_left _ (List.mem_append_left _ (List.mem_append_left _ (List.mem_append_left _ (List.mem_append_right _ h))))))))) ck_wsL_law_g)
set_option maxRecDepth 20000 in
theorem gL_law_X7_restore : GoodIn wsL_law (wsV RL 136 RX7 yX7_restore wsX7_restore) := goodIn_app (goodIn_of _ (by decide +kernel)) ggL_law_X7_restore
theorem dL_law_0 : decode cL_law 0 = .ok (.new 7, 3) := by decide +kernel
theorem dL_law_3 : decode cL_law 3 = .ok (.dup, 1) := by decide +kernel
theorem dL_law_4 : decode cL_law 4 = .ok (.invokespecial 9, 3) := by decide +kernel
theorem dL_law_7 : decode cL_law 7 = .ok (.astore_n 1, 1) := by decide +kernel
theorem dL_law_8 : decode cL_law 8 = .ok (.new 10, 3) := by decide +kernel
theorem dL_law_11 : decode cL_law 11 = .ok (.dup, 1) := by decide +kernel
theorem dL_law_12 : decode cL_law 12 = .ok (.invokespecial 12, 3) := by decide +kernel
theorem dL_law_15 : decode cL_law 15 = .ok (.astore_n 2, 1) := by decide +kernel
theorem dL_law_16 : decode cL_law 16 = .ok (.iconst 0, 1) := by decide +kernel
theorem dL_law_17 : decode cL_law 17 = .ok (.istore_n 3, 1) := by decide +kernel
theorem dL_law_18 : decode cL_law 18 = .ok (.iload_n 3, 1) := by decide +kernel
theorem dL_law_19 : decode cL_law 19 = .ok (.aload_n 0, 1) := by decide +kernel
theorem dL_law_20 : decode cL_law 20 = .ok (.arraylength, 1) := by decide +kernel
theorem dL_law_21 : decode cL_law 21 = .ok (.iconst 4, 1) := by decide +kernel
theorem dL_law_22 : decode cL_law 22 = .ok (.isub, 1) := by decide +kernel
theorem dL_law_23 : decode cL_law 23 = .ok (.if_icmp .gt 727, 3) := by decide +kernel
theorem dL_law_26 : decode cL_law 26 = .ok (.aload_n 0, 1) := by decide +kernel
theorem dL_law_27 : decode cL_law 27 = .ok (.iload_n 3, 1) := by decide +kernel
theorem dL_law_28 : decode cL_law 28 = .ok (.iaload, 1) := by decide +kernel
theorem dL_law_29 : decode cL_law 29 = .ok (.bipush 31, 2) := by decide +kernel
theorem dL_law_31 : decode cL_law 31 = .ok (.iand, 1) := by decide +kernel
theorem dL_law_32 : decode cL_law 32 = .ok (.tableswitch 712 0 29 #[136, 159, 198, 211, 224, 237, 260, 283, 306, 319, 342, 355, 368, 381, 404, 417, 440, 463, 506, 529, 552, 575, 598, 611, 634, 647, 660, 673, 686, 699], 136) := by decide +kernel
theorem dL_law_168 : decode cL_law 168 = .ok (.aload_n 1, 1) := by decide +kernel
theorem dL_law_169 : decode cL_law 169 = .ok (.aload_n 0, 1) := by decide +kernel
theorem dL_law_170 : decode cL_law 170 = .ok (.iload_n 3, 1) := by decide +kernel
theorem dL_law_171 : decode cL_law 171 = .ok (.iconst 1, 1) := by decide +kernel
theorem dL_law_172 : decode cL_law 172 = .ok (.iadd, 1) := by decide +kernel
theorem dL_law_173 : decode cL_law 173 = .ok (.iaload, 1) := by decide +kernel
theorem dL_law_174 : decode cL_law 174 = .ok (.invokevirtual 13, 3) := by decide +kernel
theorem dL_law_177 : decode cL_law 177 = .ok (.aload_n 2, 1) := by decide +kernel
theorem dL_law_178 : decode cL_law 178 = .ok (.aload_n 0, 1) := by decide +kernel
theorem dL_law_179 : decode cL_law 179 = .ok (.iload_n 3, 1) := by decide +kernel
theorem dL_law_180 : decode cL_law 180 = .ok (.iconst 1, 1) := by decide +kernel
theorem dL_law_181 : decode cL_law 181 = .ok (.iadd, 1) := by decide +kernel
theorem dL_law_182 : decode cL_law 182 = .ok (.iaload, 1) := by decide +kernel
theorem dL_law_183 : decode cL_law 183 = .ok (.invokevirtual 17, 3) := by decide +kernel
theorem dL_law_186 : decode cL_law 186 = .ok (.if_icmp .eq 558, 3) := by decide +kernel
theorem dL_law_189 : decode cL_law 189 = .ok (.iconst 0, 1) := by decide +kernel
theorem dL_law_190 : decode cL_law 190 = .ok (.ireturn, 1) := by decide +kernel
theorem dL_law_191 : decode cL_law 191 = .ok (.aload_n 1, 1) := by decide +kernel
theorem dL_law_192 : decode cL_law 192 = .ok (.aload_n 0, 1) := by decide +kernel
theorem dL_law_193 : decode cL_law 193 = .ok (.iload_n 3, 1) := by decide +kernel
theorem dL_law_194 : decode cL_law 194 = .ok (.iconst 1, 1) := by decide +kernel
theorem dL_law_195 : decode cL_law 195 = .ok (.iadd, 1) := by decide +kernel
theorem dL_law_196 : decode cL_law 196 = .ok (.iaload, 1) := by decide +kernel
theorem dL_law_197 : decode cL_law 197 = .ok (.ifCond .eq 7, 3) := by decide +kernel
theorem dL_law_200 : decode cL_law 200 = .ok (.iconst 1, 1) := by decide +kernel
theorem dL_law_201 : decode cL_law 201 = .ok (.goto 4, 3) := by decide +kernel
theorem dL_law_204 : decode cL_law 204 = .ok (.iconst 0, 1) := by decide +kernel
theorem dL_law_205 : decode cL_law 205 = .ok (.invokevirtual 18, 3) := by decide +kernel
theorem dL_law_208 : decode cL_law 208 = .ok (.aload_n 2, 1) := by decide +kernel
theorem dL_law_209 : decode cL_law 209 = .ok (.aload_n 0, 1) := by decide +kernel
theorem dL_law_210 : decode cL_law 210 = .ok (.iload_n 3, 1) := by decide +kernel
theorem dL_law_211 : decode cL_law 211 = .ok (.iconst 1, 1) := by decide +kernel
theorem dL_law_212 : decode cL_law 212 = .ok (.iadd, 1) := by decide +kernel
theorem dL_law_213 : decode cL_law 213 = .ok (.iaload, 1) := by decide +kernel
theorem dL_law_214 : decode cL_law 214 = .ok (.ifCond .eq 7, 3) := by decide +kernel
theorem dL_law_217 : decode cL_law 217 = .ok (.iconst 1, 1) := by decide +kernel
theorem dL_law_218 : decode cL_law 218 = .ok (.goto 4, 3) := by decide +kernel
theorem dL_law_221 : decode cL_law 221 = .ok (.iconst 0, 1) := by decide +kernel
theorem dL_law_222 : decode cL_law 222 = .ok (.invokevirtual 22, 3) := by decide +kernel
theorem dL_law_225 : decode cL_law 225 = .ok (.if_icmp .eq 519, 3) := by decide +kernel
theorem dL_law_228 : decode cL_law 228 = .ok (.iconst 0, 1) := by decide +kernel
theorem dL_law_229 : decode cL_law 229 = .ok (.ireturn, 1) := by decide +kernel
theorem dL_law_230 : decode cL_law 230 = .ok (.aload_n 1, 1) := by decide +kernel
theorem dL_law_231 : decode cL_law 231 = .ok (.invokevirtual 23, 3) := by decide +kernel
theorem dL_law_234 : decode cL_law 234 = .ok (.aload_n 2, 1) := by decide +kernel
theorem dL_law_235 : decode cL_law 235 = .ok (.invokevirtual 27, 3) := by decide +kernel
theorem dL_law_238 : decode cL_law 238 = .ok (.if_icmp .eq 506, 3) := by decide +kernel
theorem dL_law_241 : decode cL_law 241 = .ok (.iconst 0, 1) := by decide +kernel
theorem dL_law_242 : decode cL_law 242 = .ok (.ireturn, 1) := by decide +kernel
theorem dL_law_243 : decode cL_law 243 = .ok (.aload_n 1, 1) := by decide +kernel
theorem dL_law_244 : decode cL_law 244 = .ok (.invokevirtual 28, 3) := by decide +kernel
theorem dL_law_247 : decode cL_law 247 = .ok (.aload_n 2, 1) := by decide +kernel
theorem dL_law_248 : decode cL_law 248 = .ok (.invokevirtual 31, 3) := by decide +kernel
theorem dL_law_251 : decode cL_law 251 = .ok (.if_icmp .eq 493, 3) := by decide +kernel
theorem dL_law_254 : decode cL_law 254 = .ok (.iconst 0, 1) := by decide +kernel
theorem dL_law_255 : decode cL_law 255 = .ok (.ireturn, 1) := by decide +kernel
theorem dL_law_256 : decode cL_law 256 = .ok (.aload_n 1, 1) := by decide +kernel
theorem dL_law_257 : decode cL_law 257 = .ok (.invokevirtual 32, 3) := by decide +kernel
theorem dL_law_260 : decode cL_law 260 = .ok (.aload_n 2, 1) := by decide +kernel
theorem dL_law_261 : decode cL_law 261 = .ok (.invokevirtual 35, 3) := by decide +kernel
theorem dL_law_264 : decode cL_law 264 = .ok (.if_icmp .eq 480, 3) := by decide +kernel
theorem dL_law_267 : decode cL_law 267 = .ok (.iconst 0, 1) := by decide +kernel
theorem dL_law_268 : decode cL_law 268 = .ok (.ireturn, 1) := by decide +kernel
theorem dL_law_269 : decode cL_law 269 = .ok (.aload_n 1, 1) := by decide +kernel
theorem dL_law_270 : decode cL_law 270 = .ok (.aload_n 0, 1) := by decide +kernel
theorem dL_law_271 : decode cL_law 271 = .ok (.iload_n 3, 1) := by decide +kernel
theorem dL_law_272 : decode cL_law 272 = .ok (.iconst 1, 1) := by decide +kernel
theorem dL_law_273 : decode cL_law 273 = .ok (.iadd, 1) := by decide +kernel
theorem dL_law_274 : decode cL_law 274 = .ok (.iaload, 1) := by decide +kernel
theorem dL_law_275 : decode cL_law 275 = .ok (.invokevirtual 36, 3) := by decide +kernel
theorem dL_law_278 : decode cL_law 278 = .ok (.aload_n 2, 1) := by decide +kernel
theorem dL_law_279 : decode cL_law 279 = .ok (.aload_n 0, 1) := by decide +kernel
theorem dL_law_280 : decode cL_law 280 = .ok (.iload_n 3, 1) := by decide +kernel
theorem dL_law_281 : decode cL_law 281 = .ok (.iconst 1, 1) := by decide +kernel
theorem dL_law_282 : decode cL_law 282 = .ok (.iadd, 1) := by decide +kernel
theorem dL_law_283 : decode cL_law 283 = .ok (.iaload, 1) := by decide +kernel
theorem dL_law_284 : decode cL_law 284 = .ok (.invokevirtual 39, 3) := by decide +kernel
theorem dL_law_287 : decode cL_law 287 = .ok (.if_icmp .eq 457, 3) := by decide +kernel
theorem dL_law_290 : decode cL_law 290 = .ok (.iconst 0, 1) := by decide +kernel
theorem dL_law_291 : decode cL_law 291 = .ok (.ireturn, 1) := by decide +kernel
theorem dL_law_292 : decode cL_law 292 = .ok (.aload_n 1, 1) := by decide +kernel
theorem dL_law_293 : decode cL_law 293 = .ok (.aload_n 0, 1) := by decide +kernel
theorem dL_law_294 : decode cL_law 294 = .ok (.iload_n 3, 1) := by decide +kernel
theorem dL_law_295 : decode cL_law 295 = .ok (.iconst 1, 1) := by decide +kernel
theorem dL_law_296 : decode cL_law 296 = .ok (.iadd, 1) := by decide +kernel
theorem dL_law_297 : decode cL_law 297 = .ok (.iaload, 1) := by decide +kernel
theorem dL_law_298 : decode cL_law 298 = .ok (.invokevirtual 40, 3) := by decide +kernel
theorem dL_law_301 : decode cL_law 301 = .ok (.aload_n 2, 1) := by decide +kernel
theorem dL_law_302 : decode cL_law 302 = .ok (.aload_n 0, 1) := by decide +kernel
theorem dL_law_303 : decode cL_law 303 = .ok (.iload_n 3, 1) := by decide +kernel
theorem dL_law_304 : decode cL_law 304 = .ok (.iconst 1, 1) := by decide +kernel
theorem dL_law_305 : decode cL_law 305 = .ok (.iadd, 1) := by decide +kernel
theorem dL_law_306 : decode cL_law 306 = .ok (.iaload, 1) := by decide +kernel
theorem dL_law_307 : decode cL_law 307 = .ok (.invokevirtual 43, 3) := by decide +kernel
theorem dL_law_310 : decode cL_law 310 = .ok (.if_icmp .eq 434, 3) := by decide +kernel
theorem dL_law_313 : decode cL_law 313 = .ok (.iconst 0, 1) := by decide +kernel
theorem dL_law_314 : decode cL_law 314 = .ok (.ireturn, 1) := by decide +kernel
theorem dL_law_315 : decode cL_law 315 = .ok (.aload_n 1, 1) := by decide +kernel
theorem dL_law_316 : decode cL_law 316 = .ok (.aload_n 0, 1) := by decide +kernel
theorem dL_law_317 : decode cL_law 317 = .ok (.iload_n 3, 1) := by decide +kernel
theorem dL_law_318 : decode cL_law 318 = .ok (.iconst 1, 1) := by decide +kernel
theorem dL_law_319 : decode cL_law 319 = .ok (.iadd, 1) := by decide +kernel
theorem dL_law_320 : decode cL_law 320 = .ok (.iaload, 1) := by decide +kernel
theorem dL_law_321 : decode cL_law 321 = .ok (.invokevirtual 44, 3) := by decide +kernel
theorem dL_law_324 : decode cL_law 324 = .ok (.aload_n 2, 1) := by decide +kernel
theorem dL_law_325 : decode cL_law 325 = .ok (.aload_n 0, 1) := by decide +kernel
theorem dL_law_326 : decode cL_law 326 = .ok (.iload_n 3, 1) := by decide +kernel
theorem dL_law_327 : decode cL_law 327 = .ok (.iconst 1, 1) := by decide +kernel
theorem dL_law_328 : decode cL_law 328 = .ok (.iadd, 1) := by decide +kernel
theorem dL_law_329 : decode cL_law 329 = .ok (.iaload, 1) := by decide +kernel
theorem dL_law_330 : decode cL_law 330 = .ok (.invokevirtual 47, 3) := by decide +kernel
theorem dL_law_333 : decode cL_law 333 = .ok (.if_icmp .eq 411, 3) := by decide +kernel
theorem dL_law_336 : decode cL_law 336 = .ok (.iconst 0, 1) := by decide +kernel
theorem dL_law_337 : decode cL_law 337 = .ok (.ireturn, 1) := by decide +kernel
theorem dL_law_338 : decode cL_law 338 = .ok (.aload_n 1, 1) := by decide +kernel
theorem dL_law_339 : decode cL_law 339 = .ok (.invokevirtual 48, 3) := by decide +kernel
theorem dL_law_342 : decode cL_law 342 = .ok (.aload_n 2, 1) := by decide +kernel
theorem dL_law_343 : decode cL_law 343 = .ok (.invokevirtual 51, 3) := by decide +kernel
theorem dL_law_346 : decode cL_law 346 = .ok (.if_icmp .eq 398, 3) := by decide +kernel
theorem dL_law_349 : decode cL_law 349 = .ok (.iconst 0, 1) := by decide +kernel
theorem dL_law_350 : decode cL_law 350 = .ok (.ireturn, 1) := by decide +kernel
theorem dL_law_351 : decode cL_law 351 = .ok (.aload_n 1, 1) := by decide +kernel
theorem dL_law_352 : decode cL_law 352 = .ok (.aload_n 0, 1) := by decide +kernel
theorem dL_law_353 : decode cL_law 353 = .ok (.iload_n 3, 1) := by decide +kernel
theorem dL_law_354 : decode cL_law 354 = .ok (.iconst 1, 1) := by decide +kernel
theorem dL_law_355 : decode cL_law 355 = .ok (.iadd, 1) := by decide +kernel
theorem dL_law_356 : decode cL_law 356 = .ok (.iaload, 1) := by decide +kernel
theorem dL_law_357 : decode cL_law 357 = .ok (.invokevirtual 52, 3) := by decide +kernel
theorem dL_law_360 : decode cL_law 360 = .ok (.aload_n 2, 1) := by decide +kernel
theorem dL_law_361 : decode cL_law 361 = .ok (.aload_n 0, 1) := by decide +kernel
theorem dL_law_362 : decode cL_law 362 = .ok (.iload_n 3, 1) := by decide +kernel
theorem dL_law_363 : decode cL_law 363 = .ok (.iconst 1, 1) := by decide +kernel
theorem dL_law_364 : decode cL_law 364 = .ok (.iadd, 1) := by decide +kernel
theorem dL_law_365 : decode cL_law 365 = .ok (.iaload, 1) := by decide +kernel
theorem dL_law_366 : decode cL_law 366 = .ok (.invokevirtual 55, 3) := by decide +kernel
theorem dL_law_369 : decode cL_law 369 = .ok (.if_icmp .eq 375, 3) := by decide +kernel
theorem dL_law_372 : decode cL_law 372 = .ok (.iconst 0, 1) := by decide +kernel
theorem dL_law_373 : decode cL_law 373 = .ok (.ireturn, 1) := by decide +kernel
theorem dL_law_374 : decode cL_law 374 = .ok (.aload_n 1, 1) := by decide +kernel
theorem dL_law_375 : decode cL_law 375 = .ok (.invokevirtual 56, 3) := by decide +kernel
theorem dL_law_378 : decode cL_law 378 = .ok (.aload_n 2, 1) := by decide +kernel
theorem dL_law_379 : decode cL_law 379 = .ok (.invokevirtual 59, 3) := by decide +kernel
theorem dL_law_382 : decode cL_law 382 = .ok (.if_icmp .eq 362, 3) := by decide +kernel
theorem dL_law_385 : decode cL_law 385 = .ok (.iconst 0, 1) := by decide +kernel
theorem dL_law_386 : decode cL_law 386 = .ok (.ireturn, 1) := by decide +kernel
theorem dL_law_387 : decode cL_law 387 = .ok (.aload_n 1, 1) := by decide +kernel
theorem dL_law_388 : decode cL_law 388 = .ok (.invokevirtual 60, 3) := by decide +kernel
theorem dL_law_391 : decode cL_law 391 = .ok (.aload_n 2, 1) := by decide +kernel
theorem dL_law_392 : decode cL_law 392 = .ok (.invokevirtual 63, 3) := by decide +kernel
theorem dL_law_395 : decode cL_law 395 = .ok (.if_icmp .eq 349, 3) := by decide +kernel
theorem dL_law_398 : decode cL_law 398 = .ok (.iconst 0, 1) := by decide +kernel
theorem dL_law_399 : decode cL_law 399 = .ok (.ireturn, 1) := by decide +kernel
theorem dL_law_400 : decode cL_law 400 = .ok (.aload_n 1, 1) := by decide +kernel
theorem dL_law_401 : decode cL_law 401 = .ok (.invokevirtual 64, 3) := by decide +kernel
theorem dL_law_404 : decode cL_law 404 = .ok (.aload_n 2, 1) := by decide +kernel
theorem dL_law_405 : decode cL_law 405 = .ok (.invokevirtual 67, 3) := by decide +kernel
theorem dL_law_408 : decode cL_law 408 = .ok (.if_icmp .eq 336, 3) := by decide +kernel
theorem dL_law_411 : decode cL_law 411 = .ok (.iconst 0, 1) := by decide +kernel
theorem dL_law_412 : decode cL_law 412 = .ok (.ireturn, 1) := by decide +kernel
theorem dL_law_413 : decode cL_law 413 = .ok (.aload_n 1, 1) := by decide +kernel
theorem dL_law_414 : decode cL_law 414 = .ok (.aload_n 0, 1) := by decide +kernel
theorem dL_law_415 : decode cL_law 415 = .ok (.iload_n 3, 1) := by decide +kernel
theorem dL_law_416 : decode cL_law 416 = .ok (.iconst 1, 1) := by decide +kernel
theorem dL_law_417 : decode cL_law 417 = .ok (.iadd, 1) := by decide +kernel
theorem dL_law_418 : decode cL_law 418 = .ok (.iaload, 1) := by decide +kernel
theorem dL_law_419 : decode cL_law 419 = .ok (.invokevirtual 68, 3) := by decide +kernel
theorem dL_law_422 : decode cL_law 422 = .ok (.aload_n 2, 1) := by decide +kernel
theorem dL_law_423 : decode cL_law 423 = .ok (.aload_n 0, 1) := by decide +kernel
theorem dL_law_424 : decode cL_law 424 = .ok (.iload_n 3, 1) := by decide +kernel
theorem dL_law_425 : decode cL_law 425 = .ok (.iconst 1, 1) := by decide +kernel
theorem dL_law_426 : decode cL_law 426 = .ok (.iadd, 1) := by decide +kernel
theorem dL_law_427 : decode cL_law 427 = .ok (.iaload, 1) := by decide +kernel
theorem dL_law_428 : decode cL_law 428 = .ok (.invokevirtual 71, 3) := by decide +kernel
theorem dL_law_431 : decode cL_law 431 = .ok (.if_icmp .eq 313, 3) := by decide +kernel
theorem dL_law_434 : decode cL_law 434 = .ok (.iconst 0, 1) := by decide +kernel
theorem dL_law_435 : decode cL_law 435 = .ok (.ireturn, 1) := by decide +kernel
theorem dL_law_436 : decode cL_law 436 = .ok (.aload_n 1, 1) := by decide +kernel
theorem dL_law_437 : decode cL_law 437 = .ok (.invokevirtual 72, 3) := by decide +kernel
theorem dL_law_440 : decode cL_law 440 = .ok (.aload_n 2, 1) := by decide +kernel
theorem dL_law_441 : decode cL_law 441 = .ok (.invokevirtual 75, 3) := by decide +kernel
theorem dL_law_444 : decode cL_law 444 = .ok (.if_icmp .eq 300, 3) := by decide +kernel
theorem dL_law_447 : decode cL_law 447 = .ok (.iconst 0, 1) := by decide +kernel
theorem dL_law_448 : decode cL_law 448 = .ok (.ireturn, 1) := by decide +kernel
theorem dL_law_449 : decode cL_law 449 = .ok (.aload_n 1, 1) := by decide +kernel
theorem dL_law_450 : decode cL_law 450 = .ok (.aload_n 0, 1) := by decide +kernel
theorem dL_law_451 : decode cL_law 451 = .ok (.iload_n 3, 1) := by decide +kernel
theorem dL_law_452 : decode cL_law 452 = .ok (.iconst 1, 1) := by decide +kernel
theorem dL_law_453 : decode cL_law 453 = .ok (.iadd, 1) := by decide +kernel
theorem dL_law_454 : decode cL_law 454 = .ok (.iaload, 1) := by decide +kernel
theorem dL_law_455 : decode cL_law 455 = .ok (.invokevirtual 76, 3) := by decide +kernel
theorem dL_law_458 : decode cL_law 458 = .ok (.aload_n 2, 1) := by decide +kernel
theorem dL_law_459 : decode cL_law 459 = .ok (.aload_n 0, 1) := by decide +kernel
theorem dL_law_460 : decode cL_law 460 = .ok (.iload_n 3, 1) := by decide +kernel
theorem dL_law_461 : decode cL_law 461 = .ok (.iconst 1, 1) := by decide +kernel
theorem dL_law_462 : decode cL_law 462 = .ok (.iadd, 1) := by decide +kernel
theorem dL_law_463 : decode cL_law 463 = .ok (.iaload, 1) := by decide +kernel
theorem dL_law_464 : decode cL_law 464 = .ok (.invokevirtual 79, 3) := by decide +kernel
theorem dL_law_467 : decode cL_law 467 = .ok (.if_icmp .eq 277, 3) := by decide +kernel
theorem dL_law_470 : decode cL_law 470 = .ok (.iconst 0, 1) := by decide +kernel
theorem dL_law_471 : decode cL_law 471 = .ok (.ireturn, 1) := by decide +kernel
theorem dL_law_472 : decode cL_law 472 = .ok (.aload_n 1, 1) := by decide +kernel
theorem dL_law_473 : decode cL_law 473 = .ok (.aload_n 0, 1) := by decide +kernel
theorem dL_law_474 : decode cL_law 474 = .ok (.iload_n 3, 1) := by decide +kernel
theorem dL_law_475 : decode cL_law 475 = .ok (.iconst 1, 1) := by decide +kernel
theorem dL_law_476 : decode cL_law 476 = .ok (.iadd, 1) := by decide +kernel
theorem dL_law_477 : decode cL_law 477 = .ok (.iaload, 1) := by decide +kernel
theorem dL_law_478 : decode cL_law 478 = .ok (.invokevirtual 80, 3) := by decide +kernel
theorem dL_law_481 : decode cL_law 481 = .ok (.aload_n 2, 1) := by decide +kernel
theorem dL_law_482 : decode cL_law 482 = .ok (.aload_n 0, 1) := by decide +kernel
theorem dL_law_483 : decode cL_law 483 = .ok (.iload_n 3, 1) := by decide +kernel
theorem dL_law_484 : decode cL_law 484 = .ok (.iconst 1, 1) := by decide +kernel
theorem dL_law_485 : decode cL_law 485 = .ok (.iadd, 1) := by decide +kernel
theorem dL_law_486 : decode cL_law 486 = .ok (.iaload, 1) := by decide +kernel
theorem dL_law_487 : decode cL_law 487 = .ok (.invokevirtual 83, 3) := by decide +kernel
theorem dL_law_490 : decode cL_law 490 = .ok (.if_icmp .eq 254, 3) := by decide +kernel
theorem dL_law_493 : decode cL_law 493 = .ok (.iconst 0, 1) := by decide +kernel
theorem dL_law_494 : decode cL_law 494 = .ok (.ireturn, 1) := by decide +kernel
theorem dL_law_495 : decode cL_law 495 = .ok (.aload_n 1, 1) := by decide +kernel
theorem dL_law_496 : decode cL_law 496 = .ok (.aload_n 0, 1) := by decide +kernel
theorem dL_law_497 : decode cL_law 497 = .ok (.iload_n 3, 1) := by decide +kernel
theorem dL_law_498 : decode cL_law 498 = .ok (.iconst 1, 1) := by decide +kernel
theorem dL_law_499 : decode cL_law 499 = .ok (.iadd, 1) := by decide +kernel
theorem dL_law_500 : decode cL_law 500 = .ok (.iaload, 1) := by decide +kernel
theorem dL_law_501 : decode cL_law 501 = .ok (.aload_n 0, 1) := by decide +kernel
theorem dL_law_502 : decode cL_law 502 = .ok (.iload_n 3, 1) := by decide +kernel
theorem dL_law_503 : decode cL_law 503 = .ok (.iconst 2, 1) := by decide +kernel
theorem dL_law_504 : decode cL_law 504 = .ok (.iadd, 1) := by decide +kernel
theorem dL_law_505 : decode cL_law 505 = .ok (.iaload, 1) := by decide +kernel
theorem dL_law_506 : decode cL_law 506 = .ok (.aload_n 0, 1) := by decide +kernel
theorem dL_law_507 : decode cL_law 507 = .ok (.iload_n 3, 1) := by decide +kernel
theorem dL_law_508 : decode cL_law 508 = .ok (.iconst 3, 1) := by decide +kernel
theorem dL_law_509 : decode cL_law 509 = .ok (.iadd, 1) := by decide +kernel
theorem dL_law_510 : decode cL_law 510 = .ok (.iaload, 1) := by decide +kernel
theorem dL_law_511 : decode cL_law 511 = .ok (.invokevirtual 84, 3) := by decide +kernel
theorem dL_law_514 : decode cL_law 514 = .ok (.aload_n 2, 1) := by decide +kernel
theorem dL_law_515 : decode cL_law 515 = .ok (.aload_n 0, 1) := by decide +kernel
theorem dL_law_516 : decode cL_law 516 = .ok (.iload_n 3, 1) := by decide +kernel
theorem dL_law_517 : decode cL_law 517 = .ok (.iconst 1, 1) := by decide +kernel
theorem dL_law_518 : decode cL_law 518 = .ok (.iadd, 1) := by decide +kernel
theorem dL_law_519 : decode cL_law 519 = .ok (.iaload, 1) := by decide +kernel
theorem dL_law_520 : decode cL_law 520 = .ok (.aload_n 0, 1) := by decide +kernel
theorem dL_law_521 : decode cL_law 521 = .ok (.iload_n 3, 1) := by decide +kernel
theorem dL_law_522 : decode cL_law 522 = .ok (.iconst 2, 1) := by decide +kernel
theorem dL_law_523 : decode cL_law 523 = .ok (.iadd, 1) := by decide +kernel
theorem dL_law_524 : decode cL_law 524 = .ok (.iaload, 1) := by decide +kernel
theorem dL_law_525 : decode cL_law 525 = .ok (.aload_n 0, 1) := by decide +kernel
theorem dL_law_526 : decode cL_law 526 = .ok (.iload_n 3, 1) := by decide +kernel
theorem dL_law_527 : decode cL_law 527 = .ok (.iconst 3, 1) := by decide +kernel
theorem dL_law_528 : decode cL_law 528 = .ok (.iadd, 1) := by decide +kernel
theorem dL_law_529 : decode cL_law 529 = .ok (.iaload, 1) := by decide +kernel
theorem dL_law_530 : decode cL_law 530 = .ok (.invokevirtual 88, 3) := by decide +kernel
theorem dL_law_533 : decode cL_law 533 = .ok (.if_icmp .eq 211, 3) := by decide +kernel
theorem dL_law_536 : decode cL_law 536 = .ok (.iconst 0, 1) := by decide +kernel
theorem dL_law_537 : decode cL_law 537 = .ok (.ireturn, 1) := by decide +kernel
theorem dL_law_538 : decode cL_law 538 = .ok (.aload_n 1, 1) := by decide +kernel
theorem dL_law_539 : decode cL_law 539 = .ok (.aload_n 0, 1) := by decide +kernel
theorem dL_law_540 : decode cL_law 540 = .ok (.iload_n 3, 1) := by decide +kernel
theorem dL_law_541 : decode cL_law 541 = .ok (.iconst 1, 1) := by decide +kernel
theorem dL_law_542 : decode cL_law 542 = .ok (.iadd, 1) := by decide +kernel
theorem dL_law_543 : decode cL_law 543 = .ok (.iaload, 1) := by decide +kernel
theorem dL_law_544 : decode cL_law 544 = .ok (.invokevirtual 89, 3) := by decide +kernel
theorem dL_law_547 : decode cL_law 547 = .ok (.aload_n 2, 1) := by decide +kernel
theorem dL_law_548 : decode cL_law 548 = .ok (.aload_n 0, 1) := by decide +kernel
theorem dL_law_549 : decode cL_law 549 = .ok (.iload_n 3, 1) := by decide +kernel
theorem dL_law_550 : decode cL_law 550 = .ok (.iconst 1, 1) := by decide +kernel
theorem dL_law_551 : decode cL_law 551 = .ok (.iadd, 1) := by decide +kernel
theorem dL_law_552 : decode cL_law 552 = .ok (.iaload, 1) := by decide +kernel
theorem dL_law_553 : decode cL_law 553 = .ok (.invokevirtual 92, 3) := by decide +kernel
theorem dL_law_556 : decode cL_law 556 = .ok (.if_icmp .eq 188, 3) := by decide +kernel
theorem dL_law_559 : decode cL_law 559 = .ok (.iconst 0, 1) := by decide +kernel
theorem dL_law_560 : decode cL_law 560 = .ok (.ireturn, 1) := by decide +kernel
theorem dL_law_561 : decode cL_law 561 = .ok (.aload_n 1, 1) := by decide +kernel
theorem dL_law_562 : decode cL_law 562 = .ok (.aload_n 0, 1) := by decide +kernel
theorem dL_law_563 : decode cL_law 563 = .ok (.iload_n 3, 1) := by decide +kernel
theorem dL_law_564 : decode cL_law 564 = .ok (.iconst 1, 1) := by decide +kernel
theorem dL_law_565 : decode cL_law 565 = .ok (.iadd, 1) := by decide +kernel
theorem dL_law_566 : decode cL_law 566 = .ok (.iaload, 1) := by decide +kernel
theorem dL_law_567 : decode cL_law 567 = .ok (.invokevirtual 93, 3) := by decide +kernel
theorem dL_law_570 : decode cL_law 570 = .ok (.aload_n 2, 1) := by decide +kernel
theorem dL_law_571 : decode cL_law 571 = .ok (.aload_n 0, 1) := by decide +kernel
theorem dL_law_572 : decode cL_law 572 = .ok (.iload_n 3, 1) := by decide +kernel
theorem dL_law_573 : decode cL_law 573 = .ok (.iconst 1, 1) := by decide +kernel
theorem dL_law_574 : decode cL_law 574 = .ok (.iadd, 1) := by decide +kernel
theorem dL_law_575 : decode cL_law 575 = .ok (.iaload, 1) := by decide +kernel
theorem dL_law_576 : decode cL_law 576 = .ok (.invokevirtual 96, 3) := by decide +kernel
theorem dL_law_579 : decode cL_law 579 = .ok (.if_icmp .eq 165, 3) := by decide +kernel
theorem dL_law_582 : decode cL_law 582 = .ok (.iconst 0, 1) := by decide +kernel
theorem dL_law_583 : decode cL_law 583 = .ok (.ireturn, 1) := by decide +kernel
theorem dL_law_584 : decode cL_law 584 = .ok (.aload_n 1, 1) := by decide +kernel
theorem dL_law_585 : decode cL_law 585 = .ok (.aload_n 0, 1) := by decide +kernel
theorem dL_law_586 : decode cL_law 586 = .ok (.iload_n 3, 1) := by decide +kernel
theorem dL_law_587 : decode cL_law 587 = .ok (.iconst 1, 1) := by decide +kernel
theorem dL_law_588 : decode cL_law 588 = .ok (.iadd, 1) := by decide +kernel
theorem dL_law_589 : decode cL_law 589 = .ok (.iaload, 1) := by decide +kernel
theorem dL_law_590 : decode cL_law 590 = .ok (.invokevirtual 97, 3) := by decide +kernel
theorem dL_law_593 : decode cL_law 593 = .ok (.aload_n 2, 1) := by decide +kernel
theorem dL_law_594 : decode cL_law 594 = .ok (.aload_n 0, 1) := by decide +kernel
theorem dL_law_595 : decode cL_law 595 = .ok (.iload_n 3, 1) := by decide +kernel
theorem dL_law_596 : decode cL_law 596 = .ok (.iconst 1, 1) := by decide +kernel
theorem dL_law_597 : decode cL_law 597 = .ok (.iadd, 1) := by decide +kernel
theorem dL_law_598 : decode cL_law 598 = .ok (.iaload, 1) := by decide +kernel
theorem dL_law_599 : decode cL_law 599 = .ok (.invokevirtual 100, 3) := by decide +kernel
theorem dL_law_602 : decode cL_law 602 = .ok (.if_icmp .eq 142, 3) := by decide +kernel
theorem dL_law_605 : decode cL_law 605 = .ok (.iconst 0, 1) := by decide +kernel
theorem dL_law_606 : decode cL_law 606 = .ok (.ireturn, 1) := by decide +kernel
theorem dL_law_607 : decode cL_law 607 = .ok (.aload_n 1, 1) := by decide +kernel
theorem dL_law_608 : decode cL_law 608 = .ok (.aload_n 0, 1) := by decide +kernel
theorem dL_law_609 : decode cL_law 609 = .ok (.iload_n 3, 1) := by decide +kernel
theorem dL_law_610 : decode cL_law 610 = .ok (.iconst 1, 1) := by decide +kernel
theorem dL_law_611 : decode cL_law 611 = .ok (.iadd, 1) := by decide +kernel
theorem dL_law_612 : decode cL_law 612 = .ok (.iaload, 1) := by decide +kernel
theorem dL_law_613 : decode cL_law 613 = .ok (.invokevirtual 101, 3) := by decide +kernel
theorem dL_law_616 : decode cL_law 616 = .ok (.aload_n 2, 1) := by decide +kernel
theorem dL_law_617 : decode cL_law 617 = .ok (.aload_n 0, 1) := by decide +kernel
theorem dL_law_618 : decode cL_law 618 = .ok (.iload_n 3, 1) := by decide +kernel
theorem dL_law_619 : decode cL_law 619 = .ok (.iconst 1, 1) := by decide +kernel
theorem dL_law_620 : decode cL_law 620 = .ok (.iadd, 1) := by decide +kernel
theorem dL_law_621 : decode cL_law 621 = .ok (.iaload, 1) := by decide +kernel
theorem dL_law_622 : decode cL_law 622 = .ok (.invokevirtual 104, 3) := by decide +kernel
theorem dL_law_625 : decode cL_law 625 = .ok (.if_icmp .eq 119, 3) := by decide +kernel
theorem dL_law_628 : decode cL_law 628 = .ok (.iconst 0, 1) := by decide +kernel
theorem dL_law_629 : decode cL_law 629 = .ok (.ireturn, 1) := by decide +kernel
theorem dL_law_630 : decode cL_law 630 = .ok (.aload_n 1, 1) := by decide +kernel
theorem dL_law_631 : decode cL_law 631 = .ok (.invokevirtual 105, 3) := by decide +kernel
theorem dL_law_634 : decode cL_law 634 = .ok (.aload_n 2, 1) := by decide +kernel
theorem dL_law_635 : decode cL_law 635 = .ok (.invokevirtual 108, 3) := by decide +kernel
theorem dL_law_638 : decode cL_law 638 = .ok (.if_icmp .eq 106, 3) := by decide +kernel
theorem dL_law_641 : decode cL_law 641 = .ok (.iconst 0, 1) := by decide +kernel
theorem dL_law_642 : decode cL_law 642 = .ok (.ireturn, 1) := by decide +kernel
theorem dL_law_643 : decode cL_law 643 = .ok (.aload_n 1, 1) := by decide +kernel
theorem dL_law_644 : decode cL_law 644 = .ok (.aload_n 0, 1) := by decide +kernel
theorem dL_law_645 : decode cL_law 645 = .ok (.iload_n 3, 1) := by decide +kernel
theorem dL_law_646 : decode cL_law 646 = .ok (.iconst 1, 1) := by decide +kernel
theorem dL_law_647 : decode cL_law 647 = .ok (.iadd, 1) := by decide +kernel
theorem dL_law_648 : decode cL_law 648 = .ok (.iaload, 1) := by decide +kernel
theorem dL_law_649 : decode cL_law 649 = .ok (.invokevirtual 109, 3) := by decide +kernel
theorem dL_law_652 : decode cL_law 652 = .ok (.aload_n 2, 1) := by decide +kernel
theorem dL_law_653 : decode cL_law 653 = .ok (.aload_n 0, 1) := by decide +kernel
theorem dL_law_654 : decode cL_law 654 = .ok (.iload_n 3, 1) := by decide +kernel
theorem dL_law_655 : decode cL_law 655 = .ok (.iconst 1, 1) := by decide +kernel
theorem dL_law_656 : decode cL_law 656 = .ok (.iadd, 1) := by decide +kernel
theorem dL_law_657 : decode cL_law 657 = .ok (.iaload, 1) := by decide +kernel
theorem dL_law_658 : decode cL_law 658 = .ok (.invokevirtual 112, 3) := by decide +kernel
theorem dL_law_661 : decode cL_law 661 = .ok (.if_icmp .eq 83, 3) := by decide +kernel
theorem dL_law_664 : decode cL_law 664 = .ok (.iconst 0, 1) := by decide +kernel
theorem dL_law_665 : decode cL_law 665 = .ok (.ireturn, 1) := by decide +kernel
theorem dL_law_666 : decode cL_law 666 = .ok (.aload_n 1, 1) := by decide +kernel
theorem dL_law_667 : decode cL_law 667 = .ok (.invokevirtual 113, 3) := by decide +kernel
theorem dL_law_670 : decode cL_law 670 = .ok (.aload_n 2, 1) := by decide +kernel
theorem dL_law_671 : decode cL_law 671 = .ok (.invokevirtual 116, 3) := by decide +kernel
theorem dL_law_674 : decode cL_law 674 = .ok (.if_icmp .eq 70, 3) := by decide +kernel
theorem dL_law_677 : decode cL_law 677 = .ok (.iconst 0, 1) := by decide +kernel
theorem dL_law_678 : decode cL_law 678 = .ok (.ireturn, 1) := by decide +kernel
theorem dL_law_679 : decode cL_law 679 = .ok (.aload_n 1, 1) := by decide +kernel
theorem dL_law_680 : decode cL_law 680 = .ok (.invokevirtual 117, 3) := by decide +kernel
theorem dL_law_683 : decode cL_law 683 = .ok (.aload_n 2, 1) := by decide +kernel
theorem dL_law_684 : decode cL_law 684 = .ok (.invokevirtual 120, 3) := by decide +kernel
theorem dL_law_687 : decode cL_law 687 = .ok (.if_icmp .eq 57, 3) := by decide +kernel
theorem dL_law_690 : decode cL_law 690 = .ok (.iconst 0, 1) := by decide +kernel
theorem dL_law_691 : decode cL_law 691 = .ok (.ireturn, 1) := by decide +kernel
theorem dL_law_692 : decode cL_law 692 = .ok (.aload_n 1, 1) := by decide +kernel
theorem dL_law_693 : decode cL_law 693 = .ok (.invokevirtual 121, 3) := by decide +kernel
theorem dL_law_696 : decode cL_law 696 = .ok (.aload_n 2, 1) := by decide +kernel
theorem dL_law_697 : decode cL_law 697 = .ok (.invokevirtual 124, 3) := by decide +kernel
theorem dL_law_700 : decode cL_law 700 = .ok (.if_icmp .eq 44, 3) := by decide +kernel
theorem dL_law_703 : decode cL_law 703 = .ok (.iconst 0, 1) := by decide +kernel
theorem dL_law_704 : decode cL_law 704 = .ok (.ireturn, 1) := by decide +kernel
theorem dL_law_705 : decode cL_law 705 = .ok (.aload_n 1, 1) := by decide +kernel
theorem dL_law_706 : decode cL_law 706 = .ok (.invokevirtual 125, 3) := by decide +kernel
theorem dL_law_709 : decode cL_law 709 = .ok (.aload_n 2, 1) := by decide +kernel
theorem dL_law_710 : decode cL_law 710 = .ok (.invokevirtual 128, 3) := by decide +kernel
theorem dL_law_713 : decode cL_law 713 = .ok (.if_icmp .eq 31, 3) := by decide +kernel
theorem dL_law_716 : decode cL_law 716 = .ok (.iconst 0, 1) := by decide +kernel
theorem dL_law_717 : decode cL_law 717 = .ok (.ireturn, 1) := by decide +kernel
theorem dL_law_718 : decode cL_law 718 = .ok (.aload_n 1, 1) := by decide +kernel
theorem dL_law_719 : decode cL_law 719 = .ok (.invokevirtual 129, 3) := by decide +kernel
theorem dL_law_722 : decode cL_law 722 = .ok (.aload_n 2, 1) := by decide +kernel
theorem dL_law_723 : decode cL_law 723 = .ok (.invokevirtual 132, 3) := by decide +kernel
theorem dL_law_726 : decode cL_law 726 = .ok (.if_icmp .eq 18, 3) := by decide +kernel
theorem dL_law_729 : decode cL_law 729 = .ok (.iconst 0, 1) := by decide +kernel
theorem dL_law_730 : decode cL_law 730 = .ok (.ireturn, 1) := by decide +kernel
theorem dL_law_731 : decode cL_law 731 = .ok (.aload_n 1, 1) := by decide +kernel
theorem dL_law_732 : decode cL_law 732 = .ok (.invokevirtual 133, 3) := by decide +kernel
theorem dL_law_735 : decode cL_law 735 = .ok (.aload_n 2, 1) := by decide +kernel
theorem dL_law_736 : decode cL_law 736 = .ok (.invokevirtual 136, 3) := by decide +kernel
theorem dL_law_739 : decode cL_law 739 = .ok (.if_icmp .eq 5, 3) := by decide +kernel
theorem dL_law_742 : decode cL_law 742 = .ok (.iconst 0, 1) := by decide +kernel
theorem dL_law_743 : decode cL_law 743 = .ok (.ireturn, 1) := by decide +kernel
theorem dL_law_744 : decode cL_law 744 = .ok (.iinc 3 4, 3) := by decide +kernel
theorem dL_law_747 : decode cL_law 747 = .ok (.goto (-729), 3) := by decide +kernel
theorem dL_law_750 : decode cL_law 750 = .ok (.iconst 1, 1) := by decide +kernel
theorem dL_law_751 : decode cL_law 751 = .ok (.ireturn, 1) := by decide +kernel
abbrev vwCl : List vw_C := [(RX0, TX0, 2), (RX1, TX1, 3), (RX2, TX2, 6), (RX3, TX3, 4), (RX4, TX4, 4), (RX5, TX5, 16), (RX6, TX6, 7), (RX7, TX7, 12)]
