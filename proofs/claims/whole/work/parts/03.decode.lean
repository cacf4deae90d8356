theorem dX0_init_0 : decode cX0_init 0 = .ok (.aload_n 0, 1) := by decide +kernel
theorem dX0_init_1 : decode cX0_init 1 = .ok (.invokespecial 3, 3) := by decide +kernel
theorem dX0_init_4 : decode cX0_init 4 = .ok (.aload_n 0, 1) := by decide +kernel
theorem dX0_init_5 : decode cX0_init 5 = .ok (.bipush 80, 2) := by decide +kernel
theorem dX0_init_7 : decode cX0_init 7 = .ok (.newarray .int, 2) := by decide +kernel
theorem dX0_init_9 : decode cX0_init 9 = .ok (.putfield 9, 3) := by decide +kernel
theorem dX0_init_12 : decode cX0_init 12 = .ok (.return_, 1) := by decide +kernel
theorem dX0_hasRoom_0 : decode cX0_hasRoom 0 = .ok (.aload_n 0, 1) := by decide +kernel
theorem dX0_hasRoom_1 : decode cX0_hasRoom 1 = .ok (.getfield 15, 3) := by decide +kernel
theorem dX0_hasRoom_4 : decode cX0_hasRoom 4 = .ok (.ifCond .lt 16, 3) := by decide +kernel
theorem dX0_hasRoom_7 : decode cX0_hasRoom 7 = .ok (.aload_n 0, 1) := by decide +kernel
theorem dX0_hasRoom_8 : decode cX0_hasRoom 8 = .ok (.getfield 15, 3) := by decide +kernel
theorem dX0_hasRoom_11 : decode cX0_hasRoom 11 = .ok (.bipush 80, 2) := by decide +kernel
theorem dX0_hasRoom_13 : decode cX0_hasRoom 13 = .ok (.if_icmp .ge 7, 3) := by decide +kernel
theorem dX0_hasRoom_16 : decode cX0_hasRoom 16 = .ok (.iconst 1, 1) := by decide +kernel
theorem dX0_hasRoom_17 : decode cX0_hasRoom 17 = .ok (.goto 4, 3) := by decide +kernel
theorem dX0_hasRoom_20 : decode cX0_hasRoom 20 = .ok (.iconst 0, 1) := by decide +kernel
theorem dX0_hasRoom_21 : decode cX0_hasRoom 21 = .ok (.ireturn, 1) := by decide +kernel
set_option maxRecDepth 20000 in
theorem ggX0_put_X0_hasRoom : GoodIn wsX0_put wsX0_hasRoom := goodIn_r _ [7, 2, 8, 9] (by decide +kernel) (by decide +kernel)
set_option maxRecDepth 20000 in
theorem gX0_put_X0_hasRoom : GoodIn wsX0_put (wsV RX0 19 RX0 yX0_hasRoom wsX0_hasRoom) := goodIn_app (goodIn_of _ (by decide +kernel)) ggX0_put_X0_hasRoom
theorem dX0_put_0 : decode cX0_put 0 = .ok (.aload_n 0, 1) := by decide +kernel
theorem dX0_put_1 : decode cX0_put 1 = .ok (.invokevirtual 19, 3) := by decide +kernel
theorem dX0_put_4 : decode cX0_put 4 = .ok (.ifCond .eq 23, 3) := by decide +kernel
theorem dX0_put_7 : decode cX0_put 7 = .ok (.aload_n 0, 1) := by decide +kernel
theorem dX0_put_8 : decode cX0_put 8 = .ok (.getfield 9, 3) := by decide +kernel
theorem dX0_put_11 : decode cX0_put 11 = .ok (.aload_n 0, 1) := by decide +kernel
theorem dX0_put_12 : decode cX0_put 12 = .ok (.getfield 15, 3) := by decide +kernel
theorem dX0_put_15 : decode cX0_put 15 = .ok (.iload_n 1, 1) := by decide +kernel
theorem dX0_put_16 : decode cX0_put 16 = .ok (.iastore, 1) := by decide +kernel
theorem dX0_put_17 : decode cX0_put 17 = .ok (.aload_n 0, 1) := by decide +kernel
theorem dX0_put_18 : decode cX0_put 18 = .ok (.dup, 1) := by decide +kernel
theorem dX0_put_19 : decode cX0_put 19 = .ok (.getfield 15, 3) := by decide +kernel
theorem dX0_put_22 : decode cX0_put 22 = .ok (.iconst 1, 1) := by decide +kernel
theorem dX0_put_23 : decode cX0_put 23 = .ok (.iadd, 1) := by decide +kernel
theorem dX0_put_24 : decode cX0_put 24 = .ok (.putfield 15, 3) := by decide +kernel
theorem dX0_put_27 : decode cX0_put 27 = .ok (.aload_n 0, 1) := by decide +kernel
theorem dX0_put_28 : decode cX0_put 28 = .ok (.getfield 15, 3) := by decide +kernel
theorem dX0_put_31 : decode cX0_put 31 = .ok (.ireturn, 1) := by decide +kernel
theorem dX0_codeAt_0 : decode cX0_codeAt 0 = .ok (.iload_n 1, 1) := by decide +kernel
theorem dX0_codeAt_1 : decode cX0_codeAt 1 = .ok (.ifCond .lt 26, 3) := by decide +kernel
theorem dX0_codeAt_4 : decode cX0_codeAt 4 = .ok (.iload_n 1, 1) := by decide +kernel
theorem dX0_codeAt_5 : decode cX0_codeAt 5 = .ok (.aload_n 0, 1) := by decide +kernel
theorem dX0_codeAt_6 : decode cX0_codeAt 6 = .ok (.getfield 15, 3) := by decide +kernel
theorem dX0_codeAt_9 : decode cX0_codeAt 9 = .ok (.if_icmp .ge 18, 3) := by decide +kernel
theorem dX0_codeAt_12 : decode cX0_codeAt 12 = .ok (.iload_n 1, 1) := by decide +kernel
theorem dX0_codeAt_13 : decode cX0_codeAt 13 = .ok (.bipush 80, 2) := by decide +kernel
theorem dX0_codeAt_15 : decode cX0_codeAt 15 = .ok (.if_icmp .ge 12, 3) := by decide +kernel
theorem dX0_codeAt_18 : decode cX0_codeAt 18 = .ok (.aload_n 0, 1) := by decide +kernel
theorem dX0_codeAt_19 : decode cX0_codeAt 19 = .ok (.getfield 9, 3) := by decide +kernel
theorem dX0_codeAt_22 : decode cX0_codeAt 22 = .ok (.iload_n 1, 1) := by decide +kernel
theorem dX0_codeAt_23 : decode cX0_codeAt 23 = .ok (.iaload, 1) := by decide +kernel
theorem dX0_codeAt_24 : decode cX0_codeAt 24 = .ok (.goto 4, 3) := by decide +kernel
theorem dX0_codeAt_27 : decode cX0_codeAt 27 = .ok (.iconst 0, 1) := by decide +kernel
theorem dX0_codeAt_28 : decode cX0_codeAt 28 = .ok (.ireturn, 1) := by decide +kernel
theorem dX0_empty_0 : decode cX0_empty 0 = .ok (.aload_n 0, 1) := by decide +kernel
theorem dX0_empty_1 : decode cX0_empty 1 = .ok (.getfield 15, 3) := by decide +kernel
theorem dX0_empty_4 : decode cX0_empty 4 = .ok (.istore_n 1, 1) := by decide +kernel
theorem dX0_empty_5 : decode cX0_empty 5 = .ok (.aload_n 0, 1) := by decide +kernel
theorem dX0_empty_6 : decode cX0_empty 6 = .ok (.iconst 0, 1) := by decide +kernel
theorem dX0_empty_7 : decode cX0_empty 7 = .ok (.putfield 15, 3) := by decide +kernel
theorem dX0_empty_10 : decode cX0_empty 10 = .ok (.iload_n 1, 1) := by decide +kernel
theorem dX0_empty_11 : decode cX0_empty 11 = .ok (.ireturn, 1) := by decide +kernel
set_option maxRecDepth 20000 in
theorem ggX1_init_X5_init : GoodIn wsX1_init wsX5_init := goodIn_r _ [9, 10, 2, 3, 11, 12, 13, 14, 15, 16, 17, 18, 19, 20, 21, 22, 23, 24, 25, 26, 27, 28, 29, 30, 31, 32, 33, 34, 35, 55, 56, 57, 58, 39, 40, 41, 42, 43, 44, 45, 46, 47, 48, 49, 50, 51, 52, 53, 54, 59, 60, 61, 62] (by decide +kernel) (by decide +kernel)
set_option maxRecDepth 20000 in
theorem gX1_init_X5_init_n17 : GoodIn wsX1_init (wsX5_init) := ggX1_init_X5_init
theorem dX1_init_0 : decode cX1_init 0 = .ok (.aload_n 0, 1) := by decide +kernel
theorem dX1_init_1 : decode cX1_init 1 = .ok (.invokespecial 3, 3) := by decide +kernel
theorem dX1_init_4 : decode cX1_init 4 = .ok (.aload_n 0, 1) := by decide +kernel
theorem dX1_init_5 : decode cX1_init 5 = .ok (.iconst 4, 1) := by decide +kernel
theorem dX1_init_6 : decode cX1_init 6 = .ok (.anewarray 9, 3) := by decide +kernel
theorem dX1_init_9 : decode cX1_init 9 = .ok (.putfield 11, 3) := by decide +kernel
theorem dX1_init_12 : decode cX1_init 12 = .ok (.iconst 0, 1) := by decide +kernel
theorem dX1_init_13 : decode cX1_init 13 = .ok (.istore_n 1, 1) := by decide +kernel
theorem dX1_init_14 : decode cX1_init 14 = .ok (.iload_n 1, 1) := by decide +kernel
theorem dX1_init_15 : decode cX1_init 15 = .ok (.iconst 4, 1) := by decide +kernel
theorem dX1_init_16 : decode cX1_init 16 = .ok (.if_icmp .ge 22, 3) := by decide +kernel
theorem dX1_init_19 : decode cX1_init 19 = .ok (.aload_n 0, 1) := by decide +kernel
theorem dX1_init_20 : decode cX1_init 20 = .ok (.getfield 11, 3) := by decide +kernel
theorem dX1_init_23 : decode cX1_init 23 = .ok (.iload_n 1, 1) := by decide +kernel
theorem dX1_init_24 : decode cX1_init 24 = .ok (.new 9, 3) := by decide +kernel
theorem dX1_init_27 : decode cX1_init 27 = .ok (.dup, 1) := by decide +kernel
theorem dX1_init_28 : decode cX1_init 28 = .ok (.invokespecial 17, 3) := by decide +kernel
theorem dX1_init_31 : decode cX1_init 31 = .ok (.aastore, 1) := by decide +kernel
theorem dX1_init_32 : decode cX1_init 32 = .ok (.iinc 1 1, 3) := by decide +kernel
theorem dX1_init_35 : decode cX1_init 35 = .ok (.goto (-21), 3) := by decide +kernel
theorem dX1_init_38 : decode cX1_init 38 = .ok (.return_, 1) := by decide +kernel
set_option maxRecDepth 20000 in
theorem ggX1_remember_X1_stateAt : GoodIn wsX1_remember wsX1_stateAt := goodIn_r _ [7, 2, 8, 9, 10, 11, 12, 58, 59, 60] (by decide +kernel) (by decide +kernel)
set_option maxRecDepth 20000 in
theorem gX1_remember_X1_stateAt : GoodIn wsX1_remember (wsV RX1 25 RX1 yX1_stateAt wsX1_stateAt) := goodIn_app (goodIn_of _ (by decide +kernel)) ggX1_remember_X1_stateAt
set_option maxRecDepth 20000 in
theorem ggX1_remember_X5_copyFrom : GoodIn wsX1_remember wsX5_copyFrom := goodIn_r _ [17, 18, 19, 20, 21, 22, 23, 24, 25, 26, 27, 28, 29, 30, 31, 32, 33, 34, 35, 36, 37, 38, 39, 40, 41, 42, 43, 44, 45, 46, 47, 48, 49, 50, 51, 52, 53, 54, 55, 56, 57, 61, 62, 63, 64, 65, 66, 67, 68, 69, 70, 71, 72, 73, 74, 75, 76, 77, 78, 79, 80, 81, 82, 83, 84] (by decide +kernel) (by decide +kernel)
set_option maxRecDepth 20000 in
theorem gX1_remember_X5_copyFrom : GoodIn wsX1_remember (wsV RX1 29 RX5 yX5_copyFrom wsX5_copyFrom) := goodIn_app (goodIn_of _ (by decide +kernel)) ggX1_remember_X5_copyFrom
theorem dX1_remember_0 : decode cX1_remember 0 = .ok (.aload_n 0, 1) := by decide +kernel
theorem dX1_remember_1 : decode cX1_remember 1 = .ok (.getfield 18, 3) := by decide +kernel
theorem dX1_remember_4 : decode cX1_remember 4 = .ok (.iconst 4, 1) := by decide +kernel
theorem dX1_remember_5 : decode cX1_remember 5 = .ok (.if_icmp .ne 25, 3) := by decide +kernel
theorem dX1_remember_8 : decode cX1_remember 8 = .ok (.aload_n 0, 1) := by decide +kernel
theorem dX1_remember_9 : decode cX1_remember 9 = .ok (.aload_n 0, 1) := by decide +kernel
theorem dX1_remember_10 : decode cX1_remember 10 = .ok (.getfield 22, 3) := by decide +kernel
theorem dX1_remember_13 : decode cX1_remember 13 = .ok (.iconst 1, 1) := by decide +kernel
theorem dX1_remember_14 : decode cX1_remember 14 = .ok (.iadd, 1) := by decide +kernel
theorem dX1_remember_15 : decode cX1_remember 15 = .ok (.iconst 4, 1) := by decide +kernel
theorem dX1_remember_16 : decode cX1_remember 16 = .ok (.irem, 1) := by decide +kernel
theorem dX1_remember_17 : decode cX1_remember 17 = .ok (.putfield 22, 3) := by decide +kernel
theorem dX1_remember_20 : decode cX1_remember 20 = .ok (.aload_n 0, 1) := by decide +kernel
theorem dX1_remember_21 : decode cX1_remember 21 = .ok (.dup, 1) := by decide +kernel
theorem dX1_remember_22 : decode cX1_remember 22 = .ok (.getfield 18, 3) := by decide +kernel
theorem dX1_remember_25 : decode cX1_remember 25 = .ok (.iconst 1, 1) := by decide +kernel
theorem dX1_remember_26 : decode cX1_remember 26 = .ok (.isub, 1) := by decide +kernel
theorem dX1_remember_27 : decode cX1_remember 27 = .ok (.putfield 18, 3) := by decide +kernel
theorem dX1_remember_30 : decode cX1_remember 30 = .ok (.aload_n 0, 1) := by decide +kernel
theorem dX1_remember_31 : decode cX1_remember 31 = .ok (.aload_n 0, 1) := by decide +kernel
theorem dX1_remember_32 : decode cX1_remember 32 = .ok (.getfield 18, 3) := by decide +kernel
theorem dX1_remember_35 : decode cX1_remember 35 = .ok (.invokevirtual 25, 3) := by decide +kernel
theorem dX1_remember_38 : decode cX1_remember 38 = .ok (.astore_n 2, 1) := by decide +kernel
theorem dX1_remember_39 : decode cX1_remember 39 = .ok (.aload_n 2, 1) := by decide +kernel
theorem dX1_remember_40 : decode cX1_remember 40 = .ok (.ifnull 18, 3) := by decide +kernel
theorem dX1_remember_43 : decode cX1_remember 43 = .ok (.aload_n 2, 1) := by decide +kernel
theorem dX1_remember_44 : decode cX1_remember 44 = .ok (.aload_n 1, 1) := by decide +kernel
theorem dX1_remember_45 : decode cX1_remember 45 = .ok (.invokevirtual 29, 3) := by decide +kernel
theorem dX1_remember_48 : decode cX1_remember 48 = .ok (.aload_n 0, 1) := by decide +kernel
theorem dX1_remember_49 : decode cX1_remember 49 = .ok (.dup, 1) := by decide +kernel
theorem dX1_remember_50 : decode cX1_remember 50 = .ok (.getfield 18, 3) := by decide +kernel
theorem dX1_remember_53 : decode cX1_remember 53 = .ok (.iconst 1, 1) := by decide +kernel
theorem dX1_remember_54 : decode cX1_remember 54 = .ok (.iadd, 1) := by decide +kernel
theorem dX1_remember_55 : decode cX1_remember 55 = .ok (.putfield 18, 3) := by decide +kernel
theorem dX1_remember_58 : decode cX1_remember 58 = .ok (.return_, 1) := by decide +kernel
set_option maxRecDepth 20000 in
theorem ggX1_takeLatest_X1_stateAt : GoodIn wsX1_takeLatest wsX1_stateAt := goodIn_r _ [6, 7, 8, 9, 10, 11, 12, 58, 59, 60] (by decide +kernel) (by decide +kernel)
set_option maxRecDepth 20000 in
theorem gX1_takeLatest_X1_stateAt : GoodIn wsX1_takeLatest (wsV RX1 25 RX1 yX1_stateAt wsX1_stateAt) := goodIn_app (goodIn_of _ (by decide +kernel)) ggX1_takeLatest_X1_stateAt
set_option maxRecDepth 20000 in
theorem ggX1_takeLatest_X5_copyFrom : GoodIn wsX1_takeLatest wsX5_copyFrom := goodIn_r _ [17, 18, 19, 20, 21, 22, 23, 24, 25, 26, 27, 28, 29, 30, 31, 32, 33, 34, 35, 36, 37, 38, 39, 40, 41, 42, 43, 44, 45, 46, 47, 48, 49, 50, 51, 52, 53, 54, 55, 56, 57, 61, 62, 63, 64, 65, 66, 67, 68, 69, 70, 71, 72, 73, 74, 75, 76, 77, 78, 79, 80, 81, 82, 83, 84] (by decide +kernel) (by decide +kernel)
set_option maxRecDepth 20000 in
theorem gX1_takeLatest_X5_copyFrom : GoodIn wsX1_takeLatest (wsV RX1 29 RX5 yX5_copyFrom wsX5_copyFrom) := goodIn_app (goodIn_of _ (by decide +kernel)) ggX1_takeLatest_X5_copyFrom
theorem dX1_takeLatest_0 : decode cX1_takeLatest 0 = .ok (.aload_n 0, 1) := by decide +kernel
theorem dX1_takeLatest_1 : decode cX1_takeLatest 1 = .ok (.aload_n 0, 1) := by decide +kernel
theorem dX1_takeLatest_2 : decode cX1_takeLatest 2 = .ok (.getfield 18, 3) := by decide +kernel
theorem dX1_takeLatest_5 : decode cX1_takeLatest 5 = .ok (.iconst 1, 1) := by decide +kernel
theorem dX1_takeLatest_6 : decode cX1_takeLatest 6 = .ok (.isub, 1) := by decide +kernel
theorem dX1_takeLatest_7 : decode cX1_takeLatest 7 = .ok (.invokevirtual 25, 3) := by decide +kernel
theorem dX1_takeLatest_10 : decode cX1_takeLatest 10 = .ok (.astore_n 2, 1) := by decide +kernel
theorem dX1_takeLatest_11 : decode cX1_takeLatest 11 = .ok (.aload_n 2, 1) := by decide +kernel
theorem dX1_takeLatest_12 : decode cX1_takeLatest 12 = .ok (.ifnull 18, 3) := by decide +kernel
theorem dX1_takeLatest_15 : decode cX1_takeLatest 15 = .ok (.aload_n 1, 1) := by decide +kernel
theorem dX1_takeLatest_16 : decode cX1_takeLatest 16 = .ok (.aload_n 2, 1) := by decide +kernel
theorem dX1_takeLatest_17 : decode cX1_takeLatest 17 = .ok (.invokevirtual 29, 3) := by decide +kernel
theorem dX1_takeLatest_20 : decode cX1_takeLatest 20 = .ok (.aload_n 0, 1) := by decide +kernel
theorem dX1_takeLatest_21 : decode cX1_takeLatest 21 = .ok (.dup, 1) := by decide +kernel
theorem dX1_takeLatest_22 : decode cX1_takeLatest 22 = .ok (.getfield 18, 3) := by decide +kernel
theorem dX1_takeLatest_25 : decode cX1_takeLatest 25 = .ok (.iconst 1, 1) := by decide +kernel
theorem dX1_takeLatest_26 : decode cX1_takeLatest 26 = .ok (.isub, 1) := by decide +kernel
theorem dX1_takeLatest_27 : decode cX1_takeLatest 27 = .ok (.putfield 18, 3) := by decide +kernel
theorem dX1_takeLatest_30 : decode cX1_takeLatest 30 = .ok (.return_, 1) := by decide +kernel
set_option maxRecDepth 20000 in
theorem ggX1_stateAt_J9_floorMod_7cf53 : GoodIn wsX1_stateAt wsJ9_floorMod_7cf53 := goodIn_r _ [6] (by decide +kernel) (by decide +kernel)
set_option maxRecDepth 20000 in
theorem gX1_stateAt_J9_floorMod_7cf53 : GoodIn wsX1_stateAt (va_wsS RX1 33 yJ9_floorMod_7cf53 wsJ9_floorMod_7cf53) := goodIn_app (goodIn_of _ (by decide +kernel)) ggX1_stateAt_J9_floorMod_7cf53
theorem dX1_stateAt_0 : decode cX1_stateAt 0 = .ok (.aload_n 0, 1) := by decide +kernel
theorem dX1_stateAt_1 : decode cX1_stateAt 1 = .ok (.getfield 22, 3) := by decide +kernel
theorem dX1_stateAt_4 : decode cX1_stateAt 4 = .ok (.iload_n 1, 1) := by decide +kernel
theorem dX1_stateAt_5 : decode cX1_stateAt 5 = .ok (.iadd, 1) := by decide +kernel
theorem dX1_stateAt_6 : decode cX1_stateAt 6 = .ok (.iconst 4, 1) := by decide +kernel
theorem dX1_stateAt_7 : decode cX1_stateAt 7 = .ok (.invokestatic 33, 3) := by decide +kernel
theorem dX1_stateAt_10 : decode cX1_stateAt 10 = .ok (.istore_n 2, 1) := by decide +kernel
theorem dX1_stateAt_11 : decode cX1_stateAt 11 = .ok (.iload_n 2, 1) := by decide +kernel
theorem dX1_stateAt_12 : decode cX1_stateAt 12 = .ok (.ifCond .lt 17, 3) := by decide +kernel
theorem dX1_stateAt_15 : decode cX1_stateAt 15 = .ok (.iload_n 2, 1) := by decide +kernel
theorem dX1_stateAt_16 : decode cX1_stateAt 16 = .ok (.iconst 4, 1) := by decide +kernel
theorem dX1_stateAt_17 : decode cX1_stateAt 17 = .ok (.if_icmp .ge 12, 3) := by decide +kernel
theorem dX1_stateAt_20 : decode cX1_stateAt 20 = .ok (.aload_n 0, 1) := by decide +kernel
theorem dX1_stateAt_21 : decode cX1_stateAt 21 = .ok (.getfield 11, 3) := by decide +kernel
theorem dX1_stateAt_24 : decode cX1_stateAt 24 = .ok (.iload_n 2, 1) := by decide +kernel
theorem dX1_stateAt_25 : decode cX1_stateAt 25 = .ok (.aaload, 1) := by decide +kernel
theorem dX1_stateAt_26 : decode cX1_stateAt 26 = .ok (.goto 4, 3) := by decide +kernel
theorem dX1_stateAt_29 : decode cX1_stateAt 29 = .ok (.aconst_null, 1) := by decide +kernel
theorem dX1_stateAt_30 : decode cX1_stateAt 30 = .ok (.areturn, 1) := by decide +kernel
theorem dX2_init_0 : decode cX2_init 0 = .ok (.aload_n 0, 1) := by decide +kernel
theorem dX2_init_1 : decode cX2_init 1 = .ok (.invokespecial 3, 3) := by decide +kernel
theorem dX2_init_4 : decode cX2_init 4 = .ok (.return_, 1) := by decide +kernel
set_option maxRecDepth 20000 in
theorem ggX2_beginItem_X2_beginNumber : GoodIn wsX2_beginItem wsX2_beginNumber := goodIn_r _ [5, 6, 7, 8, 9, 10, 11, 12, 13, 14, 15, 16] (by decide +kernel) (by decide +kernel)
set_option maxRecDepth 20000 in
theorem gX2_beginItem_X2_beginNumber : GoodIn wsX2_beginItem (wsV RX2 11 RX2 yX2_beginNumber wsX2_beginNumber) := goodIn_app (goodIn_of _ (by decide +kernel)) ggX2_beginItem_X2_beginNumber
theorem dX2_beginItem_0 : decode cX2_beginItem 0 = .ok (.aload_n 0, 1) := by decide +kernel
theorem dX2_beginItem_1 : decode cX2_beginItem 1 = .ok (.iconst 0, 1) := by decide +kernel
theorem dX2_beginItem_2 : decode cX2_beginItem 2 = .ok (.iconst 0, 1) := by decide +kernel
theorem dX2_beginItem_3 : decode cX2_beginItem 3 = .ok (.sipush 999, 3) := by decide +kernel
theorem dX2_beginItem_6 : decode cX2_beginItem 6 = .ok (.invokevirtual 11, 3) := by decide +kernel
theorem dX2_beginItem_9 : decode cX2_beginItem 9 = .ok (.return_, 1) := by decide +kernel
theorem dX2_beginNumber_0 : decode cX2_beginNumber 0 = .ok (.aload_n 0, 1) := by decide +kernel
theorem dX2_beginNumber_1 : decode cX2_beginNumber 1 = .ok (.iload_n 1, 1) := by decide +kernel
theorem dX2_beginNumber_2 : decode cX2_beginNumber 2 = .ok (.putfield 15, 3) := by decide +kernel
theorem dX2_beginNumber_5 : decode cX2_beginNumber 5 = .ok (.aload_n 0, 1) := by decide +kernel
theorem dX2_beginNumber_6 : decode cX2_beginNumber 6 = .ok (.iconst 0, 1) := by decide +kernel
theorem dX2_beginNumber_7 : decode cX2_beginNumber 7 = .ok (.putfield 19, 3) := by decide +kernel
theorem dX2_beginNumber_10 : decode cX2_beginNumber 10 = .ok (.aload_n 0, 1) := by decide +kernel
theorem dX2_beginNumber_11 : decode cX2_beginNumber 11 = .ok (.iconst 0, 1) := by decide +kernel
theorem dX2_beginNumber_12 : decode cX2_beginNumber 12 = .ok (.putfield 23, 3) := by decide +kernel
theorem dX2_beginNumber_15 : decode cX2_beginNumber 15 = .ok (.aload_n 0, 1) := by decide +kernel
theorem dX2_beginNumber_16 : decode cX2_beginNumber 16 = .ok (.iload_n 2, 1) := by decide +kernel
theorem dX2_beginNumber_17 : decode cX2_beginNumber 17 = .ok (.putfield 26, 3) := by decide +kernel
theorem dX2_beginNumber_20 : decode cX2_beginNumber 20 = .ok (.aload_n 0, 1) := by decide +kernel
theorem dX2_beginNumber_21 : decode cX2_beginNumber 21 = .ok (.iload_n 3, 1) := by decide +kernel
theorem dX2_beginNumber_22 : decode cX2_beginNumber 22 = .ok (.putfield 29, 3) := by decide +kernel
theorem dX2_beginNumber_25 : decode cX2_beginNumber 25 = .ok (.return_, 1) := by decide +kernel
set_option maxRecDepth 20000 in
theorem ggX2_take_X2_takeDigit : GoodIn wsX2_take wsX2_takeDigit := goodIn_r _ [6, 7, 8, 9, 10, 11, 5, 12, 13, 14, 15, 16, 17, 18, 36, 37, 38, 39, 40, 41] (by decide +kernel) (by decide +kernel)
set_option maxRecDepth 20000 in
theorem gX2_take_X2_takeDigit : GoodIn wsX2_take (wsV RX2 32 RX2 yX2_takeDigit wsX2_takeDigit) := goodIn_app (goodIn_of _ (by decide +kernel)) ggX2_take_X2_takeDigit
set_option maxRecDepth 20000 in
theorem ggX2_take_X2_isWhole : GoodIn wsX2_take wsX2_isWhole := goodIn_r _ [22, 7, 8, 14, 15, 16, 5, 17, 18, 13, 36, 37, 38, 39, 40, 41] (by decide +kernel) (by decide +kernel)
set_option maxRecDepth 20000 in
theorem gX2_take_X2_isWhole : GoodIn wsX2_take (wsV RX2 36 RX2 yX2_isWhole wsX2_isWhole) := goodIn_app (goodIn_of _ (by decide +kernel)) ggX2_take_X2_isWhole
set_option maxRecDepth 20000 in
theorem ggX2_take_X2_beginItem : GoodIn wsX2_take wsX2_beginItem := goodIn_r _ [26, 27, 28, 29, 5, 30, 1, 7, 8, 13, 18, 36, 37, 38, 39, 40, 41] (by decide +kernel) (by decide +kernel)
set_option maxRecDepth 20000 in
theorem gX2_take_X2_beginItem : GoodIn wsX2_take (wsV RX2 40 RX2 yX2_beginItem wsX2_beginItem) := goodIn_app (goodIn_of _ (by decide +kernel)) ggX2_take_X2_beginItem
set_option maxRecDepth 20000 in
theorem ggX2_take_X2_takeSign : GoodIn wsX2_take wsX2_takeSign := goodIn_r _ [34, 8, 35, 27, 28, 29, 5, 30, 1, 7, 13, 18, 36, 37, 38, 39, 40, 41] (by decide +kernel) (by decide +kernel)
set_option maxRecDepth 20000 in
theorem gX2_take_X2_takeSign : GoodIn wsX2_take (wsV RX2 43 RX2 yX2_takeSign wsX2_takeSign) := goodIn_app (goodIn_of _ (by decide +kernel)) ggX2_take_X2_takeSign
theorem dX2_take_0 : decode cX2_take 0 = .ok (.iload_n 1, 1) := by decide +kernel
theorem dX2_take_1 : decode cX2_take 1 = .ok (.bipush 48, 2) := by decide +kernel
theorem dX2_take_3 : decode cX2_take 3 = .ok (.if_icmp .lt 18, 3) := by decide +kernel
theorem dX2_take_6 : decode cX2_take 6 = .ok (.iload_n 1, 1) := by decide +kernel
theorem dX2_take_7 : decode cX2_take 7 = .ok (.bipush 57, 2) := by decide +kernel
theorem dX2_take_9 : decode cX2_take 9 = .ok (.if_icmp .gt 12, 3) := by decide +kernel
theorem dX2_take_12 : decode cX2_take 12 = .ok (.aload_n 0, 1) := by decide +kernel
theorem dX2_take_13 : decode cX2_take 13 = .ok (.iload_n 1, 1) := by decide +kernel
theorem dX2_take_14 : decode cX2_take 14 = .ok (.bipush 48, 2) := by decide +kernel
theorem dX2_take_16 : decode cX2_take 16 = .ok (.isub, 1) := by decide +kernel
theorem dX2_take_17 : decode cX2_take 17 = .ok (.invokevirtual 32, 3) := by decide +kernel
theorem dX2_take_20 : decode cX2_take 20 = .ok (.ireturn, 1) := by decide +kernel
theorem dX2_take_21 : decode cX2_take 21 = .ok (.aload_n 0, 1) := by decide +kernel
theorem dX2_take_22 : decode cX2_take 22 = .ok (.invokevirtual 36, 3) := by decide +kernel
theorem dX2_take_25 : decode cX2_take 25 = .ok (.ifCond .ne 5, 3) := by decide +kernel
theorem dX2_take_28 : decode cX2_take 28 = .ok (.iconst 0, 1) := by decide +kernel
theorem dX2_take_29 : decode cX2_take 29 = .ok (.ireturn, 1) := by decide +kernel
theorem dX2_take_30 : decode cX2_take 30 = .ok (.iload_n 1, 1) := by decide +kernel
theorem dX2_take_31 : decode cX2_take 31 = .ok (.bipush 44, 2) := by decide +kernel
theorem dX2_take_33 : decode cX2_take 33 = .ok (.if_icmp .ne 9, 3) := by decide +kernel
theorem dX2_take_36 : decode cX2_take 36 = .ok (.aload_n 0, 1) := by decide +kernel
theorem dX2_take_37 : decode cX2_take 37 = .ok (.invokevirtual 40, 3) := by decide +kernel
theorem dX2_take_40 : decode cX2_take 40 = .ok (.iconst 1, 1) := by decide +kernel
theorem dX2_take_41 : decode cX2_take 41 = .ok (.ireturn, 1) := by decide +kernel
theorem dX2_take_42 : decode cX2_take 42 = .ok (.aload_n 0, 1) := by decide +kernel
theorem dX2_take_43 : decode cX2_take 43 = .ok (.getfield 15, 3) := by decide +kernel
theorem dX2_take_46 : decode cX2_take 46 = .ok (.ifCond .eq 5, 3) := by decide +kernel
theorem dX2_take_49 : decode cX2_take 49 = .ok (.iconst 0, 1) := by decide +kernel
theorem dX2_take_50 : decode cX2_take 50 = .ok (.ireturn, 1) := by decide +kernel
theorem dX2_take_51 : decode cX2_take 51 = .ok (.aload_n 0, 1) := by decide +kernel
theorem dX2_take_52 : decode cX2_take 52 = .ok (.iload_n 1, 1) := by decide +kernel
theorem dX2_take_53 : decode cX2_take 53 = .ok (.invokevirtual 43, 3) := by decide +kernel
theorem dX2_take_56 : decode cX2_take 56 = .ok (.ireturn, 1) := by decide +kernel
set_option maxRecDepth 20000 in
theorem ggX2_takeDigit_X2_canBegin : GoodIn wsX2_takeDigit wsX2_canBegin := goodIn_r _ [7, 8, 9, 10, 11, 6, 12, 13, 14, 15, 16, 17, 18, 19] (by decide +kernel) (by decide +kernel)
set_option maxRecDepth 20000 in
theorem gX2_takeDigit_X2_canBegin : GoodIn wsX2_takeDigit (wsV RX2 46 RX2 yX2_canBegin wsX2_canBegin) := goodIn_app (goodIn_of _ (by decide +kernel)) ggX2_takeDigit_X2_canBegin
theorem dX2_takeDigit_0 : decode cX2_takeDigit 0 = .ok (.aload_n 0, 1) := by decide +kernel
theorem dX2_takeDigit_1 : decode cX2_takeDigit 1 = .ok (.getfield 19, 3) := by decide +kernel
theorem dX2_takeDigit_4 : decode cX2_takeDigit 4 = .ok (.ifCond .eq 12, 3) := by decide +kernel
theorem dX2_takeDigit_7 : decode cX2_takeDigit 7 = .ok (.aload_n 0, 1) := by decide +kernel
theorem dX2_takeDigit_8 : decode cX2_takeDigit 8 = .ok (.getfield 23, 3) := by decide +kernel
theorem dX2_takeDigit_11 : decode cX2_takeDigit 11 = .ok (.ifCond .ne 5, 3) := by decide +kernel
theorem dX2_takeDigit_14 : decode cX2_takeDigit 14 = .ok (.iconst 0, 1) := by decide +kernel
theorem dX2_takeDigit_15 : decode cX2_takeDigit 15 = .ok (.ireturn, 1) := by decide +kernel
theorem dX2_takeDigit_16 : decode cX2_takeDigit 16 = .ok (.aload_n 0, 1) := by decide +kernel
theorem dX2_takeDigit_17 : decode cX2_takeDigit 17 = .ok (.getfield 23, 3) := by decide +kernel
theorem dX2_takeDigit_20 : decode cX2_takeDigit 20 = .ok (.bipush 10, 2) := by decide +kernel
theorem dX2_takeDigit_22 : decode cX2_takeDigit 22 = .ok (.imul, 1) := by decide +kernel
theorem dX2_takeDigit_23 : decode cX2_takeDigit 23 = .ok (.iload_n 1, 1) := by decide +kernel
theorem dX2_takeDigit_24 : decode cX2_takeDigit 24 = .ok (.iadd, 1) := by decide +kernel
theorem dX2_takeDigit_25 : decode cX2_takeDigit 25 = .ok (.istore_n 2, 1) := by decide +kernel
theorem dX2_takeDigit_26 : decode cX2_takeDigit 26 = .ok (.aload_n 0, 1) := by decide +kernel
theorem dX2_takeDigit_27 : decode cX2_takeDigit 27 = .ok (.iload_n 2, 1) := by decide +kernel
theorem dX2_takeDigit_28 : decode cX2_takeDigit 28 = .ok (.invokevirtual 46, 3) := by decide +kernel
theorem dX2_takeDigit_31 : decode cX2_takeDigit 31 = .ok (.ifCond .ne 5, 3) := by decide +kernel
theorem dX2_takeDigit_34 : decode cX2_takeDigit 34 = .ok (.iconst 0, 1) := by decide +kernel
theorem dX2_takeDigit_35 : decode cX2_takeDigit 35 = .ok (.ireturn, 1) := by decide +kernel
theorem dX2_takeDigit_36 : decode cX2_takeDigit 36 = .ok (.aload_n 0, 1) := by decide +kernel
theorem dX2_takeDigit_37 : decode cX2_takeDigit 37 = .ok (.iload_n 2, 1) := by decide +kernel
theorem dX2_takeDigit_38 : decode cX2_takeDigit 38 = .ok (.putfield 23, 3) := by decide +kernel
theorem dX2_takeDigit_41 : decode cX2_takeDigit 41 = .ok (.aload_n 0, 1) := by decide +kernel
theorem dX2_takeDigit_42 : decode cX2_takeDigit 42 = .ok (.iconst 1, 1) := by decide +kernel
theorem dX2_takeDigit_43 : decode cX2_takeDigit 43 = .ok (.putfield 19, 3) := by decide +kernel
theorem dX2_takeDigit_46 : decode cX2_takeDigit 46 = .ok (.iconst 1, 1) := by decide +kernel
theorem dX2_takeDigit_47 : decode cX2_takeDigit 47 = .ok (.ireturn, 1) := by decide +kernel
set_option maxRecDepth 20000 in
theorem ggX2_canBegin_X2_meets : GoodIn wsX2_canBegin wsX2_meets := goodIn_r _ [6, 7, 1, 8, 9, 10, 11, 12, 13] (by decide +kernel) (by decide +kernel)
set_option maxRecDepth 20000 in
theorem gX2_canBegin_X2_meets : GoodIn wsX2_canBegin (wsV RX2 49 RX2 yX2_meets wsX2_meets) := goodIn_app (goodIn_of _ (by decide +kernel)) ggX2_canBegin_X2_meets
theorem dX2_canBegin_0 : decode cX2_canBegin 0 = .ok (.iload_n 1, 1) := by decide +kernel
theorem dX2_canBegin_1 : decode cX2_canBegin 1 = .ok (.ifCond .ne 16, 3) := by decide +kernel
theorem dX2_canBegin_4 : decode cX2_canBegin 4 = .ok (.aload_n 0, 1) := by decide +kernel
theorem dX2_canBegin_5 : decode cX2_canBegin 5 = .ok (.getfield 26, 3) := by decide +kernel
theorem dX2_canBegin_8 : decode cX2_canBegin 8 = .ok (.ifCond .gt 7, 3) := by decide +kernel
theorem dX2_canBegin_11 : decode cX2_canBegin 11 = .ok (.iconst 1, 1) := by decide +kernel
theorem dX2_canBegin_12 : decode cX2_canBegin 12 = .ok (.goto 4, 3) := by decide +kernel
theorem dX2_canBegin_15 : decode cX2_canBegin 15 = .ok (.iconst 0, 1) := by decide +kernel
theorem dX2_canBegin_16 : decode cX2_canBegin 16 = .ok (.ireturn, 1) := by decide +kernel
theorem dX2_canBegin_17 : decode cX2_canBegin 17 = .ok (.aload_n 0, 1) := by decide +kernel
theorem dX2_canBegin_18 : decode cX2_canBegin 18 = .ok (.iload_n 1, 1) := by decide +kernel
theorem dX2_canBegin_19 : decode cX2_canBegin 19 = .ok (.iload_n 1, 1) := by decide +kernel
theorem dX2_canBegin_20 : decode cX2_canBegin 20 = .ok (.invokevirtual 49, 3) := by decide +kernel
theorem dX2_canBegin_23 : decode cX2_canBegin 23 = .ok (.ifCond .ne 39, 3) := by decide +kernel
theorem dX2_canBegin_26 : decode cX2_canBegin 26 = .ok (.aload_n 0, 1) := by decide +kernel
theorem dX2_canBegin_27 : decode cX2_canBegin 27 = .ok (.iload_n 1, 1) := by decide +kernel
theorem dX2_canBegin_28 : decode cX2_canBegin 28 = .ok (.bipush 10, 2) := by decide +kernel
theorem dX2_canBegin_30 : decode cX2_canBegin 30 = .ok (.imul, 1) := by decide +kernel
theorem dX2_canBegin_31 : decode cX2_canBegin 31 = .ok (.iload_n 1, 1) := by decide +kernel
theorem dX2_canBegin_32 : decode cX2_canBegin 32 = .ok (.bipush 10, 2) := by decide +kernel
theorem dX2_canBegin_34 : decode cX2_canBegin 34 = .ok (.imul, 1) := by decide +kernel
theorem dX2_canBegin_35 : decode cX2_canBegin 35 = .ok (.bipush 9, 2) := by decide +kernel
theorem dX2_canBegin_37 : decode cX2_canBegin 37 = .ok (.iadd, 1) := by decide +kernel
theorem dX2_canBegin_38 : decode cX2_canBegin 38 = .ok (.invokevirtual 49, 3) := by decide +kernel
theorem dX2_canBegin_41 : decode cX2_canBegin 41 = .ok (.ifCond .ne 21, 3) := by decide +kernel
theorem dX2_canBegin_44 : decode cX2_canBegin 44 = .ok (.aload_n 0, 1) := by decide +kernel
theorem dX2_canBegin_45 : decode cX2_canBegin 45 = .ok (.iload_n 1, 1) := by decide +kernel
theorem dX2_canBegin_46 : decode cX2_canBegin 46 = .ok (.bipush 100, 2) := by decide +kernel
theorem dX2_canBegin_48 : decode cX2_canBegin 48 = .ok (.imul, 1) := by decide +kernel
theorem dX2_canBegin_49 : decode cX2_canBegin 49 = .ok (.iload_n 1, 1) := by decide +kernel
theorem dX2_canBegin_50 : decode cX2_canBegin 50 = .ok (.bipush 100, 2) := by decide +kernel
theorem dX2_canBegin_52 : decode cX2_canBegin 52 = .ok (.imul, 1) := by decide +kernel
theorem dX2_canBegin_53 : decode cX2_canBegin 53 = .ok (.bipush 99, 2) := by decide +kernel
theorem dX2_canBegin_55 : decode cX2_canBegin 55 = .ok (.iadd, 1) := by decide +kernel
theorem dX2_canBegin_56 : decode cX2_canBegin 56 = .ok (.invokevirtual 49, 3) := by decide +kernel
theorem dX2_canBegin_59 : decode cX2_canBegin 59 = .ok (.ifCond .eq 7, 3) := by decide +kernel
theorem dX2_canBegin_62 : decode cX2_canBegin 62 = .ok (.iconst 1, 1) := by decide +kernel
theorem dX2_canBegin_63 : decode cX2_canBegin 63 = .ok (.goto 4, 3) := by decide +kernel
theorem dX2_canBegin_66 : decode cX2_canBegin 66 = .ok (.iconst 0, 1) := by decide +kernel
theorem dX2_canBegin_67 : decode cX2_canBegin 67 = .ok (.ireturn, 1) := by decide +kernel
theorem dX2_meets_0 : decode cX2_meets 0 = .ok (.iload_n 1, 1) := by decide +kernel
theorem dX2_meets_1 : decode cX2_meets 1 = .ok (.aload_n 0, 1) := by decide +kernel
theorem dX2_meets_2 : decode cX2_meets 2 = .ok (.getfield 29, 3) := by decide +kernel
theorem dX2_meets_5 : decode cX2_meets 5 = .ok (.if_icmp .gt 15, 3) := by decide +kernel
theorem dX2_meets_8 : decode cX2_meets 8 = .ok (.iload_n 2, 1) := by decide +kernel
theorem dX2_meets_9 : decode cX2_meets 9 = .ok (.aload_n 0, 1) := by decide +kernel
theorem dX2_meets_10 : decode cX2_meets 10 = .ok (.getfield 26, 3) := by decide +kernel
theorem dX2_meets_13 : decode cX2_meets 13 = .ok (.if_icmp .lt 7, 3) := by decide +kernel
theorem dX2_meets_16 : decode cX2_meets 16 = .ok (.iconst 1, 1) := by decide +kernel
theorem dX2_meets_17 : decode cX2_meets 17 = .ok (.goto 4, 3) := by decide +kernel
theorem dX2_meets_20 : decode cX2_meets 20 = .ok (.iconst 0, 1) := by decide +kernel
theorem dX2_meets_21 : decode cX2_meets 21 = .ok (.ireturn, 1) := by decide +kernel
set_option maxRecDepth 20000 in
theorem ggX2_takeSign_X2_beginNumber : GoodIn wsX2_takeSign wsX2_beginNumber := goodIn_r _ [7, 8, 9, 1, 10, 11, 12, 13, 14, 15, 16, 17] (by decide +kernel) (by decide +kernel)
set_option maxRecDepth 20000 in
theorem gX2_takeSign_X2_beginNumber : GoodIn wsX2_takeSign (wsV RX2 11 RX2 yX2_beginNumber wsX2_beginNumber) := goodIn_app (goodIn_of _ (by decide +kernel)) ggX2_takeSign_X2_beginNumber
theorem dX2_takeSign_0 : decode cX2_takeSign 0 = .ok (.iload_n 1, 1) := by decide +kernel
theorem dX2_takeSign_1 : decode cX2_takeSign 1 = .ok (.bipush 120, 2) := by decide +kernel
theorem dX2_takeSign_3 : decode cX2_takeSign 3 = .ok (.if_icmp .ne 21, 3) := by decide +kernel
theorem dX2_takeSign_6 : decode cX2_takeSign 6 = .ok (.aload_n 0, 1) := by decide +kernel
theorem dX2_takeSign_7 : decode cX2_takeSign 7 = .ok (.aload_n 0, 1) := by decide +kernel
theorem dX2_takeSign_8 : decode cX2_takeSign 8 = .ok (.getfield 23, 3) := by decide +kernel
theorem dX2_takeSign_11 : decode cX2_takeSign 11 = .ok (.putfield 53, 3) := by decide +kernel
theorem dX2_takeSign_14 : decode cX2_takeSign 14 = .ok (.aload_n 0, 1) := by decide +kernel
theorem dX2_takeSign_15 : decode cX2_takeSign 15 = .ok (.iconst 1, 1) := by decide +kernel
theorem dX2_takeSign_16 : decode cX2_takeSign 16 = .ok (.iconst 2, 1) := by decide +kernel
theorem dX2_takeSign_17 : decode cX2_takeSign 17 = .ok (.bipush 20, 2) := by decide +kernel
theorem dX2_takeSign_19 : decode cX2_takeSign 19 = .ok (.invokevirtual 11, 3) := by decide +kernel
theorem dX2_takeSign_22 : decode cX2_takeSign 22 = .ok (.iconst 1, 1) := by decide +kernel
theorem dX2_takeSign_23 : decode cX2_takeSign 23 = .ok (.ireturn, 1) := by decide +kernel
theorem dX2_takeSign_24 : decode cX2_takeSign 24 = .ok (.iload_n 1, 1) := by decide +kernel
theorem dX2_takeSign_25 : decode cX2_takeSign 25 = .ok (.bipush 45, 2) := by decide +kernel
theorem dX2_takeSign_27 : decode cX2_takeSign 27 = .ok (.if_icmp .ne 37, 3) := by decide +kernel
theorem dX2_takeSign_30 : decode cX2_takeSign 30 = .ok (.aload_n 0, 1) := by decide +kernel
theorem dX2_takeSign_31 : decode cX2_takeSign 31 = .ok (.getfield 23, 3) := by decide +kernel
theorem dX2_takeSign_34 : decode cX2_takeSign 34 = .ok (.sipush 999, 3) := by decide +kernel
theorem dX2_takeSign_37 : decode cX2_takeSign 37 = .ok (.if_icmp .ge 27, 3) := by decide +kernel
theorem dX2_takeSign_40 : decode cX2_takeSign 40 = .ok (.aload_n 0, 1) := by decide +kernel
theorem dX2_takeSign_41 : decode cX2_takeSign 41 = .ok (.aload_n 0, 1) := by decide +kernel
theorem dX2_takeSign_42 : decode cX2_takeSign 42 = .ok (.getfield 23, 3) := by decide +kernel
theorem dX2_takeSign_45 : decode cX2_takeSign 45 = .ok (.putfield 53, 3) := by decide +kernel
theorem dX2_takeSign_48 : decode cX2_takeSign 48 = .ok (.aload_n 0, 1) := by decide +kernel
theorem dX2_takeSign_49 : decode cX2_takeSign 49 = .ok (.iconst 2, 1) := by decide +kernel
theorem dX2_takeSign_50 : decode cX2_takeSign 50 = .ok (.aload_n 0, 1) := by decide +kernel
theorem dX2_takeSign_51 : decode cX2_takeSign 51 = .ok (.getfield 23, 3) := by decide +kernel
theorem dX2_takeSign_54 : decode cX2_takeSign 54 = .ok (.iconst 1, 1) := by decide +kernel
theorem dX2_takeSign_55 : decode cX2_takeSign 55 = .ok (.iadd, 1) := by decide +kernel
theorem dX2_takeSign_56 : decode cX2_takeSign 56 = .ok (.sipush 999, 3) := by decide +kernel
theorem dX2_takeSign_59 : decode cX2_takeSign 59 = .ok (.invokevirtual 11, 3) := by decide +kernel
theorem dX2_takeSign_62 : decode cX2_takeSign 62 = .ok (.iconst 1, 1) := by decide +kernel
theorem dX2_takeSign_63 : decode cX2_takeSign 63 = .ok (.ireturn, 1) := by decide +kernel
theorem dX2_takeSign_64 : decode cX2_takeSign 64 = .ok (.iconst 0, 1) := by decide +kernel
theorem dX2_takeSign_65 : decode cX2_takeSign 65 = .ok (.ireturn, 1) := by decide +kernel
set_option maxRecDepth 20000 in
theorem ggX2_isWhole_X2_meets : GoodIn wsX2_isWhole wsX2_meets := goodIn_r _ [7, 8, 9, 10, 11, 12, 13, 14, 15] (by decide +kernel) (by decide +kernel)
set_option maxRecDepth 20000 in
theorem gX2_isWhole_X2_meets : GoodIn wsX2_isWhole (wsV RX2 49 RX2 yX2_meets wsX2_meets) := goodIn_app (goodIn_of _ (by decide +kernel)) ggX2_isWhole_X2_meets
theorem dX2_isWhole_0 : decode cX2_isWhole 0 = .ok (.aload_n 0, 1) := by decide +kernel
theorem dX2_isWhole_1 : decode cX2_isWhole 1 = .ok (.getfield 19, 3) := by decide +kernel
theorem dX2_isWhole_4 : decode cX2_isWhole 4 = .ok (.ifCond .eq 22, 3) := by decide +kernel
theorem dX2_isWhole_7 : decode cX2_isWhole 7 = .ok (.aload_n 0, 1) := by decide +kernel
theorem dX2_isWhole_8 : decode cX2_isWhole 8 = .ok (.aload_n 0, 1) := by decide +kernel
theorem dX2_isWhole_9 : decode cX2_isWhole 9 = .ok (.getfield 23, 3) := by decide +kernel
theorem dX2_isWhole_12 : decode cX2_isWhole 12 = .ok (.aload_n 0, 1) := by decide +kernel
theorem dX2_isWhole_13 : decode cX2_isWhole 13 = .ok (.getfield 23, 3) := by decide +kernel
theorem dX2_isWhole_16 : decode cX2_isWhole 16 = .ok (.invokevirtual 49, 3) := by decide +kernel
theorem dX2_isWhole_19 : decode cX2_isWhole 19 = .ok (.ifCond .eq 7, 3) := by decide +kernel
theorem dX2_isWhole_22 : decode cX2_isWhole 22 = .ok (.iconst 1, 1) := by decide +kernel
theorem dX2_isWhole_23 : decode cX2_isWhole 23 = .ok (.goto 4, 3) := by decide +kernel
theorem dX2_isWhole_26 : decode cX2_isWhole 26 = .ok (.iconst 0, 1) := by decide +kernel
theorem dX2_isWhole_27 : decode cX2_isWhole 27 = .ok (.ireturn, 1) := by decide +kernel
theorem dX2_rowsOfItem_0 : decode cX2_rowsOfItem 0 = .ok (.aload_n 0, 1) := by decide +kernel
theorem dX2_rowsOfItem_1 : decode cX2_rowsOfItem 1 = .ok (.getfield 15, 3) := by decide +kernel
theorem dX2_rowsOfItem_4 : decode cX2_rowsOfItem 4 = .ok (.lookupswitch 45 #[(1, 28), (2, 33)], 28) := by decide +kernel
theorem dX2_rowsOfItem_32 : decode cX2_rowsOfItem 32 = .ok (.aload_n 0, 1) := by decide +kernel
theorem dX2_rowsOfItem_33 : decode cX2_rowsOfItem 33 = .ok (.getfield 23, 3) := by decide +kernel
theorem dX2_rowsOfItem_36 : decode cX2_rowsOfItem 36 = .ok (.ireturn, 1) := by decide +kernel
theorem dX2_rowsOfItem_37 : decode cX2_rowsOfItem 37 = .ok (.aload_n 0, 1) := by decide +kernel
theorem dX2_rowsOfItem_38 : decode cX2_rowsOfItem 38 = .ok (.getfield 23, 3) := by decide +kernel
theorem dX2_rowsOfItem_41 : decode cX2_rowsOfItem 41 = .ok (.aload_n 0, 1) := by decide +kernel
theorem dX2_rowsOfItem_42 : decode cX2_rowsOfItem 42 = .ok (.getfield 53, 3) := by decide +kernel
theorem dX2_rowsOfItem_45 : decode cX2_rowsOfItem 45 = .ok (.isub, 1) := by decide +kernel
theorem dX2_rowsOfItem_46 : decode cX2_rowsOfItem 46 = .ok (.iconst 1, 1) := by decide +kernel
theorem dX2_rowsOfItem_47 : decode cX2_rowsOfItem 47 = .ok (.iadd, 1) := by decide +kernel
theorem dX2_rowsOfItem_48 : decode cX2_rowsOfItem 48 = .ok (.ireturn, 1) := by decide +kernel
theorem dX2_rowsOfItem_49 : decode cX2_rowsOfItem 49 = .ok (.iconst 1, 1) := by decide +kernel
theorem dX2_rowsOfItem_50 : decode cX2_rowsOfItem 50 = .ok (.ireturn, 1) := by decide +kernel
theorem dX2_keyOfItem_0 : decode cX2_keyOfItem 0 = .ok (.aload_n 0, 1) := by decide +kernel
theorem dX2_keyOfItem_1 : decode cX2_keyOfItem 1 = .ok (.getfield 15, 3) := by decide +kernel
theorem dX2_keyOfItem_4 : decode cX2_keyOfItem 4 = .ok (.lookupswitch 40 #[(1, 28), (2, 33)], 28) := by decide +kernel
theorem dX2_keyOfItem_32 : decode cX2_keyOfItem 32 = .ok (.aload_n 0, 1) := by decide +kernel
theorem dX2_keyOfItem_33 : decode cX2_keyOfItem 33 = .ok (.getfield 53, 3) := by decide +kernel
theorem dX2_keyOfItem_36 : decode cX2_keyOfItem 36 = .ok (.ireturn, 1) := by decide +kernel
theorem dX2_keyOfItem_37 : decode cX2_keyOfItem 37 = .ok (.aload_n 0, 1) := by decide +kernel
theorem dX2_keyOfItem_38 : decode cX2_keyOfItem 38 = .ok (.getfield 53, 3) := by decide +kernel
theorem dX2_keyOfItem_41 : decode cX2_keyOfItem 41 = .ok (.iload_n 1, 1) := by decide +kernel
theorem dX2_keyOfItem_42 : decode cX2_keyOfItem 42 = .ok (.iadd, 1) := by decide +kernel
theorem dX2_keyOfItem_43 : decode cX2_keyOfItem 43 = .ok (.ireturn, 1) := by decide +kernel
theorem dX2_keyOfItem_44 : decode cX2_keyOfItem 44 = .ok (.aload_n 0, 1) := by decide +kernel
theorem dX2_keyOfItem_45 : decode cX2_keyOfItem 45 = .ok (.getfield 23, 3) := by decide +kernel
theorem dX2_keyOfItem_48 : decode cX2_keyOfItem 48 = .ok (.ireturn, 1) := by decide +kernel
theorem dX3_init_0 : decode cX3_init 0 = .ok (.aload_n 0, 1) := by decide +kernel
theorem dX3_init_1 : decode cX3_init 1 = .ok (.invokespecial 3, 3) := by decide +kernel
theorem dX3_init_4 : decode cX3_init 4 = .ok (.aload_n 0, 1) := by decide +kernel
theorem dX3_init_5 : decode cX3_init 5 = .ok (.bipush 120, 2) := by decide +kernel
theorem dX3_init_7 : decode cX3_init 7 = .ok (.newarray .int, 2) := by decide +kernel
theorem dX3_init_9 : decode cX3_init 9 = .ok (.putfield 9, 3) := by decide +kernel
theorem dX3_init_12 : decode cX3_init 12 = .ok (.aload_n 0, 1) := by decide +kernel
theorem dX3_init_13 : decode cX3_init 13 = .ok (.bipush 120, 2) := by decide +kernel
theorem dX3_init_15 : decode cX3_init 15 = .ok (.newarray .int, 2) := by decide +kernel
theorem dX3_init_17 : decode cX3_init 17 = .ok (.putfield 15, 3) := by decide +kernel
theorem dX3_init_20 : decode cX3_init 20 = .ok (.aload_n 0, 1) := by decide +kernel
theorem dX3_init_21 : decode cX3_init 21 = .ok (.bipush 120, 2) := by decide +kernel
theorem dX3_init_23 : decode cX3_init 23 = .ok (.newarray .int, 2) := by decide +kernel
theorem dX3_init_25 : decode cX3_init 25 = .ok (.putfield 18, 3) := by decide +kernel
theorem dX3_init_28 : decode cX3_init 28 = .ok (.return_, 1) := by decide +kernel
theorem dX3_copyFrom_0 : decode cX3_copyFrom 0 = .ok (.aload_n 1, 1) := by decide +kernel
theorem dX3_copyFrom_1 : decode cX3_copyFrom 1 = .ok (.getfield 9, 3) := by decide +kernel
theorem dX3_copyFrom_4 : decode cX3_copyFrom 4 = .ok (.iconst 0, 1) := by decide +kernel
theorem dX3_copyFrom_5 : decode cX3_copyFrom 5 = .ok (.aload_n 0, 1) := by decide +kernel
theorem dX3_copyFrom_6 : decode cX3_copyFrom 6 = .ok (.getfield 9, 3) := by decide +kernel
theorem dX3_copyFrom_9 : decode cX3_copyFrom 9 = .ok (.iconst 0, 1) := by decide +kernel
theorem dX3_copyFrom_10 : decode cX3_copyFrom 10 = .ok (.bipush 120, 2) := by decide +kernel
theorem dX3_copyFrom_12 : decode cX3_copyFrom 12 = .ok (.invokestatic 21, 3) := by decide +kernel
theorem dX3_copyFrom_15 : decode cX3_copyFrom 15 = .ok (.aload_n 1, 1) := by decide +kernel
theorem dX3_copyFrom_16 : decode cX3_copyFrom 16 = .ok (.getfield 15, 3) := by decide +kernel
theorem dX3_copyFrom_19 : decode cX3_copyFrom 19 = .ok (.iconst 0, 1) := by decide +kernel
theorem dX3_copyFrom_20 : decode cX3_copyFrom 20 = .ok (.aload_n 0, 1) := by decide +kernel
theorem dX3_copyFrom_21 : decode cX3_copyFrom 21 = .ok (.getfield 15, 3) := by decide +kernel
theorem dX3_copyFrom_24 : decode cX3_copyFrom 24 = .ok (.iconst 0, 1) := by decide +kernel
theorem dX3_copyFrom_25 : decode cX3_copyFrom 25 = .ok (.bipush 120, 2) := by decide +kernel
theorem dX3_copyFrom_27 : decode cX3_copyFrom 27 = .ok (.invokestatic 21, 3) := by decide +kernel
theorem dX3_copyFrom_30 : decode cX3_copyFrom 30 = .ok (.aload_n 1, 1) := by decide +kernel
theorem dX3_copyFrom_31 : decode cX3_copyFrom 31 = .ok (.getfield 18, 3) := by decide +kernel
theorem dX3_copyFrom_34 : decode cX3_copyFrom 34 = .ok (.iconst 0, 1) := by decide +kernel
theorem dX3_copyFrom_35 : decode cX3_copyFrom 35 = .ok (.aload_n 0, 1) := by decide +kernel
theorem dX3_copyFrom_36 : decode cX3_copyFrom 36 = .ok (.getfield 18, 3) := by decide +kernel
theorem dX3_copyFrom_39 : decode cX3_copyFrom 39 = .ok (.iconst 0, 1) := by decide +kernel
theorem dX3_copyFrom_40 : decode cX3_copyFrom 40 = .ok (.bipush 120, 2) := by decide +kernel
theorem dX3_copyFrom_42 : decode cX3_copyFrom 42 = .ok (.invokestatic 21, 3) := by decide +kernel
theorem dX3_copyFrom_45 : decode cX3_copyFrom 45 = .ok (.aload_n 0, 1) := by decide +kernel
theorem dX3_copyFrom_46 : decode cX3_copyFrom 46 = .ok (.aload_n 1, 1) := by decide +kernel
theorem dX3_copyFrom_47 : decode cX3_copyFrom 47 = .ok (.getfield 27, 3) := by decide +kernel
theorem dX3_copyFrom_50 : decode cX3_copyFrom 50 = .ok (.putfield 27, 3) := by decide +kernel
theorem dX3_copyFrom_53 : decode cX3_copyFrom 53 = .ok (.return_, 1) := by decide +kernel
theorem dX3_has_0 : decode cX3_has 0 = .ok (.iload_n 1, 1) := by decide +kernel
theorem dX3_has_1 : decode cX3_has 1 = .ok (.ifCond .lt 15, 3) := by decide +kernel
theorem dX3_has_4 : decode cX3_has 4 = .ok (.iload_n 1, 1) := by decide +kernel
theorem dX3_has_5 : decode cX3_has 5 = .ok (.aload_n 0, 1) := by decide +kernel
theorem dX3_has_6 : decode cX3_has 6 = .ok (.getfield 27, 3) := by decide +kernel
theorem dX3_has_9 : decode cX3_has 9 = .ok (.if_icmp .ge 7, 3) := by decide +kernel
theorem dX3_has_12 : decode cX3_has 12 = .ok (.iconst 1, 1) := by decide +kernel
theorem dX3_has_13 : decode cX3_has 13 = .ok (.goto 4, 3) := by decide +kernel
theorem dX3_has_16 : decode cX3_has 16 = .ok (.iconst 0, 1) := by decide +kernel
theorem dX3_has_17 : decode cX3_has 17 = .ok (.ireturn, 1) := by decide +kernel
theorem dX3_hasRoom_0 : decode cX3_hasRoom 0 = .ok (.aload_n 0, 1) := by decide +kernel
theorem dX3_hasRoom_1 : decode cX3_hasRoom 1 = .ok (.getfield 27, 3) := by decide +kernel
theorem dX3_hasRoom_4 : decode cX3_hasRoom 4 = .ok (.ifCond .lt 16, 3) := by decide +kernel
theorem dX3_hasRoom_7 : decode cX3_hasRoom 7 = .ok (.aload_n 0, 1) := by decide +kernel
theorem dX3_hasRoom_8 : decode cX3_hasRoom 8 = .ok (.getfield 27, 3) := by decide +kernel
theorem dX3_hasRoom_11 : decode cX3_hasRoom 11 = .ok (.bipush 120, 2) := by decide +kernel
theorem dX3_hasRoom_13 : decode cX3_hasRoom 13 = .ok (.if_icmp .ge 7, 3) := by decide +kernel
theorem dX3_hasRoom_16 : decode cX3_hasRoom 16 = .ok (.iconst 1, 1) := by decide +kernel
theorem dX3_hasRoom_17 : decode cX3_hasRoom 17 = .ok (.goto 4, 3) := by decide +kernel
theorem dX3_hasRoom_20 : decode cX3_hasRoom 20 = .ok (.iconst 0, 1) := by decide +kernel
theorem dX3_hasRoom_21 : decode cX3_hasRoom 21 = .ok (.ireturn, 1) := by decide +kernel
set_option maxRecDepth 20000 in
theorem ggX3_put_X3_hasRoom : GoodIn wsX3_put wsX3_hasRoom := goodIn_r _ [9, 1, 10, 11, 12, 13] (by decide +kernel) (by decide +kernel)
set_option maxRecDepth 20000 in
theorem gX3_put_X3_hasRoom : GoodIn wsX3_put (wsV RX3 31 RX3 yX3_hasRoom wsX3_hasRoom) := goodIn_app (goodIn_of _ (by decide +kernel)) ggX3_put_X3_hasRoom
theorem dX3_put_0 : decode cX3_put 0 = .ok (.aload_n 0, 1) := by decide +kernel
theorem dX3_put_1 : decode cX3_put 1 = .ok (.invokevirtual 31, 3) := by decide +kernel
theorem dX3_put_4 : decode cX3_put 4 = .ok (.ifCond .ne 5, 3) := by decide +kernel
theorem dX3_put_7 : decode cX3_put 7 = .ok (.iconst (-1), 1) := by decide +kernel
theorem dX3_put_8 : decode cX3_put 8 = .ok (.ireturn, 1) := by decide +kernel
theorem dX3_put_9 : decode cX3_put 9 = .ok (.aload_n 0, 1) := by decide +kernel
theorem dX3_put_10 : decode cX3_put 10 = .ok (.getfield 27, 3) := by decide +kernel
theorem dX3_put_13 : decode cX3_put 13 = .ok (.istore_n 2, 1) := by decide +kernel
theorem dX3_put_14 : decode cX3_put 14 = .ok (.aload_n 0, 1) := by decide +kernel
theorem dX3_put_15 : decode cX3_put 15 = .ok (.getfield 9, 3) := by decide +kernel
theorem dX3_put_18 : decode cX3_put 18 = .ok (.iload_n 2, 1) := by decide +kernel
theorem dX3_put_19 : decode cX3_put 19 = .ok (.iload_n 1, 1) := by decide +kernel
theorem dX3_put_20 : decode cX3_put 20 = .ok (.iastore, 1) := by decide +kernel
theorem dX3_put_21 : decode cX3_put 21 = .ok (.aload_n 0, 1) := by decide +kernel
theorem dX3_put_22 : decode cX3_put 22 = .ok (.getfield 15, 3) := by decide +kernel
theorem dX3_put_25 : decode cX3_put 25 = .ok (.iload_n 2, 1) := by decide +kernel
theorem dX3_put_26 : decode cX3_put 26 = .ok (.iconst 1, 1) := by decide +kernel
theorem dX3_put_27 : decode cX3_put 27 = .ok (.iastore, 1) := by decide +kernel
theorem dX3_put_28 : decode cX3_put 28 = .ok (.aload_n 0, 1) := by decide +kernel
theorem dX3_put_29 : decode cX3_put 29 = .ok (.getfield 18, 3) := by decide +kernel
theorem dX3_put_32 : decode cX3_put 32 = .ok (.iload_n 2, 1) := by decide +kernel
theorem dX3_put_33 : decode cX3_put 33 = .ok (.iconst (-1), 1) := by decide +kernel
theorem dX3_put_34 : decode cX3_put 34 = .ok (.iastore, 1) := by decide +kernel
theorem dX3_put_35 : decode cX3_put 35 = .ok (.aload_n 0, 1) := by decide +kernel
theorem dX3_put_36 : decode cX3_put 36 = .ok (.dup, 1) := by decide +kernel
theorem dX3_put_37 : decode cX3_put 37 = .ok (.getfield 27, 3) := by decide +kernel
theorem dX3_put_40 : decode cX3_put 40 = .ok (.iconst 1, 1) := by decide +kernel
theorem dX3_put_41 : decode cX3_put 41 = .ok (.iadd, 1) := by decide +kernel
theorem dX3_put_42 : decode cX3_put 42 = .ok (.putfield 27, 3) := by decide +kernel
theorem dX3_put_45 : decode cX3_put 45 = .ok (.iload_n 2, 1) := by decide +kernel
theorem dX3_put_46 : decode cX3_put 46 = .ok (.ireturn, 1) := by decide +kernel
theorem dX3_keyOf_0 : decode cX3_keyOf 0 = .ok (.iload_n 1, 1) := by decide +kernel
theorem dX3_keyOf_1 : decode cX3_keyOf 1 = .ok (.ifCond .lt 18, 3) := by decide +kernel
theorem dX3_keyOf_4 : decode cX3_keyOf 4 = .ok (.iload_n 1, 1) := by decide +kernel
theorem dX3_keyOf_5 : decode cX3_keyOf 5 = .ok (.bipush 120, 2) := by decide +kernel
theorem dX3_keyOf_7 : decode cX3_keyOf 7 = .ok (.if_icmp .ge 12, 3) := by decide +kernel
theorem dX3_keyOf_10 : decode cX3_keyOf 10 = .ok (.aload_n 0, 1) := by decide +kernel
theorem dX3_keyOf_11 : decode cX3_keyOf 11 = .ok (.getfield 9, 3) := by decide +kernel
theorem dX3_keyOf_14 : decode cX3_keyOf 14 = .ok (.iload_n 1, 1) := by decide +kernel
theorem dX3_keyOf_15 : decode cX3_keyOf 15 = .ok (.iaload, 1) := by decide +kernel
theorem dX3_keyOf_16 : decode cX3_keyOf 16 = .ok (.goto 4, 3) := by decide +kernel
theorem dX3_keyOf_19 : decode cX3_keyOf 19 = .ok (.iconst (-1), 1) := by decide +kernel
theorem dX3_keyOf_20 : decode cX3_keyOf 20 = .ok (.ireturn, 1) := by decide +kernel
theorem dX3_countOf_0 : decode cX3_countOf 0 = .ok (.iload_n 1, 1) := by decide +kernel
theorem dX3_countOf_1 : decode cX3_countOf 1 = .ok (.ifCond .lt 18, 3) := by decide +kernel
theorem dX3_countOf_4 : decode cX3_countOf 4 = .ok (.iload_n 1, 1) := by decide +kernel
theorem dX3_countOf_5 : decode cX3_countOf 5 = .ok (.bipush 120, 2) := by decide +kernel
theorem dX3_countOf_7 : decode cX3_countOf 7 = .ok (.if_icmp .ge 12, 3) := by decide +kernel
theorem dX3_countOf_10 : decode cX3_countOf 10 = .ok (.aload_n 0, 1) := by decide +kernel
theorem dX3_countOf_11 : decode cX3_countOf 11 = .ok (.getfield 15, 3) := by decide +kernel
theorem dX3_countOf_14 : decode cX3_countOf 14 = .ok (.iload_n 1, 1) := by decide +kernel
theorem dX3_countOf_15 : decode cX3_countOf 15 = .ok (.iaload, 1) := by decide +kernel
theorem dX3_countOf_16 : decode cX3_countOf 16 = .ok (.goto 4, 3) := by decide +kernel
theorem dX3_countOf_19 : decode cX3_countOf 19 = .ok (.iconst 0, 1) := by decide +kernel
theorem dX3_countOf_20 : decode cX3_countOf 20 = .ok (.ireturn, 1) := by decide +kernel
theorem dX3_nextOf_0 : decode cX3_nextOf 0 = .ok (.iload_n 1, 1) := by decide +kernel
theorem dX3_nextOf_1 : decode cX3_nextOf 1 = .ok (.ifCond .lt 18, 3) := by decide +kernel
theorem dX3_nextOf_4 : decode cX3_nextOf 4 = .ok (.iload_n 1, 1) := by decide +kernel
theorem dX3_nextOf_5 : decode cX3_nextOf 5 = .ok (.bipush 120, 2) := by decide +kernel
theorem dX3_nextOf_7 : decode cX3_nextOf 7 = .ok (.if_icmp .ge 12, 3) := by decide +kernel
theorem dX3_nextOf_10 : decode cX3_nextOf 10 = .ok (.aload_n 0, 1) := by decide +kernel
theorem dX3_nextOf_11 : decode cX3_nextOf 11 = .ok (.getfield 18, 3) := by decide +kernel
theorem dX3_nextOf_14 : decode cX3_nextOf 14 = .ok (.iload_n 1, 1) := by decide +kernel
theorem dX3_nextOf_15 : decode cX3_nextOf 15 = .ok (.iaload, 1) := by decide +kernel
theorem dX3_nextOf_16 : decode cX3_nextOf 16 = .ok (.goto 4, 3) := by decide +kernel
theorem dX3_nextOf_19 : decode cX3_nextOf 19 = .ok (.iconst (-1), 1) := by decide +kernel
theorem dX3_nextOf_20 : decode cX3_nextOf 20 = .ok (.ireturn, 1) := by decide +kernel
theorem dX3_link_0 : decode cX3_link 0 = .ok (.iload_n 1, 1) := by decide +kernel
theorem dX3_link_1 : decode cX3_link 1 = .ok (.ifCond .lt 16, 3) := by decide +kernel
theorem dX3_link_4 : decode cX3_link 4 = .ok (.iload_n 1, 1) := by decide +kernel
theorem dX3_link_5 : decode cX3_link 5 = .ok (.bipush 120, 2) := by decide +kernel
theorem dX3_link_7 : decode cX3_link 7 = .ok (.if_icmp .ge 10, 3) := by decide +kernel
theorem dX3_link_10 : decode cX3_link 10 = .ok (.aload_n 0, 1) := by decide +kernel
theorem dX3_link_11 : decode cX3_link 11 = .ok (.getfield 18, 3) := by decide +kernel
theorem dX3_link_14 : decode cX3_link 14 = .ok (.iload_n 1, 1) := by decide +kernel
theorem dX3_link_15 : decode cX3_link 15 = .ok (.iload_n 2, 1) := by decide +kernel
theorem dX3_link_16 : decode cX3_link 16 = .ok (.iastore, 1) := by decide +kernel
theorem dX3_link_17 : decode cX3_link 17 = .ok (.return_, 1) := by decide +kernel
set_option maxRecDepth 20000 in
theorem ggX3_rowBehind_X3_nextOf : GoodIn wsX3_rowBehind wsX3_nextOf := goodIn_r _ [5, 6, 7, 8, 9, 10] (by decide +kernel) (by decide +kernel)
set_option maxRecDepth 20000 in
theorem gX3_rowBehind_X3_nextOf : GoodIn wsX3_rowBehind (wsV RX3 35 RX3 yX3_nextOf wsX3_nextOf) := goodIn_app (goodIn_of _ (by decide +kernel)) ggX3_rowBehind_X3_nextOf
theorem dX3_rowBehind_0 : decode cX3_rowBehind 0 = .ok (.iload_n 1, 1) := by decide +kernel
theorem dX3_rowBehind_1 : decode cX3_rowBehind 1 = .ok (.istore_n 3, 1) := by decide +kernel
theorem dX3_rowBehind_2 : decode cX3_rowBehind 2 = .ok (.iconst 0, 1) := by decide +kernel
theorem dX3_rowBehind_3 : decode cX3_rowBehind 3 = .ok (.istore 4, 2) := by decide +kernel
theorem dX3_rowBehind_5 : decode cX3_rowBehind 5 = .ok (.iload 4, 2) := by decide +kernel
theorem dX3_rowBehind_7 : decode cX3_rowBehind 7 = .ok (.iload_n 2, 1) := by decide +kernel
theorem dX3_rowBehind_8 : decode cX3_rowBehind 8 = .ok (.if_icmp .ge 15, 3) := by decide +kernel
theorem dX3_rowBehind_11 : decode cX3_rowBehind 11 = .ok (.aload_n 0, 1) := by decide +kernel
theorem dX3_rowBehind_12 : decode cX3_rowBehind 12 = .ok (.iload_n 3, 1) := by decide +kernel
theorem dX3_rowBehind_13 : decode cX3_rowBehind 13 = .ok (.invokevirtual 35, 3) := by decide +kernel
theorem dX3_rowBehind_16 : decode cX3_rowBehind 16 = .ok (.istore_n 3, 1) := by decide +kernel
theorem dX3_rowBehind_17 : decode cX3_rowBehind 17 = .ok (.iinc 4 1, 3) := by decide +kernel
theorem dX3_rowBehind_20 : decode cX3_rowBehind 20 = .ok (.goto (-15), 3) := by decide +kernel
theorem dX3_rowBehind_23 : decode cX3_rowBehind 23 = .ok (.iload_n 3, 1) := by decide +kernel
theorem dX3_rowBehind_24 : decode cX3_rowBehind 24 = .ok (.ireturn, 1) := by decide +kernel
theorem dX3_comesBefore_0 : decode cX3_comesBefore 0 = .ok (.iload_n 1, 1) := by decide +kernel
theorem dX3_comesBefore_1 : decode cX3_comesBefore 1 = .ok (.ifCond .lt 19, 3) := by decide +kernel
theorem dX3_comesBefore_4 : decode cX3_comesBefore 4 = .ok (.iload_n 1, 1) := by decide +kernel
theorem dX3_comesBefore_5 : decode cX3_comesBefore 5 = .ok (.bipush 120, 2) := by decide +kernel
theorem dX3_comesBefore_7 : decode cX3_comesBefore 7 = .ok (.if_icmp .ge 13, 3) := by decide +kernel
theorem dX3_comesBefore_10 : decode cX3_comesBefore 10 = .ok (.iload_n 2, 1) := by decide +kernel
theorem dX3_comesBefore_11 : decode cX3_comesBefore 11 = .ok (.ifCond .lt 9, 3) := by decide +kernel
theorem dX3_comesBefore_14 : decode cX3_comesBefore 14 = .ok (.iload_n 2, 1) := by decide +kernel
theorem dX3_comesBefore_15 : decode cX3_comesBefore 15 = .ok (.bipush 120, 2) := by decide +kernel
theorem dX3_comesBefore_17 : decode cX3_comesBefore 17 = .ok (.if_icmp .lt 5, 3) := by decide +kernel
theorem dX3_comesBefore_20 : decode cX3_comesBefore 20 = .ok (.iconst 0, 1) := by decide +kernel
theorem dX3_comesBefore_21 : decode cX3_comesBefore 21 = .ok (.ireturn, 1) := by decide +kernel
theorem dX3_comesBefore_22 : decode cX3_comesBefore 22 = .ok (.aload_n 0, 1) := by decide +kernel
theorem dX3_comesBefore_23 : decode cX3_comesBefore 23 = .ok (.getfield 9, 3) := by decide +kernel
theorem dX3_comesBefore_26 : decode cX3_comesBefore 26 = .ok (.iload_n 1, 1) := by decide +kernel
theorem dX3_comesBefore_27 : decode cX3_comesBefore 27 = .ok (.iaload, 1) := by decide +kernel
theorem dX3_comesBefore_28 : decode cX3_comesBefore 28 = .ok (.aload_n 0, 1) := by decide +kernel
theorem dX3_comesBefore_29 : decode cX3_comesBefore 29 = .ok (.getfield 9, 3) := by decide +kernel
theorem dX3_comesBefore_32 : decode cX3_comesBefore 32 = .ok (.iload_n 2, 1) := by decide +kernel
theorem dX3_comesBefore_33 : decode cX3_comesBefore 33 = .ok (.iaload, 1) := by decide +kernel
theorem dX3_comesBefore_34 : decode cX3_comesBefore 34 = .ok (.if_icmp .lt 23, 3) := by decide +kernel
theorem dX3_comesBefore_37 : decode cX3_comesBefore 37 = .ok (.aload_n 0, 1) := by decide +kernel
theorem dX3_comesBefore_38 : decode cX3_comesBefore 38 = .ok (.getfield 9, 3) := by decide +kernel
theorem dX3_comesBefore_41 : decode cX3_comesBefore 41 = .ok (.iload_n 1, 1) := by decide +kernel
theorem dX3_comesBefore_42 : decode cX3_comesBefore 42 = .ok (.iaload, 1) := by decide +kernel
theorem dX3_comesBefore_43 : decode cX3_comesBefore 43 = .ok (.aload_n 0, 1) := by decide +kernel
theorem dX3_comesBefore_44 : decode cX3_comesBefore 44 = .ok (.getfield 9, 3) := by decide +kernel
theorem dX3_comesBefore_47 : decode cX3_comesBefore 47 = .ok (.iload_n 2, 1) := by decide +kernel
theorem dX3_comesBefore_48 : decode cX3_comesBefore 48 = .ok (.iaload, 1) := by decide +kernel
theorem dX3_comesBefore_49 : decode cX3_comesBefore 49 = .ok (.if_icmp .ne 12, 3) := by decide +kernel
theorem dX3_comesBefore_52 : decode cX3_comesBefore 52 = .ok (.iload_n 1, 1) := by decide +kernel
theorem dX3_comesBefore_53 : decode cX3_comesBefore 53 = .ok (.iload_n 2, 1) := by decide +kernel
theorem dX3_comesBefore_54 : decode cX3_comesBefore 54 = .ok (.if_icmp .ge 7, 3) := by decide +kernel
theorem dX3_comesBefore_57 : decode cX3_comesBefore 57 = .ok (.iconst 1, 1) := by decide +kernel
theorem dX3_comesBefore_58 : decode cX3_comesBefore 58 = .ok (.goto 4, 3) := by decide +kernel
theorem dX3_comesBefore_61 : decode cX3_comesBefore 61 = .ok (.iconst 0, 1) := by decide +kernel
theorem dX3_comesBefore_62 : decode cX3_comesBefore 62 = .ok (.ireturn, 1) := by decide +kernel
theorem dX3_absorb_0 : decode cX3_absorb 0 = .ok (.iload_n 1, 1) := by decide +kernel
theorem dX3_absorb_1 : decode cX3_absorb 1 = .ok (.ifCond .lt 41, 3) := by decide +kernel
theorem dX3_absorb_4 : decode cX3_absorb 4 = .ok (.iload_n 1, 1) := by decide +kernel
theorem dX3_absorb_5 : decode cX3_absorb 5 = .ok (.bipush 120, 2) := by decide +kernel
theorem dX3_absorb_7 : decode cX3_absorb 7 = .ok (.if_icmp .ge 35, 3) := by decide +kernel
theorem dX3_absorb_10 : decode cX3_absorb 10 = .ok (.iload_n 2, 1) := by decide +kernel
theorem dX3_absorb_11 : decode cX3_absorb 11 = .ok (.ifCond .lt 31, 3) := by decide +kernel
theorem dX3_absorb_14 : decode cX3_absorb 14 = .ok (.iload_n 2, 1) := by decide +kernel
theorem dX3_absorb_15 : decode cX3_absorb 15 = .ok (.bipush 120, 2) := by decide +kernel
theorem dX3_absorb_17 : decode cX3_absorb 17 = .ok (.if_icmp .ge 25, 3) := by decide +kernel
theorem dX3_absorb_20 : decode cX3_absorb 20 = .ok (.aload_n 0, 1) := by decide +kernel
theorem dX3_absorb_21 : decode cX3_absorb 21 = .ok (.getfield 15, 3) := by decide +kernel
theorem dX3_absorb_24 : decode cX3_absorb 24 = .ok (.iload_n 1, 1) := by decide +kernel
theorem dX3_absorb_25 : decode cX3_absorb 25 = .ok (.dup2, 1) := by decide +kernel
theorem dX3_absorb_26 : decode cX3_absorb 26 = .ok (.iaload, 1) := by decide +kernel
theorem dX3_absorb_27 : decode cX3_absorb 27 = .ok (.aload_n 0, 1) := by decide +kernel
theorem dX3_absorb_28 : decode cX3_absorb 28 = .ok (.getfield 15, 3) := by decide +kernel
theorem dX3_absorb_31 : decode cX3_absorb 31 = .ok (.iload_n 2, 1) := by decide +kernel
theorem dX3_absorb_32 : decode cX3_absorb 32 = .ok (.iaload, 1) := by decide +kernel
theorem dX3_absorb_33 : decode cX3_absorb 33 = .ok (.iadd, 1) := by decide +kernel
theorem dX3_absorb_34 : decode cX3_absorb 34 = .ok (.iastore, 1) := by decide +kernel
theorem dX3_absorb_35 : decode cX3_absorb 35 = .ok (.aload_n 0, 1) := by decide +kernel
theorem dX3_absorb_36 : decode cX3_absorb 36 = .ok (.getfield 15, 3) := by decide +kernel
theorem dX3_absorb_39 : decode cX3_absorb 39 = .ok (.iload_n 2, 1) := by decide +kernel
theorem dX3_absorb_40 : decode cX3_absorb 40 = .ok (.iconst 0, 1) := by decide +kernel
theorem dX3_absorb_41 : decode cX3_absorb 41 = .ok (.iastore, 1) := by decide +kernel
theorem dX3_absorb_42 : decode cX3_absorb 42 = .ok (.return_, 1) := by decide +kernel
set_option maxRecDepth 20000 in
theorem ggX3_rowsKept_X3_countOf : GoodIn wsX3_rowsKept wsX3_countOf := goodIn_r _ [6, 7, 8, 9, 10, 11] (by decide +kernel) (by decide +kernel)
set_option maxRecDepth 20000 in
theorem gX3_rowsKept_X3_countOf : GoodIn wsX3_rowsKept (wsV RX3 39 RX3 yX3_countOf wsX3_countOf) := goodIn_app (goodIn_of _ (by decide +kernel)) ggX3_rowsKept_X3_countOf
theorem dX3_rowsKept_0 : decode cX3_rowsKept 0 = .ok (.iconst 0, 1) := by decide +kernel
theorem dX3_rowsKept_1 : decode cX3_rowsKept 1 = .ok (.istore_n 1, 1) := by decide +kernel
theorem dX3_rowsKept_2 : decode cX3_rowsKept 2 = .ok (.iconst 0, 1) := by decide +kernel
theorem dX3_rowsKept_3 : decode cX3_rowsKept 3 = .ok (.istore_n 2, 1) := by decide +kernel
theorem dX3_rowsKept_4 : decode cX3_rowsKept 4 = .ok (.iload_n 2, 1) := by decide +kernel
theorem dX3_rowsKept_5 : decode cX3_rowsKept 5 = .ok (.aload_n 0, 1) := by decide +kernel
theorem dX3_rowsKept_6 : decode cX3_rowsKept 6 = .ok (.getfield 27, 3) := by decide +kernel
theorem dX3_rowsKept_9 : decode cX3_rowsKept 9 = .ok (.if_icmp .ge 20, 3) := by decide +kernel
theorem dX3_rowsKept_12 : decode cX3_rowsKept 12 = .ok (.aload_n 0, 1) := by decide +kernel
theorem dX3_rowsKept_13 : decode cX3_rowsKept 13 = .ok (.iload_n 2, 1) := by decide +kernel
theorem dX3_rowsKept_14 : decode cX3_rowsKept 14 = .ok (.invokevirtual 39, 3) := by decide +kernel
theorem dX3_rowsKept_17 : decode cX3_rowsKept 17 = .ok (.ifCond .le 6, 3) := by decide +kernel
theorem dX3_rowsKept_20 : decode cX3_rowsKept 20 = .ok (.iinc 1 1, 3) := by decide +kernel
theorem dX3_rowsKept_23 : decode cX3_rowsKept 23 = .ok (.iinc 2 1, 3) := by decide +kernel
theorem dX3_rowsKept_26 : decode cX3_rowsKept 26 = .ok (.goto (-22), 3) := by decide +kernel
theorem dX3_rowsKept_29 : decode cX3_rowsKept 29 = .ok (.iload_n 1, 1) := by decide +kernel
theorem dX3_rowsKept_30 : decode cX3_rowsKept 30 = .ok (.ireturn, 1) := by decide +kernel
set_option maxRecDepth 20000 in
theorem ggX3_countsBelow_X3_keyOf : GoodIn wsX3_countsBelow wsX3_keyOf := goodIn_r _ [6, 7, 13, 14, 15, 16] (by decide +kernel) (by decide +kernel)
set_option maxRecDepth 20000 in
theorem gX3_countsBelow_X3_keyOf : GoodIn wsX3_countsBelow (wsV RX3 42 RX3 yX3_keyOf wsX3_keyOf) := goodIn_app (goodIn_of _ (by decide +kernel)) ggX3_countsBelow_X3_keyOf
set_option maxRecDepth 20000 in
theorem ggX3_countsBelow_X3_countOf : GoodIn wsX3_countsBelow wsX3_countOf := goodIn_r _ [11, 12, 13, 14, 15, 16] (by decide +kernel) (by decide +kernel)
set_option maxRecDepth 20000 in
theorem gX3_countsBelow_X3_countOf : GoodIn wsX3_countsBelow (wsV RX3 39 RX3 yX3_countOf wsX3_countOf) := goodIn_app (goodIn_of _ (by decide +kernel)) ggX3_countsBelow_X3_countOf
theorem dX3_countsBelow_0 : decode cX3_countsBelow 0 = .ok (.iconst 0, 1) := by decide +kernel
theorem dX3_countsBelow_1 : decode cX3_countsBelow 1 = .ok (.istore_n 2, 1) := by decide +kernel
theorem dX3_countsBelow_2 : decode cX3_countsBelow 2 = .ok (.iconst 0, 1) := by decide +kernel
theorem dX3_countsBelow_3 : decode cX3_countsBelow 3 = .ok (.istore_n 3, 1) := by decide +kernel
theorem dX3_countsBelow_4 : decode cX3_countsBelow 4 = .ok (.iload_n 3, 1) := by decide +kernel
theorem dX3_countsBelow_5 : decode cX3_countsBelow 5 = .ok (.aload_n 0, 1) := by decide +kernel
theorem dX3_countsBelow_6 : decode cX3_countsBelow 6 = .ok (.getfield 27, 3) := by decide +kernel
theorem dX3_countsBelow_9 : decode cX3_countsBelow 9 = .ok (.if_icmp .ge 26, 3) := by decide +kernel
theorem dX3_countsBelow_12 : decode cX3_countsBelow 12 = .ok (.aload_n 0, 1) := by decide +kernel
theorem dX3_countsBelow_13 : decode cX3_countsBelow 13 = .ok (.iload_n 3, 1) := by decide +kernel
theorem dX3_countsBelow_14 : decode cX3_countsBelow 14 = .ok (.invokevirtual 42, 3) := by decide +kernel
theorem dX3_countsBelow_17 : decode cX3_countsBelow 17 = .ok (.iload_n 1, 1) := by decide +kernel
theorem dX3_countsBelow_18 : decode cX3_countsBelow 18 = .ok (.if_icmp .ge 11, 3) := by decide +kernel
theorem dX3_countsBelow_21 : decode cX3_countsBelow 21 = .ok (.iload_n 2, 1) := by decide +kernel
theorem dX3_countsBelow_22 : decode cX3_countsBelow 22 = .ok (.aload_n 0, 1) := by decide +kernel
theorem dX3_countsBelow_23 : decode cX3_countsBelow 23 = .ok (.iload_n 3, 1) := by decide +kernel
theorem dX3_countsBelow_24 : decode cX3_countsBelow 24 = .ok (.invokevirtual 39, 3) := by decide +kernel
theorem dX3_countsBelow_27 : decode cX3_countsBelow 27 = .ok (.iadd, 1) := by decide +kernel
theorem dX3_countsBelow_28 : decode cX3_countsBelow 28 = .ok (.istore_n 2, 1) := by decide +kernel
theorem dX3_countsBelow_29 : decode cX3_countsBelow 29 = .ok (.iinc 3 1, 3) := by decide +kernel
theorem dX3_countsBelow_32 : decode cX3_countsBelow 32 = .ok (.goto (-28), 3) := by decide +kernel
theorem dX3_countsBelow_35 : decode cX3_countsBelow 35 = .ok (.iload_n 2, 1) := by decide +kernel
theorem dX3_countsBelow_36 : decode cX3_countsBelow 36 = .ok (.ireturn, 1) := by decide +kernel
theorem dX4_init_0 : decode cX4_init 0 = .ok (.aload_n 0, 1) := by decide +kernel
theorem dX4_init_1 : decode cX4_init 1 = .ok (.invokespecial 3, 3) := by decide +kernel
theorem dX4_init_4 : decode cX4_init 4 = .ok (.aload_n 0, 1) := by decide +kernel
theorem dX4_init_5 : decode cX4_init 5 = .ok (.bipush 120, 2) := by decide +kernel
theorem dX4_init_7 : decode cX4_init 7 = .ok (.newarray .int, 2) := by decide +kernel
theorem dX4_init_9 : decode cX4_init 9 = .ok (.putfield 9, 3) := by decide +kernel
theorem dX4_init_12 : decode cX4_init 12 = .ok (.aload_n 0, 1) := by decide +kernel
theorem dX4_init_13 : decode cX4_init 13 = .ok (.bipush 120, 2) := by decide +kernel
theorem dX4_init_15 : decode cX4_init 15 = .ok (.newarray .int, 2) := by decide +kernel
theorem dX4_init_17 : decode cX4_init 17 = .ok (.putfield 15, 3) := by decide +kernel
theorem dX4_init_20 : decode cX4_init 20 = .ok (.aload_n 0, 1) := by decide +kernel
theorem dX4_init_21 : decode cX4_init 21 = .ok (.bipush 120, 2) := by decide +kernel
theorem dX4_init_23 : decode cX4_init 23 = .ok (.newarray .int, 2) := by decide +kernel
theorem dX4_init_25 : decode cX4_init 25 = .ok (.putfield 18, 3) := by decide +kernel
theorem dX4_init_28 : decode cX4_init 28 = .ok (.return_, 1) := by decide +kernel
theorem dX4_copyFrom_0 : decode cX4_copyFrom 0 = .ok (.aload_n 1, 1) := by decide +kernel
theorem dX4_copyFrom_1 : decode cX4_copyFrom 1 = .ok (.getfield 9, 3) := by decide +kernel
theorem dX4_copyFrom_4 : decode cX4_copyFrom 4 = .ok (.iconst 0, 1) := by decide +kernel
theorem dX4_copyFrom_5 : decode cX4_copyFrom 5 = .ok (.aload_n 0, 1) := by decide +kernel
theorem dX4_copyFrom_6 : decode cX4_copyFrom 6 = .ok (.getfield 9, 3) := by decide +kernel
theorem dX4_copyFrom_9 : decode cX4_copyFrom 9 = .ok (.iconst 0, 1) := by decide +kernel
theorem dX4_copyFrom_10 : decode cX4_copyFrom 10 = .ok (.bipush 120, 2) := by decide +kernel
theorem dX4_copyFrom_12 : decode cX4_copyFrom 12 = .ok (.invokestatic 21, 3) := by decide +kernel
theorem dX4_copyFrom_15 : decode cX4_copyFrom 15 = .ok (.aload_n 1, 1) := by decide +kernel
theorem dX4_copyFrom_16 : decode cX4_copyFrom 16 = .ok (.getfield 15, 3) := by decide +kernel
theorem dX4_copyFrom_19 : decode cX4_copyFrom 19 = .ok (.iconst 0, 1) := by decide +kernel
theorem dX4_copyFrom_20 : decode cX4_copyFrom 20 = .ok (.aload_n 0, 1) := by decide +kernel
theorem dX4_copyFrom_21 : decode cX4_copyFrom 21 = .ok (.getfield 15, 3) := by decide +kernel
theorem dX4_copyFrom_24 : decode cX4_copyFrom 24 = .ok (.iconst 0, 1) := by decide +kernel
theorem dX4_copyFrom_25 : decode cX4_copyFrom 25 = .ok (.bipush 120, 2) := by decide +kernel
theorem dX4_copyFrom_27 : decode cX4_copyFrom 27 = .ok (.invokestatic 21, 3) := by decide +kernel
theorem dX4_copyFrom_30 : decode cX4_copyFrom 30 = .ok (.aload_n 1, 1) := by decide +kernel
theorem dX4_copyFrom_31 : decode cX4_copyFrom 31 = .ok (.getfield 18, 3) := by decide +kernel
theorem dX4_copyFrom_34 : decode cX4_copyFrom 34 = .ok (.iconst 0, 1) := by decide +kernel
theorem dX4_copyFrom_35 : decode cX4_copyFrom 35 = .ok (.aload_n 0, 1) := by decide +kernel
theorem dX4_copyFrom_36 : decode cX4_copyFrom 36 = .ok (.getfield 18, 3) := by decide +kernel
theorem dX4_copyFrom_39 : decode cX4_copyFrom 39 = .ok (.iconst 0, 1) := by decide +kernel
theorem dX4_copyFrom_40 : decode cX4_copyFrom 40 = .ok (.bipush 120, 2) := by decide +kernel
theorem dX4_copyFrom_42 : decode cX4_copyFrom 42 = .ok (.invokestatic 21, 3) := by decide +kernel
theorem dX4_copyFrom_45 : decode cX4_copyFrom 45 = .ok (.aload_n 0, 1) := by decide +kernel
theorem dX4_copyFrom_46 : decode cX4_copyFrom 46 = .ok (.aload_n 1, 1) := by decide +kernel
theorem dX4_copyFrom_47 : decode cX4_copyFrom 47 = .ok (.getfield 27, 3) := by decide +kernel
theorem dX4_copyFrom_50 : decode cX4_copyFrom 50 = .ok (.putfield 27, 3) := by decide +kernel
theorem dX4_copyFrom_53 : decode cX4_copyFrom 53 = .ok (.return_, 1) := by decide +kernel
theorem dX4_has_0 : decode cX4_has 0 = .ok (.iload_n 1, 1) := by decide +kernel
theorem dX4_has_1 : decode cX4_has 1 = .ok (.ifCond .lt 15, 3) := by decide +kernel
theorem dX4_has_4 : decode cX4_has 4 = .ok (.iload_n 1, 1) := by decide +kernel
theorem dX4_has_5 : decode cX4_has 5 = .ok (.aload_n 0, 1) := by decide +kernel
theorem dX4_has_6 : decode cX4_has 6 = .ok (.getfield 27, 3) := by decide +kernel
theorem dX4_has_9 : decode cX4_has 9 = .ok (.if_icmp .ge 7, 3) := by decide +kernel
theorem dX4_has_12 : decode cX4_has 12 = .ok (.iconst 1, 1) := by decide +kernel
theorem dX4_has_13 : decode cX4_has 13 = .ok (.goto 4, 3) := by decide +kernel
theorem dX4_has_16 : decode cX4_has 16 = .ok (.iconst 0, 1) := by decide +kernel
theorem dX4_has_17 : decode cX4_has 17 = .ok (.ireturn, 1) := by decide +kernel
theorem dX4_numberAt_0 : decode cX4_numberAt 0 = .ok (.iload_n 1, 1) := by decide +kernel
theorem dX4_numberAt_1 : decode cX4_numberAt 1 = .ok (.ifCond .lt 18, 3) := by decide +kernel
theorem dX4_numberAt_4 : decode cX4_numberAt 4 = .ok (.iload_n 1, 1) := by decide +kernel
theorem dX4_numberAt_5 : decode cX4_numberAt 5 = .ok (.bipush 120, 2) := by decide +kernel
theorem dX4_numberAt_7 : decode cX4_numberAt 7 = .ok (.if_icmp .ge 12, 3) := by decide +kernel
theorem dX4_numberAt_10 : decode cX4_numberAt 10 = .ok (.aload_n 0, 1) := by decide +kernel
theorem dX4_numberAt_11 : decode cX4_numberAt 11 = .ok (.getfield 9, 3) := by decide +kernel
theorem dX4_numberAt_14 : decode cX4_numberAt 14 = .ok (.iload_n 1, 1) := by decide +kernel
theorem dX4_numberAt_15 : decode cX4_numberAt 15 = .ok (.iaload, 1) := by decide +kernel
theorem dX4_numberAt_16 : decode cX4_numberAt 16 = .ok (.goto 4, 3) := by decide +kernel
theorem dX4_numberAt_19 : decode cX4_numberAt 19 = .ok (.iconst (-1), 1) := by decide +kernel
theorem dX4_numberAt_20 : decode cX4_numberAt 20 = .ok (.ireturn, 1) := by decide +kernel
theorem dX4_firstAt_0 : decode cX4_firstAt 0 = .ok (.iload_n 1, 1) := by decide +kernel
theorem dX4_firstAt_1 : decode cX4_firstAt 1 = .ok (.ifCond .lt 18, 3) := by decide +kernel
theorem dX4_firstAt_4 : decode cX4_firstAt 4 = .ok (.iload_n 1, 1) := by decide +kernel
theorem dX4_firstAt_5 : decode cX4_firstAt 5 = .ok (.bipush 120, 2) := by decide +kernel
theorem dX4_firstAt_7 : decode cX4_firstAt 7 = .ok (.if_icmp .ge 12, 3) := by decide +kernel
theorem dX4_firstAt_10 : decode cX4_firstAt 10 = .ok (.aload_n 0, 1) := by decide +kernel
theorem dX4_firstAt_11 : decode cX4_firstAt 11 = .ok (.getfield 15, 3) := by decide +kernel
theorem dX4_firstAt_14 : decode cX4_firstAt 14 = .ok (.iload_n 1, 1) := by decide +kernel
theorem dX4_firstAt_15 : decode cX4_firstAt 15 = .ok (.iaload, 1) := by decide +kernel
theorem dX4_firstAt_16 : decode cX4_firstAt 16 = .ok (.goto 4, 3) := by decide +kernel
theorem dX4_firstAt_19 : decode cX4_firstAt 19 = .ok (.iconst (-1), 1) := by decide +kernel
theorem dX4_firstAt_20 : decode cX4_firstAt 20 = .ok (.ireturn, 1) := by decide +kernel
theorem dX4_lengthAt_0 : decode cX4_lengthAt 0 = .ok (.iload_n 1, 1) := by decide +kernel
theorem dX4_lengthAt_1 : decode cX4_lengthAt 1 = .ok (.ifCond .lt 18, 3) := by decide +kernel
theorem dX4_lengthAt_4 : decode cX4_lengthAt 4 = .ok (.iload_n 1, 1) := by decide +kernel
theorem dX4_lengthAt_5 : decode cX4_lengthAt 5 = .ok (.bipush 120, 2) := by decide +kernel
theorem dX4_lengthAt_7 : decode cX4_lengthAt 7 = .ok (.if_icmp .ge 12, 3) := by decide +kernel
theorem dX4_lengthAt_10 : decode cX4_lengthAt 10 = .ok (.aload_n 0, 1) := by decide +kernel
theorem dX4_lengthAt_11 : decode cX4_lengthAt 11 = .ok (.getfield 18, 3) := by decide +kernel
theorem dX4_lengthAt_14 : decode cX4_lengthAt 14 = .ok (.iload_n 1, 1) := by decide +kernel
theorem dX4_lengthAt_15 : decode cX4_lengthAt 15 = .ok (.iaload, 1) := by decide +kernel
theorem dX4_lengthAt_16 : decode cX4_lengthAt 16 = .ok (.goto 4, 3) := by decide +kernel
theorem dX4_lengthAt_19 : decode cX4_lengthAt 19 = .ok (.iconst 0, 1) := by decide +kernel
theorem dX4_lengthAt_20 : decode cX4_lengthAt 20 = .ok (.ireturn, 1) := by decide +kernel
set_option maxRecDepth 20000 in
theorem ggX4_placeOf_X4_numberAt : GoodIn wsX4_placeOf wsX4_numberAt := goodIn_r _ [6, 7, 8, 9, 10, 11] (by decide +kernel) (by decide +kernel)
set_option maxRecDepth 20000 in
theorem gX4_placeOf_X4_numberAt : GoodIn wsX4_placeOf (wsV RX4 31 RX4 yX4_numberAt wsX4_numberAt) := goodIn_app (goodIn_of _ (by decide +kernel)) ggX4_placeOf_X4_numberAt
theorem dX4_placeOf_0 : decode cX4_placeOf 0 = .ok (.iconst 0, 1) := by decide +kernel
theorem dX4_placeOf_1 : decode cX4_placeOf 1 = .ok (.istore_n 2, 1) := by decide +kernel
theorem dX4_placeOf_2 : decode cX4_placeOf 2 = .ok (.iload_n 2, 1) := by decide +kernel
theorem dX4_placeOf_3 : decode cX4_placeOf 3 = .ok (.aload_n 0, 1) := by decide +kernel
theorem dX4_placeOf_4 : decode cX4_placeOf 4 = .ok (.getfield 27, 3) := by decide +kernel
theorem dX4_placeOf_7 : decode cX4_placeOf 7 = .ok (.if_icmp .ge 20, 3) := by decide +kernel
theorem dX4_placeOf_10 : decode cX4_placeOf 10 = .ok (.aload_n 0, 1) := by decide +kernel
theorem dX4_placeOf_11 : decode cX4_placeOf 11 = .ok (.iload_n 2, 1) := by decide +kernel
theorem dX4_placeOf_12 : decode cX4_placeOf 12 = .ok (.invokevirtual 31, 3) := by decide +kernel
theorem dX4_placeOf_15 : decode cX4_placeOf 15 = .ok (.iload_n 1, 1) := by decide +kernel
theorem dX4_placeOf_16 : decode cX4_placeOf 16 = .ok (.if_icmp .ne 5, 3) := by decide +kernel
theorem dX4_placeOf_19 : decode cX4_placeOf 19 = .ok (.iload_n 2, 1) := by decide +kernel
theorem dX4_placeOf_20 : decode cX4_placeOf 20 = .ok (.ireturn, 1) := by decide +kernel
theorem dX4_placeOf_21 : decode cX4_placeOf 21 = .ok (.iinc 2 1, 3) := by decide +kernel
theorem dX4_placeOf_24 : decode cX4_placeOf 24 = .ok (.goto (-22), 3) := by decide +kernel
theorem dX4_placeOf_27 : decode cX4_placeOf 27 = .ok (.iconst (-1), 1) := by decide +kernel
theorem dX4_placeOf_28 : decode cX4_placeOf 28 = .ok (.ireturn, 1) := by decide +kernel
set_option maxRecDepth 20000 in
theorem ggX4_placeOfShortest_X4_lengthAt : GoodIn wsX4_placeOfShortest wsX4_lengthAt := goodIn_r _ [6, 7, 8, 9, 10, 11] (by decide +kernel) (by decide +kernel)
set_option maxRecDepth 20000 in
theorem gX4_placeOfShortest_X4_lengthAt : GoodIn wsX4_placeOfShortest (wsV RX4 35 RX4 yX4_lengthAt wsX4_lengthAt) := goodIn_app (goodIn_of _ (by decide +kernel)) ggX4_placeOfShortest_X4_lengthAt
theorem dX4_placeOfShortest_0 : decode cX4_placeOfShortest 0 = .ok (.iconst 0, 1) := by decide +kernel
theorem dX4_placeOfShortest_1 : decode cX4_placeOfShortest 1 = .ok (.istore_n 1, 1) := by decide +kernel
theorem dX4_placeOfShortest_2 : decode cX4_placeOfShortest 2 = .ok (.iconst 1, 1) := by decide +kernel
theorem dX4_placeOfShortest_3 : decode cX4_placeOfShortest 3 = .ok (.istore_n 2, 1) := by decide +kernel
theorem dX4_placeOfShortest_4 : decode cX4_placeOfShortest 4 = .ok (.iload_n 2, 1) := by decide +kernel
theorem dX4_placeOfShortest_5 : decode cX4_placeOfShortest 5 = .ok (.aload_n 0, 1) := by decide +kernel
theorem dX4_placeOfShortest_6 : decode cX4_placeOfShortest 6 = .ok (.getfield 27, 3) := by decide +kernel
theorem dX4_placeOfShortest_9 : decode cX4_placeOfShortest 9 = .ok (.if_icmp .ge 24, 3) := by decide +kernel
theorem dX4_placeOfShortest_12 : decode cX4_placeOfShortest 12 = .ok (.aload_n 0, 1) := by decide +kernel
theorem dX4_placeOfShortest_13 : decode cX4_placeOfShortest 13 = .ok (.iload_n 2, 1) := by decide +kernel
theorem dX4_placeOfShortest_14 : decode cX4_placeOfShortest 14 = .ok (.invokevirtual 35, 3) := by decide +kernel
theorem dX4_placeOfShortest_17 : decode cX4_placeOfShortest 17 = .ok (.aload_n 0, 1) := by decide +kernel
theorem dX4_placeOfShortest_18 : decode cX4_placeOfShortest 18 = .ok (.iload_n 1, 1) := by decide +kernel
theorem dX4_placeOfShortest_19 : decode cX4_placeOfShortest 19 = .ok (.invokevirtual 35, 3) := by decide +kernel
theorem dX4_placeOfShortest_22 : decode cX4_placeOfShortest 22 = .ok (.if_icmp .ge 5, 3) := by decide +kernel
theorem dX4_placeOfShortest_25 : decode cX4_placeOfShortest 25 = .ok (.iload_n 2, 1) := by decide +kernel
theorem dX4_placeOfShortest_26 : decode cX4_placeOfShortest 26 = .ok (.istore_n 1, 1) := by decide +kernel
theorem dX4_placeOfShortest_27 : decode cX4_placeOfShortest 27 = .ok (.iinc 2 1, 3) := by decide +kernel
theorem dX4_placeOfShortest_30 : decode cX4_placeOfShortest 30 = .ok (.goto (-26), 3) := by decide +kernel
theorem dX4_placeOfShortest_33 : decode cX4_placeOfShortest 33 = .ok (.iload_n 1, 1) := by decide +kernel
theorem dX4_placeOfShortest_34 : decode cX4_placeOfShortest 34 = .ok (.ireturn, 1) := by decide +kernel
set_option maxRecDepth 20000 in
theorem ggX4_rowsInAll_X4_lengthAt : GoodIn wsX4_rowsInAll wsX4_lengthAt := goodIn_r _ [6, 7, 8, 9, 10, 11] (by decide +kernel) (by decide +kernel)
set_option maxRecDepth 20000 in
theorem gX4_rowsInAll_X4_lengthAt : GoodIn wsX4_rowsInAll (wsV RX4 35 RX4 yX4_lengthAt wsX4_lengthAt) := goodIn_app (goodIn_of _ (by decide +kernel)) ggX4_rowsInAll_X4_lengthAt
theorem dX4_rowsInAll_0 : decode cX4_rowsInAll 0 = .ok (.iconst 0, 1) := by decide +kernel
theorem dX4_rowsInAll_1 : decode cX4_rowsInAll 1 = .ok (.istore_n 1, 1) := by decide +kernel
theorem dX4_rowsInAll_2 : decode cX4_rowsInAll 2 = .ok (.iconst 0, 1) := by decide +kernel
theorem dX4_rowsInAll_3 : decode cX4_rowsInAll 3 = .ok (.istore_n 2, 1) := by decide +kernel
theorem dX4_rowsInAll_4 : decode cX4_rowsInAll 4 = .ok (.iload_n 2, 1) := by decide +kernel
theorem dX4_rowsInAll_5 : decode cX4_rowsInAll 5 = .ok (.aload_n 0, 1) := by decide +kernel
theorem dX4_rowsInAll_6 : decode cX4_rowsInAll 6 = .ok (.getfield 27, 3) := by decide +kernel
theorem dX4_rowsInAll_9 : decode cX4_rowsInAll 9 = .ok (.if_icmp .ge 17, 3) := by decide +kernel
theorem dX4_rowsInAll_12 : decode cX4_rowsInAll 12 = .ok (.iload_n 1, 1) := by decide +kernel
theorem dX4_rowsInAll_13 : decode cX4_rowsInAll 13 = .ok (.aload_n 0, 1) := by decide +kernel
theorem dX4_rowsInAll_14 : decode cX4_rowsInAll 14 = .ok (.iload_n 2, 1) := by decide +kernel
theorem dX4_rowsInAll_15 : decode cX4_rowsInAll 15 = .ok (.invokevirtual 35, 3) := by decide +kernel
theorem dX4_rowsInAll_18 : decode cX4_rowsInAll 18 = .ok (.iadd, 1) := by decide +kernel
theorem dX4_rowsInAll_19 : decode cX4_rowsInAll 19 = .ok (.istore_n 1, 1) := by decide +kernel
theorem dX4_rowsInAll_20 : decode cX4_rowsInAll 20 = .ok (.iinc 2 1, 3) := by decide +kernel
theorem dX4_rowsInAll_23 : decode cX4_rowsInAll 23 = .ok (.goto (-19), 3) := by decide +kernel
theorem dX4_rowsInAll_26 : decode cX4_rowsInAll 26 = .ok (.iload_n 1, 1) := by decide +kernel
theorem dX4_rowsInAll_27 : decode cX4_rowsInAll 27 = .ok (.ireturn, 1) := by decide +kernel
theorem dX4_insert_0 : decode cX4_insert 0 = .ok (.aload_n 0, 1) := by decide +kernel
theorem dX4_insert_1 : decode cX4_insert 1 = .ok (.getfield 27, 3) := by decide +kernel
theorem dX4_insert_4 : decode cX4_insert 4 = .ok (.ifCond .lt 12, 3) := by decide +kernel
theorem dX4_insert_7 : decode cX4_insert 7 = .ok (.aload_n 0, 1) := by decide +kernel
theorem dX4_insert_8 : decode cX4_insert 8 = .ok (.getfield 27, 3) := by decide +kernel
theorem dX4_insert_11 : decode cX4_insert 11 = .ok (.bipush 120, 2) := by decide +kernel
theorem dX4_insert_13 : decode cX4_insert 13 = .ok (.if_icmp .lt 4, 3) := by decide +kernel
theorem dX4_insert_16 : decode cX4_insert 16 = .ok (.return_, 1) := by decide +kernel
theorem dX4_insert_17 : decode cX4_insert 17 = .ok (.aload_n 0, 1) := by decide +kernel
theorem dX4_insert_18 : decode cX4_insert 18 = .ok (.getfield 27, 3) := by decide +kernel
theorem dX4_insert_21 : decode cX4_insert 21 = .ok (.istore 4, 2) := by decide +kernel
theorem dX4_insert_23 : decode cX4_insert 23 = .ok (.iload 4, 2) := by decide +kernel
theorem dX4_insert_25 : decode cX4_insert 25 = .ok (.ifCond .le 70, 3) := by decide +kernel
theorem dX4_insert_28 : decode cX4_insert 28 = .ok (.aload_n 0, 1) := by decide +kernel
theorem dX4_insert_29 : decode cX4_insert 29 = .ok (.getfield 9, 3) := by decide +kernel
theorem dX4_insert_32 : decode cX4_insert 32 = .ok (.iload 4, 2) := by decide +kernel
theorem dX4_insert_34 : decode cX4_insert 34 = .ok (.iconst 1, 1) := by decide +kernel
theorem dX4_insert_35 : decode cX4_insert 35 = .ok (.isub, 1) := by decide +kernel
theorem dX4_insert_36 : decode cX4_insert 36 = .ok (.iaload, 1) := by decide +kernel
theorem dX4_insert_37 : decode cX4_insert 37 = .ok (.iload_n 1, 1) := by decide +kernel
theorem dX4_insert_38 : decode cX4_insert 38 = .ok (.if_icmp .le 57, 3) := by decide +kernel
theorem dX4_insert_41 : decode cX4_insert 41 = .ok (.aload_n 0, 1) := by decide +kernel
theorem dX4_insert_42 : decode cX4_insert 42 = .ok (.getfield 9, 3) := by decide +kernel
theorem dX4_insert_45 : decode cX4_insert 45 = .ok (.iload 4, 2) := by decide +kernel
theorem dX4_insert_47 : decode cX4_insert 47 = .ok (.aload_n 0, 1) := by decide +kernel
theorem dX4_insert_48 : decode cX4_insert 48 = .ok (.getfield 9, 3) := by decide +kernel
theorem dX4_insert_51 : decode cX4_insert 51 = .ok (.iload 4, 2) := by decide +kernel
theorem dX4_insert_53 : decode cX4_insert 53 = .ok (.iconst 1, 1) := by decide +kernel
theorem dX4_insert_54 : decode cX4_insert 54 = .ok (.isub, 1) := by decide +kernel
theorem dX4_insert_55 : decode cX4_insert 55 = .ok (.iaload, 1) := by decide +kernel
theorem dX4_insert_56 : decode cX4_insert 56 = .ok (.iastore, 1) := by decide +kernel
theorem dX4_insert_57 : decode cX4_insert 57 = .ok (.aload_n 0, 1) := by decide +kernel
theorem dX4_insert_58 : decode cX4_insert 58 = .ok (.getfield 15, 3) := by decide +kernel
theorem dX4_insert_61 : decode cX4_insert 61 = .ok (.iload 4, 2) := by decide +kernel
theorem dX4_insert_63 : decode cX4_insert 63 = .ok (.aload_n 0, 1) := by decide +kernel
theorem dX4_insert_64 : decode cX4_insert 64 = .ok (.getfield 15, 3) := by decide +kernel
theorem dX4_insert_67 : decode cX4_insert 67 = .ok (.iload 4, 2) := by decide +kernel
theorem dX4_insert_69 : decode cX4_insert 69 = .ok (.iconst 1, 1) := by decide +kernel
theorem dX4_insert_70 : decode cX4_insert 70 = .ok (.isub, 1) := by decide +kernel
theorem dX4_insert_71 : decode cX4_insert 71 = .ok (.iaload, 1) := by decide +kernel
theorem dX4_insert_72 : decode cX4_insert 72 = .ok (.iastore, 1) := by decide +kernel
theorem dX4_insert_73 : decode cX4_insert 73 = .ok (.aload_n 0, 1) := by decide +kernel
theorem dX4_insert_74 : decode cX4_insert 74 = .ok (.getfield 18, 3) := by decide +kernel
theorem dX4_insert_77 : decode cX4_insert 77 = .ok (.iload 4, 2) := by decide +kernel
theorem dX4_insert_79 : decode cX4_insert 79 = .ok (.aload_n 0, 1) := by decide +kernel
theorem dX4_insert_80 : decode cX4_insert 80 = .ok (.getfield 18, 3) := by decide +kernel
theorem dX4_insert_83 : decode cX4_insert 83 = .ok (.iload 4, 2) := by decide +kernel
theorem dX4_insert_85 : decode cX4_insert 85 = .ok (.iconst 1, 1) := by decide +kernel
theorem dX4_insert_86 : decode cX4_insert 86 = .ok (.isub, 1) := by decide +kernel
theorem dX4_insert_87 : decode cX4_insert 87 = .ok (.iaload, 1) := by decide +kernel
theorem dX4_insert_88 : decode cX4_insert 88 = .ok (.iastore, 1) := by decide +kernel
theorem dX4_insert_89 : decode cX4_insert 89 = .ok (.iinc 4 (-1), 3) := by decide +kernel
theorem dX4_insert_92 : decode cX4_insert 92 = .ok (.goto (-69), 3) := by decide +kernel
theorem dX4_insert_95 : decode cX4_insert 95 = .ok (.aload_n 0, 1) := by decide +kernel
theorem dX4_insert_96 : decode cX4_insert 96 = .ok (.getfield 9, 3) := by decide +kernel
theorem dX4_insert_99 : decode cX4_insert 99 = .ok (.iload 4, 2) := by decide +kernel
theorem dX4_insert_101 : decode cX4_insert 101 = .ok (.iload_n 1, 1) := by decide +kernel
theorem dX4_insert_102 : decode cX4_insert 102 = .ok (.iastore, 1) := by decide +kernel
theorem dX4_insert_103 : decode cX4_insert 103 = .ok (.aload_n 0, 1) := by decide +kernel
theorem dX4_insert_104 : decode cX4_insert 104 = .ok (.getfield 15, 3) := by decide +kernel
theorem dX4_insert_107 : decode cX4_insert 107 = .ok (.iload 4, 2) := by decide +kernel
theorem dX4_insert_109 : decode cX4_insert 109 = .ok (.iload_n 2, 1) := by decide +kernel
theorem dX4_insert_110 : decode cX4_insert 110 = .ok (.iastore, 1) := by decide +kernel
theorem dX4_insert_111 : decode cX4_insert 111 = .ok (.aload_n 0, 1) := by decide +kernel
theorem dX4_insert_112 : decode cX4_insert 112 = .ok (.getfield 18, 3) := by decide +kernel
theorem dX4_insert_115 : decode cX4_insert 115 = .ok (.iload 4, 2) := by decide +kernel
theorem dX4_insert_117 : decode cX4_insert 117 = .ok (.iload_n 3, 1) := by decide +kernel
theorem dX4_insert_118 : decode cX4_insert 118 = .ok (.iastore, 1) := by decide +kernel
theorem dX4_insert_119 : decode cX4_insert 119 = .ok (.aload_n 0, 1) := by decide +kernel
theorem dX4_insert_120 : decode cX4_insert 120 = .ok (.dup, 1) := by decide +kernel
theorem dX4_insert_121 : decode cX4_insert 121 = .ok (.getfield 27, 3) := by decide +kernel
theorem dX4_insert_124 : decode cX4_insert 124 = .ok (.iconst 1, 1) := by decide +kernel
theorem dX4_insert_125 : decode cX4_insert 125 = .ok (.iadd, 1) := by decide +kernel
theorem dX4_insert_126 : decode cX4_insert 126 = .ok (.putfield 27, 3) := by decide +kernel
theorem dX4_insert_129 : decode cX4_insert 129 = .ok (.return_, 1) := by decide +kernel
theorem dX4_remove_0 : decode cX4_remove 0 = .ok (.iload_n 1, 1) := by decide +kernel
theorem dX4_remove_1 : decode cX4_remove 1 = .ok (.ifCond .lt 20, 3) := by decide +kernel
theorem dX4_remove_4 : decode cX4_remove 4 = .ok (.iload_n 1, 1) := by decide +kernel
theorem dX4_remove_5 : decode cX4_remove 5 = .ok (.aload_n 0, 1) := by decide +kernel
theorem dX4_remove_6 : decode cX4_remove 6 = .ok (.getfield 27, 3) := by decide +kernel
theorem dX4_remove_9 : decode cX4_remove 9 = .ok (.if_icmp .ge 12, 3) := by decide +kernel
theorem dX4_remove_12 : decode cX4_remove 12 = .ok (.aload_n 0, 1) := by decide +kernel
theorem dX4_remove_13 : decode cX4_remove 13 = .ok (.getfield 27, 3) := by decide +kernel
theorem dX4_remove_16 : decode cX4_remove 16 = .ok (.bipush 120, 2) := by decide +kernel
theorem dX4_remove_18 : decode cX4_remove 18 = .ok (.if_icmp .le 4, 3) := by decide +kernel
theorem dX4_remove_21 : decode cX4_remove 21 = .ok (.return_, 1) := by decide +kernel
theorem dX4_remove_22 : decode cX4_remove 22 = .ok (.aload_n 0, 1) := by decide +kernel
theorem dX4_remove_23 : decode cX4_remove 23 = .ok (.getfield 27, 3) := by decide +kernel
theorem dX4_remove_26 : decode cX4_remove 26 = .ok (.iload_n 1, 1) := by decide +kernel
theorem dX4_remove_27 : decode cX4_remove 27 = .ok (.isub, 1) := by decide +kernel
theorem dX4_remove_28 : decode cX4_remove 28 = .ok (.iconst 1, 1) := by decide +kernel
theorem dX4_remove_29 : decode cX4_remove 29 = .ok (.isub, 1) := by decide +kernel
theorem dX4_remove_30 : decode cX4_remove 30 = .ok (.istore_n 2, 1) := by decide +kernel
theorem dX4_remove_31 : decode cX4_remove 31 = .ok (.aload_n 0, 1) := by decide +kernel
theorem dX4_remove_32 : decode cX4_remove 32 = .ok (.getfield 9, 3) := by decide +kernel
theorem dX4_remove_35 : decode cX4_remove 35 = .ok (.iload_n 1, 1) := by decide +kernel
theorem dX4_remove_36 : decode cX4_remove 36 = .ok (.iconst 1, 1) := by decide +kernel
theorem dX4_remove_37 : decode cX4_remove 37 = .ok (.iadd, 1) := by decide +kernel
theorem dX4_remove_38 : decode cX4_remove 38 = .ok (.aload_n 0, 1) := by decide +kernel
theorem dX4_remove_39 : decode cX4_remove 39 = .ok (.getfield 9, 3) := by decide +kernel
theorem dX4_remove_42 : decode cX4_remove 42 = .ok (.iload_n 1, 1) := by decide +kernel
theorem dX4_remove_43 : decode cX4_remove 43 = .ok (.iload_n 2, 1) := by decide +kernel
theorem dX4_remove_44 : decode cX4_remove 44 = .ok (.invokestatic 21, 3) := by decide +kernel
theorem dX4_remove_47 : decode cX4_remove 47 = .ok (.aload_n 0, 1) := by decide +kernel
theorem dX4_remove_48 : decode cX4_remove 48 = .ok (.getfield 15, 3) := by decide +kernel
theorem dX4_remove_51 : decode cX4_remove 51 = .ok (.iload_n 1, 1) := by decide +kernel
theorem dX4_remove_52 : decode cX4_remove 52 = .ok (.iconst 1, 1) := by decide +kernel
theorem dX4_remove_53 : decode cX4_remove 53 = .ok (.iadd, 1) := by decide +kernel
theorem dX4_remove_54 : decode cX4_remove 54 = .ok (.aload_n 0, 1) := by decide +kernel
theorem dX4_remove_55 : decode cX4_remove 55 = .ok (.getfield 15, 3) := by decide +kernel
theorem dX4_remove_58 : decode cX4_remove 58 = .ok (.iload_n 1, 1) := by decide +kernel
theorem dX4_remove_59 : decode cX4_remove 59 = .ok (.iload_n 2, 1) := by decide +kernel
theorem dX4_remove_60 : decode cX4_remove 60 = .ok (.invokestatic 21, 3) := by decide +kernel
theorem dX4_remove_63 : decode cX4_remove 63 = .ok (.aload_n 0, 1) := by decide +kernel
theorem dX4_remove_64 : decode cX4_remove 64 = .ok (.getfield 18, 3) := by decide +kernel
theorem dX4_remove_67 : decode cX4_remove 67 = .ok (.iload_n 1, 1) := by decide +kernel
theorem dX4_remove_68 : decode cX4_remove 68 = .ok (.iconst 1, 1) := by decide +kernel
theorem dX4_remove_69 : decode cX4_remove 69 = .ok (.iadd, 1) := by decide +kernel
theorem dX4_remove_70 : decode cX4_remove 70 = .ok (.aload_n 0, 1) := by decide +kernel
theorem dX4_remove_71 : decode cX4_remove 71 = .ok (.getfield 18, 3) := by decide +kernel
theorem dX4_remove_74 : decode cX4_remove 74 = .ok (.iload_n 1, 1) := by decide +kernel
theorem dX4_remove_75 : decode cX4_remove 75 = .ok (.iload_n 2, 1) := by decide +kernel
theorem dX4_remove_76 : decode cX4_remove 76 = .ok (.invokestatic 21, 3) := by decide +kernel
theorem dX4_remove_79 : decode cX4_remove 79 = .ok (.aload_n 0, 1) := by decide +kernel
theorem dX4_remove_80 : decode cX4_remove 80 = .ok (.dup, 1) := by decide +kernel
theorem dX4_remove_81 : decode cX4_remove 81 = .ok (.getfield 27, 3) := by decide +kernel
theorem dX4_remove_84 : decode cX4_remove 84 = .ok (.iconst 1, 1) := by decide +kernel
theorem dX4_remove_85 : decode cX4_remove 85 = .ok (.isub, 1) := by decide +kernel
theorem dX4_remove_86 : decode cX4_remove 86 = .ok (.putfield 27, 3) := by decide +kernel
theorem dX4_remove_89 : decode cX4_remove 89 = .ok (.return_, 1) := by decide +kernel
theorem dX4_removeAll_0 : decode cX4_removeAll 0 = .ok (.aload_n 0, 1) := by decide +kernel
theorem dX4_removeAll_1 : decode cX4_removeAll 1 = .ok (.iconst 0, 1) := by decide +kernel
theorem dX4_removeAll_2 : decode cX4_removeAll 2 = .ok (.putfield 27, 3) := by decide +kernel
theorem dX4_removeAll_5 : decode cX4_removeAll 5 = .ok (.return_, 1) := by decide +kernel
theorem dX4_passFirst_0 : decode cX4_passFirst 0 = .ok (.iload_n 1, 1) := by decide +kernel
theorem dX4_passFirst_1 : decode cX4_passFirst 1 = .ok (.ifCond .lt 26, 3) := by decide +kernel
theorem dX4_passFirst_4 : decode cX4_passFirst 4 = .ok (.iload_n 1, 1) := by decide +kernel
theorem dX4_passFirst_5 : decode cX4_passFirst 5 = .ok (.bipush 120, 2) := by decide +kernel
theorem dX4_passFirst_7 : decode cX4_passFirst 7 = .ok (.if_icmp .ge 20, 3) := by decide +kernel
theorem dX4_passFirst_10 : decode cX4_passFirst 10 = .ok (.aload_n 0, 1) := by decide +kernel
theorem dX4_passFirst_11 : decode cX4_passFirst 11 = .ok (.getfield 15, 3) := by decide +kernel
theorem dX4_passFirst_14 : decode cX4_passFirst 14 = .ok (.iload_n 1, 1) := by decide +kernel
theorem dX4_passFirst_15 : decode cX4_passFirst 15 = .ok (.iload_n 2, 1) := by decide +kernel
theorem dX4_passFirst_16 : decode cX4_passFirst 16 = .ok (.iastore, 1) := by decide +kernel
theorem dX4_passFirst_17 : decode cX4_passFirst 17 = .ok (.aload_n 0, 1) := by decide +kernel
theorem dX4_passFirst_18 : decode cX4_passFirst 18 = .ok (.getfield 18, 3) := by decide +kernel
theorem dX4_passFirst_21 : decode cX4_passFirst 21 = .ok (.iload_n 1, 1) := by decide +kernel
theorem dX4_passFirst_22 : decode cX4_passFirst 22 = .ok (.dup2, 1) := by decide +kernel
theorem dX4_passFirst_23 : decode cX4_passFirst 23 = .ok (.iaload, 1) := by decide +kernel
theorem dX4_passFirst_24 : decode cX4_passFirst 24 = .ok (.iconst 1, 1) := by decide +kernel
theorem dX4_passFirst_25 : decode cX4_passFirst 25 = .ok (.isub, 1) := by decide +kernel
theorem dX4_passFirst_26 : decode cX4_passFirst 26 = .ok (.iastore, 1) := by decide +kernel
theorem dX4_passFirst_27 : decode cX4_passFirst 27 = .ok (.return_, 1) := by decide +kernel
set_option maxRecDepth 20000 in
theorem ggX5_init_X3_init : GoodIn wsX5_init wsX3_init := goodIn_r _ [18, 19, 2, 3, 14, 20, 21, 22, 29, 30, 31, 32] (by decide +kernel) (by decide +kernel)
set_option maxRecDepth 20000 in
theorem gX5_init_X3_init_n11 : GoodIn wsX5_init (wsX3_init) := ggX5_init_X3_init
set_option maxRecDepth 20000 in
theorem ggX5_init_X4_init : GoodIn wsX5_init wsX4_init := goodIn_r _ [24, 25, 2, 3, 14, 26, 27, 28, 49, 50, 51, 52] (by decide +kernel) (by decide +kernel)
set_option maxRecDepth 20000 in
theorem gX5_init_X4_init_n20 : GoodIn wsX5_init (wsX4_init) := ggX5_init_X4_init
theorem dX5_init_0 : decode cX5_init 0 = .ok (.aload_n 0, 1) := by decide +kernel
theorem dX5_init_1 : decode cX5_init 1 = .ok (.invokespecial 3, 3) := by decide +kernel
theorem dX5_init_4 : decode cX5_init 4 = .ok (.aload_n 0, 1) := by decide +kernel
theorem dX5_init_5 : decode cX5_init 5 = .ok (.new 9, 3) := by decide +kernel
theorem dX5_init_8 : decode cX5_init 8 = .ok (.dup, 1) := by decide +kernel
theorem dX5_init_9 : decode cX5_init 9 = .ok (.invokespecial 11, 3) := by decide +kernel
theorem dX5_init_12 : decode cX5_init 12 = .ok (.putfield 12, 3) := by decide +kernel
theorem dX5_init_15 : decode cX5_init 15 = .ok (.aload_n 0, 1) := by decide +kernel
theorem dX5_init_16 : decode cX5_init 16 = .ok (.new 18, 3) := by decide +kernel
theorem dX5_init_19 : decode cX5_init 19 = .ok (.dup, 1) := by decide +kernel
theorem dX5_init_20 : decode cX5_init 20 = .ok (.invokespecial 20, 3) := by decide +kernel
theorem dX5_init_23 : decode cX5_init 23 = .ok (.putfield 21, 3) := by decide +kernel
theorem dX5_init_26 : decode cX5_init 26 = .ok (.aload_n 0, 1) := by decide +kernel
theorem dX5_init_27 : decode cX5_init 27 = .ok (.iconst 1, 1) := by decide +kernel
theorem dX5_init_28 : decode cX5_init 28 = .ok (.putfield 25, 3) := by decide +kernel
theorem dX5_init_31 : decode cX5_init 31 = .ok (.aload_n 0, 1) := by decide +kernel
theorem dX5_init_32 : decode cX5_init 32 = .ok (.bipush 6, 2) := by decide +kernel
theorem dX5_init_34 : decode cX5_init 34 = .ok (.putfield 29, 3) := by decide +kernel
theorem dX5_init_37 : decode cX5_init 37 = .ok (.aload_n 0, 1) := by decide +kernel
theorem dX5_init_38 : decode cX5_init 38 = .ok (.bipush 20, 2) := by decide +kernel
theorem dX5_init_40 : decode cX5_init 40 = .ok (.newarray .int, 2) := by decide +kernel
theorem dX5_init_42 : decode cX5_init 42 = .ok (.putfield 33, 3) := by decide +kernel
theorem dX5_init_45 : decode cX5_init 45 = .ok (.aload_n 0, 1) := by decide +kernel
theorem dX5_init_46 : decode cX5_init 46 = .ok (.new 18, 3) := by decide +kernel
theorem dX5_init_49 : decode cX5_init 49 = .ok (.dup, 1) := by decide +kernel
theorem dX5_init_50 : decode cX5_init 50 = .ok (.invokespecial 20, 3) := by decide +kernel
theorem dX5_init_53 : decode cX5_init 53 = .ok (.putfield 37, 3) := by decide +kernel
theorem dX5_init_56 : decode cX5_init 56 = .ok (.return_, 1) := by decide +kernel
set_option maxRecDepth 20000 in
theorem ggX5_copyFrom_X3_copyFrom : GoodIn wsX5_copyFrom wsX3_copyFrom := goodIn_r _ [25, 26, 27, 8, 9, 10, 28, 29, 30, 57, 58, 59, 60] (by decide +kernel) (by decide +kernel)
set_option maxRecDepth 20000 in
theorem gX5_copyFrom_X3_copyFrom : GoodIn wsX5_copyFrom (wsV RX5 40 RX3 yX3_copyFrom wsX3_copyFrom) := goodIn_app (goodIn_of _ (by decide +kernel)) ggX5_copyFrom_X3_copyFrom
set_option maxRecDepth 20000 in
theorem ggX5_copyFrom_X4_copyFrom : GoodIn wsX5_copyFrom wsX4_copyFrom := goodIn_r _ [35, 36, 37, 8, 9, 10, 38, 39, 40, 61, 62, 63, 64] (by decide +kernel) (by decide +kernel)
set_option maxRecDepth 20000 in
theorem gX5_copyFrom_X4_copyFrom : GoodIn wsX5_copyFrom (wsV RX5 44 RX4 yX4_copyFrom wsX4_copyFrom) := goodIn_app (goodIn_of _ (by decide +kernel)) ggX5_copyFrom_X4_copyFrom
theorem dX5_copyFrom_0 : decode cX5_copyFrom 0 = .ok (.aload_n 0, 1) := by decide +kernel
theorem dX5_copyFrom_1 : decode cX5_copyFrom 1 = .ok (.getfield 12, 3) := by decide +kernel
theorem dX5_copyFrom_4 : decode cX5_copyFrom 4 = .ok (.aload_n 1, 1) := by decide +kernel
theorem dX5_copyFrom_5 : decode cX5_copyFrom 5 = .ok (.getfield 12, 3) := by decide +kernel
theorem dX5_copyFrom_8 : decode cX5_copyFrom 8 = .ok (.invokevirtual 40, 3) := by decide +kernel
theorem dX5_copyFrom_11 : decode cX5_copyFrom 11 = .ok (.aload_n 0, 1) := by decide +kernel
theorem dX5_copyFrom_12 : decode cX5_copyFrom 12 = .ok (.getfield 21, 3) := by decide +kernel
theorem dX5_copyFrom_15 : decode cX5_copyFrom 15 = .ok (.aload_n 1, 1) := by decide +kernel
theorem dX5_copyFrom_16 : decode cX5_copyFrom 16 = .ok (.getfield 21, 3) := by decide +kernel
theorem dX5_copyFrom_19 : decode cX5_copyFrom 19 = .ok (.invokevirtual 44, 3) := by decide +kernel
theorem dX5_copyFrom_22 : decode cX5_copyFrom 22 = .ok (.aload_n 0, 1) := by decide +kernel
theorem dX5_copyFrom_23 : decode cX5_copyFrom 23 = .ok (.aload_n 1, 1) := by decide +kernel
theorem dX5_copyFrom_24 : decode cX5_copyFrom 24 = .ok (.getfield 47, 3) := by decide +kernel
theorem dX5_copyFrom_27 : decode cX5_copyFrom 27 = .ok (.putfield 47, 3) := by decide +kernel
theorem dX5_copyFrom_30 : decode cX5_copyFrom 30 = .ok (.aload_n 0, 1) := by decide +kernel
theorem dX5_copyFrom_31 : decode cX5_copyFrom 31 = .ok (.aload_n 1, 1) := by decide +kernel
theorem dX5_copyFrom_32 : decode cX5_copyFrom 32 = .ok (.getfield 25, 3) := by decide +kernel
theorem dX5_copyFrom_35 : decode cX5_copyFrom 35 = .ok (.putfield 25, 3) := by decide +kernel
theorem dX5_copyFrom_38 : decode cX5_copyFrom 38 = .ok (.aload_n 0, 1) := by decide +kernel
theorem dX5_copyFrom_39 : decode cX5_copyFrom 39 = .ok (.aload_n 1, 1) := by decide +kernel
theorem dX5_copyFrom_40 : decode cX5_copyFrom 40 = .ok (.getfield 29, 3) := by decide +kernel
theorem dX5_copyFrom_43 : decode cX5_copyFrom 43 = .ok (.putfield 29, 3) := by decide +kernel
theorem dX5_copyFrom_46 : decode cX5_copyFrom 46 = .ok (.aload_n 1, 1) := by decide +kernel
theorem dX5_copyFrom_47 : decode cX5_copyFrom 47 = .ok (.getfield 33, 3) := by decide +kernel
theorem dX5_copyFrom_50 : decode cX5_copyFrom 50 = .ok (.iconst 0, 1) := by decide +kernel
theorem dX5_copyFrom_51 : decode cX5_copyFrom 51 = .ok (.aload_n 0, 1) := by decide +kernel
theorem dX5_copyFrom_52 : decode cX5_copyFrom 52 = .ok (.getfield 33, 3) := by decide +kernel
theorem dX5_copyFrom_55 : decode cX5_copyFrom 55 = .ok (.iconst 0, 1) := by decide +kernel
theorem dX5_copyFrom_56 : decode cX5_copyFrom 56 = .ok (.bipush 20, 2) := by decide +kernel
theorem dX5_copyFrom_58 : decode cX5_copyFrom 58 = .ok (.invokestatic 50, 3) := by decide +kernel
theorem dX5_copyFrom_61 : decode cX5_copyFrom 61 = .ok (.aload_n 0, 1) := by decide +kernel
theorem dX5_copyFrom_62 : decode cX5_copyFrom 62 = .ok (.aload_n 1, 1) := by decide +kernel
theorem dX5_copyFrom_63 : decode cX5_copyFrom 63 = .ok (.getfield 56, 3) := by decide +kernel
theorem dX5_copyFrom_66 : decode cX5_copyFrom 66 = .ok (.putfield 56, 3) := by decide +kernel
theorem dX5_copyFrom_69 : decode cX5_copyFrom 69 = .ok (.aload_n 0, 1) := by decide +kernel
theorem dX5_copyFrom_70 : decode cX5_copyFrom 70 = .ok (.getfield 37, 3) := by decide +kernel
theorem dX5_copyFrom_73 : decode cX5_copyFrom 73 = .ok (.aload_n 1, 1) := by decide +kernel
theorem dX5_copyFrom_74 : decode cX5_copyFrom 74 = .ok (.getfield 37, 3) := by decide +kernel
theorem dX5_copyFrom_77 : decode cX5_copyFrom 77 = .ok (.invokevirtual 44, 3) := by decide +kernel
theorem dX5_copyFrom_80 : decode cX5_copyFrom 80 = .ok (.aload_n 0, 1) := by decide +kernel
theorem dX5_copyFrom_81 : decode cX5_copyFrom 81 = .ok (.aload_n 1, 1) := by decide +kernel
theorem dX5_copyFrom_82 : decode cX5_copyFrom 82 = .ok (.getfield 59, 3) := by decide +kernel
theorem dX5_copyFrom_85 : decode cX5_copyFrom 85 = .ok (.putfield 59, 3) := by decide +kernel
theorem dX5_copyFrom_88 : decode cX5_copyFrom 88 = .ok (.aload_n 0, 1) := by decide +kernel
theorem dX5_copyFrom_89 : decode cX5_copyFrom 89 = .ok (.aload_n 1, 1) := by decide +kernel
theorem dX5_copyFrom_90 : decode cX5_copyFrom 90 = .ok (.getfield 62, 3) := by decide +kernel
theorem dX5_copyFrom_93 : decode cX5_copyFrom 93 = .ok (.putfield 62, 3) := by decide +kernel
theorem dX5_copyFrom_96 : decode cX5_copyFrom 96 = .ok (.aload_n 0, 1) := by decide +kernel
theorem dX5_copyFrom_97 : decode cX5_copyFrom 97 = .ok (.aload_n 1, 1) := by decide +kernel
theorem dX5_copyFrom_98 : decode cX5_copyFrom 98 = .ok (.getfield 65, 3) := by decide +kernel
theorem dX5_copyFrom_101 : decode cX5_copyFrom 101 = .ok (.putfield 65, 3) := by decide +kernel
theorem dX5_copyFrom_104 : decode cX5_copyFrom 104 = .ok (.aload_n 0, 1) := by decide +kernel
theorem dX5_copyFrom_105 : decode cX5_copyFrom 105 = .ok (.aload_n 1, 1) := by decide +kernel
theorem dX5_copyFrom_106 : decode cX5_copyFrom 106 = .ok (.getfield 68, 3) := by decide +kernel
theorem dX5_copyFrom_109 : decode cX5_copyFrom 109 = .ok (.putfield 68, 3) := by decide +kernel
theorem dX5_copyFrom_112 : decode cX5_copyFrom 112 = .ok (.aload_n 0, 1) := by decide +kernel
theorem dX5_copyFrom_113 : decode cX5_copyFrom 113 = .ok (.aload_n 1, 1) := by decide +kernel
theorem dX5_copyFrom_114 : decode cX5_copyFrom 114 = .ok (.getfield 71, 3) := by decide +kernel
theorem dX5_copyFrom_117 : decode cX5_copyFrom 117 = .ok (.putfield 71, 3) := by decide +kernel
theorem dX5_copyFrom_120 : decode cX5_copyFrom 120 = .ok (.aload_n 0, 1) := by decide +kernel
theorem dX5_copyFrom_121 : decode cX5_copyFrom 121 = .ok (.aload_n 1, 1) := by decide +kernel
theorem dX5_copyFrom_122 : decode cX5_copyFrom 122 = .ok (.getfield 74, 3) := by decide +kernel
theorem dX5_copyFrom_125 : decode cX5_copyFrom 125 = .ok (.putfield 74, 3) := by decide +kernel
theorem dX5_copyFrom_128 : decode cX5_copyFrom 128 = .ok (.aload_n 0, 1) := by decide +kernel
theorem dX5_copyFrom_129 : decode cX5_copyFrom 129 = .ok (.aload_n 1, 1) := by decide +kernel
theorem dX5_copyFrom_130 : decode cX5_copyFrom 130 = .ok (.getfield 77, 3) := by decide +kernel
theorem dX5_copyFrom_133 : decode cX5_copyFrom 133 = .ok (.putfield 77, 3) := by decide +kernel
theorem dX5_copyFrom_136 : decode cX5_copyFrom 136 = .ok (.aload_n 0, 1) := by decide +kernel
theorem dX5_copyFrom_137 : decode cX5_copyFrom 137 = .ok (.aload_n 1, 1) := by decide +kernel
theorem dX5_copyFrom_138 : decode cX5_copyFrom 138 = .ok (.getfield 80, 3) := by decide +kernel
theorem dX5_copyFrom_141 : decode cX5_copyFrom 141 = .ok (.putfield 80, 3) := by decide +kernel
theorem dX5_copyFrom_144 : decode cX5_copyFrom 144 = .ok (.return_, 1) := by decide +kernel
theorem dX5_isInMemory_0 : decode cX5_isInMemory 0 = .ok (.iload_n 1, 1) := by decide +kernel
theorem dX5_isInMemory_1 : decode cX5_isInMemory 1 = .ok (.ifCond .lt 15, 3) := by decide +kernel
theorem dX5_isInMemory_4 : decode cX5_isInMemory 4 = .ok (.iload_n 1, 1) := by decide +kernel
theorem dX5_isInMemory_5 : decode cX5_isInMemory 5 = .ok (.aload_n 0, 1) := by decide +kernel
theorem dX5_isInMemory_6 : decode cX5_isInMemory 6 = .ok (.getfield 56, 3) := by decide +kernel
theorem dX5_isInMemory_9 : decode cX5_isInMemory 9 = .ok (.if_icmp .ge 7, 3) := by decide +kernel
theorem dX5_isInMemory_12 : decode cX5_isInMemory 12 = .ok (.iconst 1, 1) := by decide +kernel
theorem dX5_isInMemory_13 : decode cX5_isInMemory 13 = .ok (.goto 4, 3) := by decide +kernel
theorem dX5_isInMemory_16 : decode cX5_isInMemory 16 = .ok (.iconst 0, 1) := by decide +kernel
theorem dX5_isInMemory_17 : decode cX5_isInMemory 17 = .ok (.ireturn, 1) := by decide +kernel
theorem dX5_memoryRowAt_0 : decode cX5_memoryRowAt 0 = .ok (.iload_n 1, 1) := by decide +kernel
theorem dX5_memoryRowAt_1 : decode cX5_memoryRowAt 1 = .ok (.ifCond .lt 18, 3) := by decide +kernel
theorem dX5_memoryRowAt_4 : decode cX5_memoryRowAt 4 = .ok (.iload_n 1, 1) := by decide +kernel
theorem dX5_memoryRowAt_5 : decode cX5_memoryRowAt 5 = .ok (.bipush 20, 2) := by decide +kernel
theorem dX5_memoryRowAt_7 : decode cX5_memoryRowAt 7 = .ok (.if_icmp .ge 12, 3) := by decide +kernel
theorem dX5_memoryRowAt_10 : decode cX5_memoryRowAt 10 = .ok (.aload_n 0, 1) := by decide +kernel
theorem dX5_memoryRowAt_11 : decode cX5_memoryRowAt 11 = .ok (.getfield 33, 3) := by decide +kernel
theorem dX5_memoryRowAt_14 : decode cX5_memoryRowAt 14 = .ok (.iload_n 1, 1) := by decide +kernel
theorem dX5_memoryRowAt_15 : decode cX5_memoryRowAt 15 = .ok (.iaload, 1) := by decide +kernel
theorem dX5_memoryRowAt_16 : decode cX5_memoryRowAt 16 = .ok (.goto 4, 3) := by decide +kernel
theorem dX5_memoryRowAt_19 : decode cX5_memoryRowAt 19 = .ok (.iconst (-1), 1) := by decide +kernel
theorem dX5_memoryRowAt_20 : decode cX5_memoryRowAt 20 = .ok (.ireturn, 1) := by decide +kernel
theorem dX5_hasMerge_0 : decode cX5_hasMerge 0 = .ok (.aload_n 0, 1) := by decide +kernel
theorem dX5_hasMerge_1 : decode cX5_hasMerge 1 = .ok (.getfield 37, 3) := by decide +kernel
theorem dX5_hasMerge_4 : decode cX5_hasMerge 4 = .ok (.getfield 83, 3) := by decide +kernel
theorem dX5_hasMerge_7 : decode cX5_hasMerge 7 = .ok (.ifCond .le 7, 3) := by decide +kernel
theorem dX5_hasMerge_10 : decode cX5_hasMerge 10 = .ok (.iconst 1, 1) := by decide +kernel
theorem dX5_hasMerge_11 : decode cX5_hasMerge 11 = .ok (.goto 4, 3) := by decide +kernel
theorem dX5_hasMerge_14 : decode cX5_hasMerge 14 = .ok (.iconst 0, 1) := by decide +kernel
theorem dX5_hasMerge_15 : decode cX5_hasMerge 15 = .ok (.ireturn, 1) := by decide +kernel
set_option maxRecDepth 20000 in
theorem ggX5_isSorted_X5_hasMerge : GoodIn wsX5_isSorted wsX5_hasMerge := goodIn_r _ [8, 9, 3, 10, 11, 12, 13, 14, 15, 16, 17, 18, 19, 20, 21, 22, 23, 24, 25, 26, 27, 28, 29] (by decide +kernel) (by decide +kernel)
set_option maxRecDepth 20000 in
theorem gX5_isSorted_X5_hasMerge : GoodIn wsX5_isSorted (wsV RX5 86 RX5 yX5_hasMerge wsX5_hasMerge) := goodIn_app (goodIn_of _ (by decide +kernel)) ggX5_isSorted_X5_hasMerge
theorem dX5_isSorted_0 : decode cX5_isSorted 0 = .ok (.aload_n 0, 1) := by decide +kernel
theorem dX5_isSorted_1 : decode cX5_isSorted 1 = .ok (.getfield 25, 3) := by decide +kernel
theorem dX5_isSorted_4 : decode cX5_isSorted 4 = .ok (.ifCond .ne 25, 3) := by decide +kernel
theorem dX5_isSorted_7 : decode cX5_isSorted 7 = .ok (.aload_n 0, 1) := by decide +kernel
theorem dX5_isSorted_8 : decode cX5_isSorted 8 = .ok (.invokevirtual 86, 3) := by decide +kernel
theorem dX5_isSorted_11 : decode cX5_isSorted 11 = .ok (.ifCond .ne 18, 3) := by decide +kernel
theorem dX5_isSorted_14 : decode cX5_isSorted 14 = .ok (.aload_n 0, 1) := by decide +kernel
theorem dX5_isSorted_15 : decode cX5_isSorted 15 = .ok (.getfield 21, 3) := by decide +kernel
theorem dX5_isSorted_18 : decode cX5_isSorted 18 = .ok (.getfield 83, 3) := by decide +kernel
theorem dX5_isSorted_21 : decode cX5_isSorted 21 = .ok (.iconst 1, 1) := by decide +kernel
theorem dX5_isSorted_22 : decode cX5_isSorted 22 = .ok (.if_icmp .gt 7, 3) := by decide +kernel
theorem dX5_isSorted_25 : decode cX5_isSorted 25 = .ok (.iconst 1, 1) := by decide +kernel
theorem dX5_isSorted_26 : decode cX5_isSorted 26 = .ok (.goto 4, 3) := by decide +kernel
theorem dX5_isSorted_29 : decode cX5_isSorted 29 = .ok (.iconst 0, 1) := by decide +kernel
theorem dX5_isSorted_30 : decode cX5_isSorted 30 = .ok (.ireturn, 1) := by decide +kernel
theorem dX5_ways_0 : decode cX5_ways 0 = .ok (.aload_n 0, 1) := by decide +kernel
theorem dX5_ways_1 : decode cX5_ways 1 = .ok (.getfield 29, 3) := by decide +kernel
theorem dX5_ways_4 : decode cX5_ways 4 = .ok (.iconst 1, 1) := by decide +kernel
theorem dX5_ways_5 : decode cX5_ways 5 = .ok (.isub, 1) := by decide +kernel
theorem dX5_ways_6 : decode cX5_ways 6 = .ok (.bipush 8, 2) := by decide +kernel
theorem dX5_ways_8 : decode cX5_ways 8 = .ok (.invokestatic 90, 3) := by decide +kernel
theorem dX5_ways_11 : decode cX5_ways 11 = .ok (.ireturn, 1) := by decide +kernel
set_option maxRecDepth 20000 in
theorem ggX5_memoryInUse_X5_hasMerge : GoodIn wsX5_memoryInUse wsX5_hasMerge := goodIn_r _ [9, 3, 4, 10, 11, 12, 13, 14, 15, 16, 17, 18, 19, 20, 21, 22, 23, 24, 25, 26, 27, 28, 29] (by decide +kernel) (by decide +kernel)
set_option maxRecDepth 20000 in
theorem gX5_memoryInUse_X5_hasMerge : GoodIn wsX5_memoryInUse (wsV RX5 86 RX5 yX5_hasMerge wsX5_hasMerge) := goodIn_app (goodIn_of _ (by decide +kernel)) ggX5_memoryInUse_X5_hasMerge
theorem dX5_memoryInUse_0 : decode cX5_memoryInUse 0 = .ok (.aload_n 0, 1) := by decide +kernel
theorem dX5_memoryInUse_1 : decode cX5_memoryInUse 1 = .ok (.getfield 25, 3) := by decide +kernel
theorem dX5_memoryInUse_4 : decode cX5_memoryInUse 4 = .ok (.ifCond .eq 8, 3) := by decide +kernel
theorem dX5_memoryInUse_7 : decode cX5_memoryInUse 7 = .ok (.aload_n 0, 1) := by decide +kernel
theorem dX5_memoryInUse_8 : decode cX5_memoryInUse 8 = .ok (.getfield 56, 3) := by decide +kernel
theorem dX5_memoryInUse_11 : decode cX5_memoryInUse 11 = .ok (.ireturn, 1) := by decide +kernel
theorem dX5_memoryInUse_12 : decode cX5_memoryInUse 12 = .ok (.aload_n 0, 1) := by decide +kernel
theorem dX5_memoryInUse_13 : decode cX5_memoryInUse 13 = .ok (.invokevirtual 86, 3) := by decide +kernel
theorem dX5_memoryInUse_16 : decode cX5_memoryInUse 16 = .ok (.ifCond .eq 15, 3) := by decide +kernel
theorem dX5_memoryInUse_19 : decode cX5_memoryInUse 19 = .ok (.aload_n 0, 1) := by decide +kernel
theorem dX5_memoryInUse_20 : decode cX5_memoryInUse 20 = .ok (.getfield 37, 3) := by decide +kernel
theorem dX5_memoryInUse_23 : decode cX5_memoryInUse 23 = .ok (.getfield 83, 3) := by decide +kernel
theorem dX5_memoryInUse_26 : decode cX5_memoryInUse 26 = .ok (.iconst 1, 1) := by decide +kernel
theorem dX5_memoryInUse_27 : decode cX5_memoryInUse 27 = .ok (.iadd, 1) := by decide +kernel
theorem dX5_memoryInUse_28 : decode cX5_memoryInUse 28 = .ok (.goto 4, 3) := by decide +kernel
theorem dX5_memoryInUse_31 : decode cX5_memoryInUse 31 = .ok (.iconst 0, 1) := by decide +kernel
theorem dX5_memoryInUse_32 : decode cX5_memoryInUse 32 = .ok (.ireturn, 1) := by decide +kernel
set_option maxRecDepth 20000 in
theorem ggX5_rowOfRun_X4_placeOf : GoodIn wsX5_rowOfRun wsX4_placeOf := goodIn_r _ [7, 8, 9, 10, 11, 6, 12, 13, 50, 51, 52, 53] (by decide +kernel) (by decide +kernel)
set_option maxRecDepth 20000 in
theorem gX5_rowOfRun_X4_placeOf : GoodIn wsX5_rowOfRun (wsV RX5 96 RX4 yX4_placeOf wsX4_placeOf) := goodIn_app (goodIn_of _ (by decide +kernel)) ggX5_rowOfRun_X4_placeOf
set_option maxRecDepth 20000 in
theorem ggX5_rowOfRun_X4_lengthAt : GoodIn wsX5_rowOfRun wsX4_lengthAt := goodIn_r _ [17, 18, 50, 51, 52, 53] (by decide +kernel) (by decide +kernel)
set_option maxRecDepth 20000 in
theorem gX5_rowOfRun_X4_lengthAt : GoodIn wsX5_rowOfRun (wsV RX5 100 RX4 yX4_lengthAt wsX4_lengthAt) := goodIn_app (goodIn_of _ (by decide +kernel)) ggX5_rowOfRun_X4_lengthAt
set_option maxRecDepth 20000 in
theorem ggX5_rowOfRun_X4_firstAt : GoodIn wsX5_rowOfRun wsX4_firstAt := goodIn_r _ [22, 23, 50, 51, 52, 53] (by decide +kernel) (by decide +kernel)
set_option maxRecDepth 20000 in
theorem gX5_rowOfRun_X4_firstAt : GoodIn wsX5_rowOfRun (wsV RX5 103 RX4 yX4_firstAt wsX4_firstAt) := goodIn_app (goodIn_of _ (by decide +kernel)) ggX5_rowOfRun_X4_firstAt
set_option maxRecDepth 20000 in
theorem ggX5_rowOfRun_X3_rowBehind : GoodIn wsX5_rowOfRun wsX3_rowBehind := goodIn_r _ [28, 29, 30, 31, 27, 32, 33, 54, 55, 56, 57] (by decide +kernel) (by decide +kernel)
set_option maxRecDepth 20000 in
theorem gX5_rowOfRun_X3_rowBehind : GoodIn wsX5_rowOfRun (wsV RX5 106 RX3 yX3_rowBehind wsX3_rowBehind) := goodIn_app (goodIn_of _ (by decide +kernel)) ggX5_rowOfRun_X3_rowBehind
theorem dX5_rowOfRun_0 : decode cX5_rowOfRun 0 = .ok (.aload_n 0, 1) := by decide +kernel
theorem dX5_rowOfRun_1 : decode cX5_rowOfRun 1 = .ok (.getfield 21, 3) := by decide +kernel
theorem dX5_rowOfRun_4 : decode cX5_rowOfRun 4 = .ok (.iload_n 1, 1) := by decide +kernel
theorem dX5_rowOfRun_5 : decode cX5_rowOfRun 5 = .ok (.invokevirtual 96, 3) := by decide +kernel
theorem dX5_rowOfRun_8 : decode cX5_rowOfRun 8 = .ok (.istore_n 3, 1) := by decide +kernel
theorem dX5_rowOfRun_9 : decode cX5_rowOfRun 9 = .ok (.iload_n 2, 1) := by decide +kernel
theorem dX5_rowOfRun_10 : decode cX5_rowOfRun 10 = .ok (.ifCond .lt 15, 3) := by decide +kernel
theorem dX5_rowOfRun_13 : decode cX5_rowOfRun 13 = .ok (.iload_n 2, 1) := by decide +kernel
theorem dX5_rowOfRun_14 : decode cX5_rowOfRun 14 = .ok (.aload_n 0, 1) := by decide +kernel
theorem dX5_rowOfRun_15 : decode cX5_rowOfRun 15 = .ok (.getfield 21, 3) := by decide +kernel
theorem dX5_rowOfRun_18 : decode cX5_rowOfRun 18 = .ok (.iload_n 3, 1) := by decide +kernel
theorem dX5_rowOfRun_19 : decode cX5_rowOfRun 19 = .ok (.invokevirtual 100, 3) := by decide +kernel
theorem dX5_rowOfRun_22 : decode cX5_rowOfRun 22 = .ok (.if_icmp .lt 5, 3) := by decide +kernel
theorem dX5_rowOfRun_25 : decode cX5_rowOfRun 25 = .ok (.iconst (-1), 1) := by decide +kernel
theorem dX5_rowOfRun_26 : decode cX5_rowOfRun 26 = .ok (.ireturn, 1) := by decide +kernel
theorem dX5_rowOfRun_27 : decode cX5_rowOfRun 27 = .ok (.aload_n 0, 1) := by decide +kernel
theorem dX5_rowOfRun_28 : decode cX5_rowOfRun 28 = .ok (.getfield 12, 3) := by decide +kernel
theorem dX5_rowOfRun_31 : decode cX5_rowOfRun 31 = .ok (.aload_n 0, 1) := by decide +kernel
theorem dX5_rowOfRun_32 : decode cX5_rowOfRun 32 = .ok (.getfield 21, 3) := by decide +kernel
theorem dX5_rowOfRun_35 : decode cX5_rowOfRun 35 = .ok (.iload_n 3, 1) := by decide +kernel
theorem dX5_rowOfRun_36 : decode cX5_rowOfRun 36 = .ok (.invokevirtual 103, 3) := by decide +kernel
theorem dX5_rowOfRun_39 : decode cX5_rowOfRun 39 = .ok (.iload_n 2, 1) := by decide +kernel
theorem dX5_rowOfRun_40 : decode cX5_rowOfRun 40 = .ok (.invokevirtual 106, 3) := by decide +kernel
theorem dX5_rowOfRun_43 : decode cX5_rowOfRun 43 = .ok (.ireturn, 1) := by decide +kernel
set_option maxRecDepth 20000 in
theorem ggX5_collect_X5_rowInMemoryWith : GoodIn wsX5_collect wsX5_rowInMemoryWith := goodIn_r _ [9, 3, 2, 10, 11, 12, 8, 13, 14, 15, 16, 17, 18, 19, 20, 76, 77, 78, 79, 80, 81, 82, 83, 84, 85, 86, 87, 88, 89, 90, 91, 92, 93, 94, 95] (by decide +kernel) (by decide +kernel)
set_option maxRecDepth 20000 in
theorem gX5_collect_X5_rowInMemoryWith : GoodIn wsX5_collect (wsV RX5 109 RX5 yX5_rowInMemoryWith wsX5_rowInMemoryWith) := goodIn_app (goodIn_of _ (by decide +kernel)) ggX5_collect_X5_rowInMemoryWith
set_option maxRecDepth 20000 in
theorem ggX5_collect_X3_put : GoodIn wsX5_collect wsX3_put := goodIn_r _ [24, 25, 20, 26, 27, 28, 29, 30, 18, 31, 92, 93, 94, 95] (by decide +kernel) (by decide +kernel)
set_option maxRecDepth 20000 in
theorem gX5_collect_X3_put : GoodIn wsX5_collect (wsV RX5 112 RX3 yX3_put wsX3_put) := goodIn_app (goodIn_of _ (by decide +kernel)) ggX5_collect_X3_put
set_option maxRecDepth 20000 in
theorem ggX5_collect_X3_has : GoodIn wsX5_collect wsX3_has := goodIn_r _ [35, 25, 92, 93, 94, 95] (by decide +kernel) (by decide +kernel)
set_option maxRecDepth 20000 in
theorem gX5_collect_X3_has : GoodIn wsX5_collect (wsV RX5 115 RX3 yX3_has wsX3_has) := goodIn_app (goodIn_of _ (by decide +kernel)) ggX5_collect_X3_has
set_option maxRecDepth 20000 in
theorem ggX5_collect_X3_absorb : GoodIn wsX5_collect wsX3_absorb := goodIn_r _ [39, 26, 92, 93, 94, 95] (by decide +kernel) (by decide +kernel)
set_option maxRecDepth 20000 in
theorem gX5_collect_X3_absorb : GoodIn wsX5_collect (wsV RX5 119 RX3 yX3_absorb wsX3_absorb) := goodIn_app (goodIn_of _ (by decide +kernel)) ggX5_collect_X3_absorb
set_option maxRecDepth 20000 in
theorem ggX5_collect_X5_writeMemory : GoodIn wsX5_collect wsX5_writeMemory := goodIn_r _ [43, 3, 2, 44, 45, 46, 47, 8, 48, 10, 11, 12, 13, 14, 49, 50, 51, 18, 52, 20, 53, 54, 55, 56, 57, 58, 59, 60, 27, 61, 62, 63, 64, 65, 66, 67, 68, 69, 70, 71, 72, 73, 74, 75, 76, 77, 78, 79, 80, 81, 82, 83, 84, 85, 86, 87, 88, 89, 90, 91, 92, 93, 94, 95, 96, 97, 98, 99] (by decide +kernel) (by decide +kernel)
set_option maxRecDepth 20000 in
theorem gX5_collect_X5_writeMemory : GoodIn wsX5_collect (wsV RX5 123 RX5 yX5_writeMemory wsX5_writeMemory) := goodIn_app (goodIn_of _ (by decide +kernel)) ggX5_collect_X5_writeMemory
set_option maxRecDepth 20000 in
theorem ggX5_collect_X5_placeInMemory : GoodIn wsX5_collect wsX5_placeInMemory := goodIn_r _ [56, 14, 76, 77, 78, 79, 80, 81, 82, 83, 84, 85, 86, 87, 88, 89, 90, 91] (by decide +kernel) (by decide +kernel)
set_option maxRecDepth 20000 in
theorem gX5_collect_X5_placeInMemory : GoodIn wsX5_collect (wsV RX5 127 RX5 yX5_placeInMemory wsX5_placeInMemory) := goodIn_app (goodIn_of _ (by decide +kernel)) ggX5_collect_X5_placeInMemory
theorem dX5_collect_0 : decode cX5_collect 0 = .ok (.aload_n 0, 1) := by decide +kernel
theorem dX5_collect_1 : decode cX5_collect 1 = .ok (.getfield 47, 3) := by decide +kernel
theorem dX5_collect_4 : decode cX5_collect 4 = .ok (.ifCond .eq 11, 3) := by decide +kernel
theorem dX5_collect_7 : decode cX5_collect 7 = .ok (.aload_n 0, 1) := by decide +kernel
theorem dX5_collect_8 : decode cX5_collect 8 = .ok (.iload_n 1, 1) := by decide +kernel
theorem dX5_collect_9 : decode cX5_collect 9 = .ok (.invokevirtual 109, 3) := by decide +kernel
theorem dX5_collect_12 : decode cX5_collect 12 = .ok (.goto 4, 3) := by decide +kernel
theorem dX5_collect_15 : decode cX5_collect 15 = .ok (.iconst (-1), 1) := by decide +kernel
theorem dX5_collect_16 : decode cX5_collect 16 = .ok (.istore_n 2, 1) := by decide +kernel
theorem dX5_collect_17 : decode cX5_collect 17 = .ok (.aload_n 0, 1) := by decide +kernel
theorem dX5_collect_18 : decode cX5_collect 18 = .ok (.getfield 12, 3) := by decide +kernel
theorem dX5_collect_21 : decode cX5_collect 21 = .ok (.iload_n 1, 1) := by decide +kernel
theorem dX5_collect_22 : decode cX5_collect 22 = .ok (.invokevirtual 112, 3) := by decide +kernel
theorem dX5_collect_25 : decode cX5_collect 25 = .ok (.istore_n 3, 1) := by decide +kernel
theorem dX5_collect_26 : decode cX5_collect 26 = .ok (.aload_n 0, 1) := by decide +kernel
theorem dX5_collect_27 : decode cX5_collect 27 = .ok (.getfield 12, 3) := by decide +kernel
theorem dX5_collect_30 : decode cX5_collect 30 = .ok (.iload_n 2, 1) := by decide +kernel
theorem dX5_collect_31 : decode cX5_collect 31 = .ok (.invokevirtual 115, 3) := by decide +kernel
theorem dX5_collect_34 : decode cX5_collect 34 = .ok (.ifCond .eq 14, 3) := by decide +kernel
theorem dX5_collect_37 : decode cX5_collect 37 = .ok (.aload_n 0, 1) := by decide +kernel
theorem dX5_collect_38 : decode cX5_collect 38 = .ok (.getfield 12, 3) := by decide +kernel
theorem dX5_collect_41 : decode cX5_collect 41 = .ok (.iload_n 2, 1) := by decide +kernel
theorem dX5_collect_42 : decode cX5_collect 42 = .ok (.iload_n 3, 1) := by decide +kernel
theorem dX5_collect_43 : decode cX5_collect 43 = .ok (.invokevirtual 119, 3) := by decide +kernel
theorem dX5_collect_46 : decode cX5_collect 46 = .ok (.iload_n 3, 1) := by decide +kernel
theorem dX5_collect_47 : decode cX5_collect 47 = .ok (.ireturn, 1) := by decide +kernel
theorem dX5_collect_48 : decode cX5_collect 48 = .ok (.aload_n 0, 1) := by decide +kernel
theorem dX5_collect_49 : decode cX5_collect 49 = .ok (.getfield 56, 3) := by decide +kernel
theorem dX5_collect_52 : decode cX5_collect 52 = .ok (.aload_n 0, 1) := by decide +kernel
theorem dX5_collect_53 : decode cX5_collect 53 = .ok (.getfield 29, 3) := by decide +kernel
theorem dX5_collect_56 : decode cX5_collect 56 = .ok (.if_icmp .lt 8, 3) := by decide +kernel
theorem dX5_collect_59 : decode cX5_collect 59 = .ok (.aload_n 0, 1) := by decide +kernel
theorem dX5_collect_60 : decode cX5_collect 60 = .ok (.invokevirtual 123, 3) := by decide +kernel
theorem dX5_collect_63 : decode cX5_collect 63 = .ok (.pop, 1) := by decide +kernel
theorem dX5_collect_64 : decode cX5_collect 64 = .ok (.aload_n 0, 1) := by decide +kernel
theorem dX5_collect_65 : decode cX5_collect 65 = .ok (.aload_n 0, 1) := by decide +kernel
theorem dX5_collect_66 : decode cX5_collect 66 = .ok (.getfield 56, 3) := by decide +kernel
theorem dX5_collect_69 : decode cX5_collect 69 = .ok (.iload_n 3, 1) := by decide +kernel
theorem dX5_collect_70 : decode cX5_collect 70 = .ok (.invokevirtual 127, 3) := by decide +kernel
theorem dX5_collect_73 : decode cX5_collect 73 = .ok (.aload_n 0, 1) := by decide +kernel
theorem dX5_collect_74 : decode cX5_collect 74 = .ok (.dup, 1) := by decide +kernel
theorem dX5_collect_75 : decode cX5_collect 75 = .ok (.getfield 56, 3) := by decide +kernel
theorem dX5_collect_78 : decode cX5_collect 78 = .ok (.iconst 1, 1) := by decide +kernel
theorem dX5_collect_79 : decode cX5_collect 79 = .ok (.iadd, 1) := by decide +kernel
theorem dX5_collect_80 : decode cX5_collect 80 = .ok (.putfield 56, 3) := by decide +kernel
theorem dX5_collect_83 : decode cX5_collect 83 = .ok (.iload_n 3, 1) := by decide +kernel
theorem dX5_collect_84 : decode cX5_collect 84 = .ok (.ireturn, 1) := by decide +kernel
set_option maxRecDepth 20000 in
theorem ggX5_rowInMemoryWith_X5_memoryRowAt : GoodIn wsX5_rowInMemoryWith wsX5_memoryRowAt := goodIn_r _ [7, 8, 15, 16, 17, 18, 19, 20, 21, 22, 23, 24, 25, 26, 27, 28, 29, 30] (by decide +kernel) (by decide +kernel)
set_option maxRecDepth 20000 in
theorem gX5_rowInMemoryWith_X5_memoryRowAt : GoodIn wsX5_rowInMemoryWith (wsV RX5 130 RX5 yX5_memoryRowAt wsX5_memoryRowAt) := goodIn_app (goodIn_of _ (by decide +kernel)) ggX5_rowInMemoryWith_X5_memoryRowAt
set_option maxRecDepth 20000 in
theorem ggX5_rowInMemoryWith_X3_keyOf : GoodIn wsX5_rowInMemoryWith wsX3_keyOf := goodIn_r _ [13, 14, 31, 32, 33, 34] (by decide +kernel) (by decide +kernel)
set_option maxRecDepth 20000 in
theorem gX5_rowInMemoryWith_X3_keyOf : GoodIn wsX5_rowInMemoryWith (wsV RX5 133 RX3 yX3_keyOf wsX3_keyOf) := goodIn_app (goodIn_of _ (by decide +kernel)) ggX5_rowInMemoryWith_X3_keyOf
theorem dX5_rowInMemoryWith_0 : decode cX5_rowInMemoryWith 0 = .ok (.iconst 0, 1) := by decide +kernel
theorem dX5_rowInMemoryWith_1 : decode cX5_rowInMemoryWith 1 = .ok (.istore_n 2, 1) := by decide +kernel
theorem dX5_rowInMemoryWith_2 : decode cX5_rowInMemoryWith 2 = .ok (.iload_n 2, 1) := by decide +kernel
theorem dX5_rowInMemoryWith_3 : decode cX5_rowInMemoryWith 3 = .ok (.aload_n 0, 1) := by decide +kernel
theorem dX5_rowInMemoryWith_4 : decode cX5_rowInMemoryWith 4 = .ok (.getfield 56, 3) := by decide +kernel
theorem dX5_rowInMemoryWith_7 : decode cX5_rowInMemoryWith 7 = .ok (.if_icmp .ge 29, 3) := by decide +kernel
theorem dX5_rowInMemoryWith_10 : decode cX5_rowInMemoryWith 10 = .ok (.aload_n 0, 1) := by decide +kernel
theorem dX5_rowInMemoryWith_11 : decode cX5_rowInMemoryWith 11 = .ok (.iload_n 2, 1) := by decide +kernel
theorem dX5_rowInMemoryWith_12 : decode cX5_rowInMemoryWith 12 = .ok (.invokevirtual 130, 3) := by decide +kernel
theorem dX5_rowInMemoryWith_15 : decode cX5_rowInMemoryWith 15 = .ok (.istore_n 3, 1) := by decide +kernel
theorem dX5_rowInMemoryWith_16 : decode cX5_rowInMemoryWith 16 = .ok (.aload_n 0, 1) := by decide +kernel
theorem dX5_rowInMemoryWith_17 : decode cX5_rowInMemoryWith 17 = .ok (.getfield 12, 3) := by decide +kernel
theorem dX5_rowInMemoryWith_20 : decode cX5_rowInMemoryWith 20 = .ok (.iload_n 3, 1) := by decide +kernel
theorem dX5_rowInMemoryWith_21 : decode cX5_rowInMemoryWith 21 = .ok (.invokevirtual 133, 3) := by decide +kernel
theorem dX5_rowInMemoryWith_24 : decode cX5_rowInMemoryWith 24 = .ok (.iload_n 1, 1) := by decide +kernel
theorem dX5_rowInMemoryWith_25 : decode cX5_rowInMemoryWith 25 = .ok (.if_icmp .ne 5, 3) := by decide +kernel
theorem dX5_rowInMemoryWith_28 : decode cX5_rowInMemoryWith 28 = .ok (.iload_n 3, 1) := by decide +kernel
theorem dX5_rowInMemoryWith_29 : decode cX5_rowInMemoryWith 29 = .ok (.ireturn, 1) := by decide +kernel
theorem dX5_rowInMemoryWith_30 : decode cX5_rowInMemoryWith 30 = .ok (.iinc 2 1, 3) := by decide +kernel
theorem dX5_rowInMemoryWith_33 : decode cX5_rowInMemoryWith 33 = .ok (.goto (-31), 3) := by decide +kernel
theorem dX5_rowInMemoryWith_36 : decode cX5_rowInMemoryWith 36 = .ok (.iconst (-1), 1) := by decide +kernel
theorem dX5_rowInMemoryWith_37 : decode cX5_rowInMemoryWith 37 = .ok (.ireturn, 1) := by decide +kernel
set_option maxRecDepth 20000 in
theorem ggX5_writeMemory_X5_sortMemory : GoodIn wsX5_writeMemory wsX5_sortMemory := goodIn_r _ [8, 1, 2, 9, 10, 11, 7, 12, 13, 14, 15, 16, 17, 18, 19, 20, 21, 22, 23, 44, 45, 46, 47, 48, 49, 50, 51, 52, 53, 54, 55, 56, 57, 58, 59, 60, 61, 62, 63] (by decide +kernel) (by decide +kernel)
set_option maxRecDepth 20000 in
theorem gX5_writeMemory_X5_sortMemory : GoodIn wsX5_writeMemory (wsV RX5 136 RX5 yX5_sortMemory wsX5_sortMemory) := goodIn_app (goodIn_of _ (by decide +kernel)) ggX5_writeMemory_X5_sortMemory
set_option maxRecDepth 20000 in
theorem ggX5_writeMemory_X5_memoryRowAt : GoodIn wsX5_writeMemory wsX5_memoryRowAt := goodIn_r _ [12, 13, 44, 45, 46, 47, 48, 49, 50, 51, 52, 53, 54, 55, 56, 57, 58, 59] (by decide +kernel) (by decide +kernel)
set_option maxRecDepth 20000 in
theorem gX5_writeMemory_X5_memoryRowAt : GoodIn wsX5_writeMemory (wsV RX5 130 RX5 yX5_memoryRowAt wsX5_memoryRowAt) := goodIn_app (goodIn_of _ (by decide +kernel)) ggX5_writeMemory_X5_memoryRowAt
set_option maxRecDepth 20000 in
theorem ggX5_writeMemory_X3_link : GoodIn wsX5_writeMemory wsX3_link := goodIn_r _ [27, 28, 60, 61, 62, 63] (by decide +kernel) (by decide +kernel)
set_option maxRecDepth 20000 in
theorem gX5_writeMemory_X3_link : GoodIn wsX5_writeMemory (wsV RX5 139 RX3 yX3_link wsX3_link) := goodIn_app (goodIn_of _ (by decide +kernel)) ggX5_writeMemory_X3_link
set_option maxRecDepth 20000 in
theorem ggX5_writeMemory_X5_makeRun : GoodIn wsX5_writeMemory wsX5_makeRun := goodIn_r _ [32, 33, 34, 35, 36, 37, 38, 39, 40, 41, 42, 43, 44, 45, 46, 47, 48, 49, 50, 51, 52, 53, 54, 55, 56, 57, 58, 59, 64, 65, 66, 67] (by decide +kernel) (by decide +kernel)
set_option maxRecDepth 20000 in
theorem gX5_writeMemory_X5_makeRun : GoodIn wsX5_writeMemory (wsV RX5 142 RX5 yX5_makeRun wsX5_makeRun) := goodIn_app (goodIn_of _ (by decide +kernel)) ggX5_writeMemory_X5_makeRun
theorem dX5_writeMemory_0 : decode cX5_writeMemory 0 = .ok (.aload_n 0, 1) := by decide +kernel
theorem dX5_writeMemory_1 : decode cX5_writeMemory 1 = .ok (.getfield 56, 3) := by decide +kernel
theorem dX5_writeMemory_4 : decode cX5_writeMemory 4 = .ok (.ifCond .gt 6, 3) := by decide +kernel
theorem dX5_writeMemory_7 : decode cX5_writeMemory 7 = .ok (.bipush (-6), 2) := by decide +kernel
theorem dX5_writeMemory_9 : decode cX5_writeMemory 9 = .ok (.ireturn, 1) := by decide +kernel
theorem dX5_writeMemory_10 : decode cX5_writeMemory 10 = .ok (.aload_n 0, 1) := by decide +kernel
theorem dX5_writeMemory_11 : decode cX5_writeMemory 11 = .ok (.invokevirtual 136, 3) := by decide +kernel
theorem dX5_writeMemory_14 : decode cX5_writeMemory 14 = .ok (.iconst 1, 1) := by decide +kernel
theorem dX5_writeMemory_15 : decode cX5_writeMemory 15 = .ok (.istore_n 1, 1) := by decide +kernel
theorem dX5_writeMemory_16 : decode cX5_writeMemory 16 = .ok (.iload_n 1, 1) := by decide +kernel
theorem dX5_writeMemory_17 : decode cX5_writeMemory 17 = .ok (.aload_n 0, 1) := by decide +kernel
theorem dX5_writeMemory_18 : decode cX5_writeMemory 18 = .ok (.getfield 56, 3) := by decide +kernel
theorem dX5_writeMemory_21 : decode cX5_writeMemory 21 = .ok (.if_icmp .ge 28, 3) := by decide +kernel
theorem dX5_writeMemory_24 : decode cX5_writeMemory 24 = .ok (.aload_n 0, 1) := by decide +kernel
theorem dX5_writeMemory_25 : decode cX5_writeMemory 25 = .ok (.getfield 12, 3) := by decide +kernel
theorem dX5_writeMemory_28 : decode cX5_writeMemory 28 = .ok (.aload_n 0, 1) := by decide +kernel
theorem dX5_writeMemory_29 : decode cX5_writeMemory 29 = .ok (.iload_n 1, 1) := by decide +kernel
theorem dX5_writeMemory_30 : decode cX5_writeMemory 30 = .ok (.iconst 1, 1) := by decide +kernel
theorem dX5_writeMemory_31 : decode cX5_writeMemory 31 = .ok (.isub, 1) := by decide +kernel
theorem dX5_writeMemory_32 : decode cX5_writeMemory 32 = .ok (.invokevirtual 130, 3) := by decide +kernel
theorem dX5_writeMemory_35 : decode cX5_writeMemory 35 = .ok (.aload_n 0, 1) := by decide +kernel
theorem dX5_writeMemory_36 : decode cX5_writeMemory 36 = .ok (.iload_n 1, 1) := by decide +kernel
theorem dX5_writeMemory_37 : decode cX5_writeMemory 37 = .ok (.invokevirtual 130, 3) := by decide +kernel
theorem dX5_writeMemory_40 : decode cX5_writeMemory 40 = .ok (.invokevirtual 139, 3) := by decide +kernel
theorem dX5_writeMemory_43 : decode cX5_writeMemory 43 = .ok (.iinc 1 1, 3) := by decide +kernel
theorem dX5_writeMemory_46 : decode cX5_writeMemory 46 = .ok (.goto (-30), 3) := by decide +kernel
theorem dX5_writeMemory_49 : decode cX5_writeMemory 49 = .ok (.aload_n 0, 1) := by decide +kernel
theorem dX5_writeMemory_50 : decode cX5_writeMemory 50 = .ok (.dup, 1) := by decide +kernel
theorem dX5_writeMemory_51 : decode cX5_writeMemory 51 = .ok (.getfield 71, 3) := by decide +kernel
theorem dX5_writeMemory_54 : decode cX5_writeMemory 54 = .ok (.aload_n 0, 1) := by decide +kernel
theorem dX5_writeMemory_55 : decode cX5_writeMemory 55 = .ok (.getfield 56, 3) := by decide +kernel
theorem dX5_writeMemory_58 : decode cX5_writeMemory 58 = .ok (.iadd, 1) := by decide +kernel
theorem dX5_writeMemory_59 : decode cX5_writeMemory 59 = .ok (.putfield 71, 3) := by decide +kernel
theorem dX5_writeMemory_62 : decode cX5_writeMemory 62 = .ok (.aload_n 0, 1) := by decide +kernel
theorem dX5_writeMemory_63 : decode cX5_writeMemory 63 = .ok (.aload_n 0, 1) := by decide +kernel
theorem dX5_writeMemory_64 : decode cX5_writeMemory 64 = .ok (.iconst 0, 1) := by decide +kernel
theorem dX5_writeMemory_65 : decode cX5_writeMemory 65 = .ok (.invokevirtual 130, 3) := by decide +kernel
theorem dX5_writeMemory_68 : decode cX5_writeMemory 68 = .ok (.aload_n 0, 1) := by decide +kernel
theorem dX5_writeMemory_69 : decode cX5_writeMemory 69 = .ok (.getfield 56, 3) := by decide +kernel
theorem dX5_writeMemory_72 : decode cX5_writeMemory 72 = .ok (.invokevirtual 142, 3) := by decide +kernel
theorem dX5_writeMemory_75 : decode cX5_writeMemory 75 = .ok (.istore_n 1, 1) := by decide +kernel
theorem dX5_writeMemory_76 : decode cX5_writeMemory 76 = .ok (.aload_n 0, 1) := by decide +kernel
theorem dX5_writeMemory_77 : decode cX5_writeMemory 77 = .ok (.iconst 0, 1) := by decide +kernel
theorem dX5_writeMemory_78 : decode cX5_writeMemory 78 = .ok (.putfield 56, 3) := by decide +kernel
theorem dX5_writeMemory_81 : decode cX5_writeMemory 81 = .ok (.iload_n 1, 1) := by decide +kernel
theorem dX5_writeMemory_82 : decode cX5_writeMemory 82 = .ok (.ireturn, 1) := by decide +kernel
set_option maxRecDepth 20000 in
theorem ggX5_sortMemory_X5_memoryRowAt : GoodIn wsX5_sortMemory wsX5_memoryRowAt := goodIn_r _ [7, 8, 19, 20, 21, 22, 23, 24, 25, 26, 27, 28, 29, 30, 31, 32, 33, 34] (by decide +kernel) (by decide +kernel)
set_option maxRecDepth 20000 in
theorem gX5_sortMemory_X5_memoryRowAt : GoodIn wsX5_sortMemory (wsV RX5 130 RX5 yX5_memoryRowAt wsX5_memoryRowAt) := goodIn_app (goodIn_of _ (by decide +kernel)) ggX5_sortMemory_X5_memoryRowAt
set_option maxRecDepth 20000 in
theorem ggX5_sortMemory_X3_comesBefore : GoodIn wsX5_sortMemory wsX3_comesBefore := goodIn_r _ [13, 14, 35, 36, 37, 38] (by decide +kernel) (by decide +kernel)
set_option maxRecDepth 20000 in
theorem gX5_sortMemory_X3_comesBefore : GoodIn wsX5_sortMemory (wsV RX5 145 RX3 yX3_comesBefore wsX3_comesBefore) := goodIn_app (goodIn_of _ (by decide +kernel)) ggX5_sortMemory_X3_comesBefore
set_option maxRecDepth 20000 in
theorem ggX5_sortMemory_X5_placeInMemory : GoodIn wsX5_sortMemory wsX5_placeInMemory := goodIn_r _ [18, 8, 19, 20, 21, 22, 23, 24, 25, 26, 27, 28, 29, 30, 31, 32, 33, 34] (by decide +kernel) (by decide +kernel)
set_option maxRecDepth 20000 in
theorem gX5_sortMemory_X5_placeInMemory : GoodIn wsX5_sortMemory (wsV RX5 127 RX5 yX5_placeInMemory wsX5_placeInMemory) := goodIn_app (goodIn_of _ (by decide +kernel)) ggX5_sortMemory_X5_placeInMemory
theorem dX5_sortMemory_0 : decode cX5_sortMemory 0 = .ok (.iconst 1, 1) := by decide +kernel
theorem dX5_sortMemory_1 : decode cX5_sortMemory 1 = .ok (.istore_n 1, 1) := by decide +kernel
theorem dX5_sortMemory_2 : decode cX5_sortMemory 2 = .ok (.iload_n 1, 1) := by decide +kernel
theorem dX5_sortMemory_3 : decode cX5_sortMemory 3 = .ok (.aload_n 0, 1) := by decide +kernel
theorem dX5_sortMemory_4 : decode cX5_sortMemory 4 = .ok (.getfield 56, 3) := by decide +kernel
theorem dX5_sortMemory_7 : decode cX5_sortMemory 7 = .ok (.if_icmp .ge 63, 3) := by decide +kernel
theorem dX5_sortMemory_10 : decode cX5_sortMemory 10 = .ok (.aload_n 0, 1) := by decide +kernel
theorem dX5_sortMemory_11 : decode cX5_sortMemory 11 = .ok (.iload_n 1, 1) := by decide +kernel
theorem dX5_sortMemory_12 : decode cX5_sortMemory 12 = .ok (.invokevirtual 130, 3) := by decide +kernel
theorem dX5_sortMemory_15 : decode cX5_sortMemory 15 = .ok (.istore_n 2, 1) := by decide +kernel
theorem dX5_sortMemory_16 : decode cX5_sortMemory 16 = .ok (.iload_n 1, 1) := by decide +kernel
theorem dX5_sortMemory_17 : decode cX5_sortMemory 17 = .ok (.istore_n 3, 1) := by decide +kernel
theorem dX5_sortMemory_18 : decode cX5_sortMemory 18 = .ok (.iload_n 3, 1) := by decide +kernel
theorem dX5_sortMemory_19 : decode cX5_sortMemory 19 = .ok (.ifCond .le 39, 3) := by decide +kernel
theorem dX5_sortMemory_22 : decode cX5_sortMemory 22 = .ok (.aload_n 0, 1) := by decide +kernel
theorem dX5_sortMemory_23 : decode cX5_sortMemory 23 = .ok (.getfield 12, 3) := by decide +kernel
theorem dX5_sortMemory_26 : decode cX5_sortMemory 26 = .ok (.iload_n 2, 1) := by decide +kernel
theorem dX5_sortMemory_27 : decode cX5_sortMemory 27 = .ok (.aload_n 0, 1) := by decide +kernel
theorem dX5_sortMemory_28 : decode cX5_sortMemory 28 = .ok (.iload_n 3, 1) := by decide +kernel
theorem dX5_sortMemory_29 : decode cX5_sortMemory 29 = .ok (.iconst 1, 1) := by decide +kernel
theorem dX5_sortMemory_30 : decode cX5_sortMemory 30 = .ok (.isub, 1) := by decide +kernel
theorem dX5_sortMemory_31 : decode cX5_sortMemory 31 = .ok (.invokevirtual 130, 3) := by decide +kernel
theorem dX5_sortMemory_34 : decode cX5_sortMemory 34 = .ok (.invokevirtual 145, 3) := by decide +kernel
theorem dX5_sortMemory_37 : decode cX5_sortMemory 37 = .ok (.ifCond .eq 21, 3) := by decide +kernel
theorem dX5_sortMemory_40 : decode cX5_sortMemory 40 = .ok (.aload_n 0, 1) := by decide +kernel
theorem dX5_sortMemory_41 : decode cX5_sortMemory 41 = .ok (.iload_n 3, 1) := by decide +kernel
theorem dX5_sortMemory_42 : decode cX5_sortMemory 42 = .ok (.aload_n 0, 1) := by decide +kernel
theorem dX5_sortMemory_43 : decode cX5_sortMemory 43 = .ok (.iload_n 3, 1) := by decide +kernel
theorem dX5_sortMemory_44 : decode cX5_sortMemory 44 = .ok (.iconst 1, 1) := by decide +kernel
theorem dX5_sortMemory_45 : decode cX5_sortMemory 45 = .ok (.isub, 1) := by decide +kernel
theorem dX5_sortMemory_46 : decode cX5_sortMemory 46 = .ok (.invokevirtual 130, 3) := by decide +kernel
theorem dX5_sortMemory_49 : decode cX5_sortMemory 49 = .ok (.invokevirtual 127, 3) := by decide +kernel
theorem dX5_sortMemory_52 : decode cX5_sortMemory 52 = .ok (.iinc 3 (-1), 3) := by decide +kernel
theorem dX5_sortMemory_55 : decode cX5_sortMemory 55 = .ok (.goto (-37), 3) := by decide +kernel
theorem dX5_sortMemory_58 : decode cX5_sortMemory 58 = .ok (.aload_n 0, 1) := by decide +kernel
theorem dX5_sortMemory_59 : decode cX5_sortMemory 59 = .ok (.iload_n 3, 1) := by decide +kernel
theorem dX5_sortMemory_60 : decode cX5_sortMemory 60 = .ok (.iload_n 2, 1) := by decide +kernel
theorem dX5_sortMemory_61 : decode cX5_sortMemory 61 = .ok (.invokevirtual 127, 3) := by decide +kernel
theorem dX5_sortMemory_64 : decode cX5_sortMemory 64 = .ok (.iinc 1 1, 3) := by decide +kernel
theorem dX5_sortMemory_67 : decode cX5_sortMemory 67 = .ok (.goto (-65), 3) := by decide +kernel
theorem dX5_sortMemory_70 : decode cX5_sortMemory 70 = .ok (.return_, 1) := by decide +kernel
theorem dX5_placeInMemory_0 : decode cX5_placeInMemory 0 = .ok (.iload_n 1, 1) := by decide +kernel
theorem dX5_placeInMemory_1 : decode cX5_placeInMemory 1 = .ok (.ifCond .lt 16, 3) := by decide +kernel
theorem dX5_placeInMemory_4 : decode cX5_placeInMemory 4 = .ok (.iload_n 1, 1) := by decide +kernel
theorem dX5_placeInMemory_5 : decode cX5_placeInMemory 5 = .ok (.bipush 20, 2) := by decide +kernel
theorem dX5_placeInMemory_7 : decode cX5_placeInMemory 7 = .ok (.if_icmp .ge 10, 3) := by decide +kernel
theorem dX5_placeInMemory_10 : decode cX5_placeInMemory 10 = .ok (.aload_n 0, 1) := by decide +kernel
theorem dX5_placeInMemory_11 : decode cX5_placeInMemory 11 = .ok (.getfield 33, 3) := by decide +kernel
theorem dX5_placeInMemory_14 : decode cX5_placeInMemory 14 = .ok (.iload_n 1, 1) := by decide +kernel
theorem dX5_placeInMemory_15 : decode cX5_placeInMemory 15 = .ok (.iload_n 2, 1) := by decide +kernel
theorem dX5_placeInMemory_16 : decode cX5_placeInMemory 16 = .ok (.iastore, 1) := by decide +kernel
theorem dX5_placeInMemory_17 : decode cX5_placeInMemory 17 = .ok (.return_, 1) := by decide +kernel
set_option maxRecDepth 20000 in
theorem ggX5_makeRun_X4_insert : GoodIn wsX5_makeRun wsX4_insert := goodIn_r _ [7, 8, 9, 10, 11, 28, 29, 30, 31] (by decide +kernel) (by decide +kernel)
set_option maxRecDepth 20000 in
theorem gX5_makeRun_X4_insert : GoodIn wsX5_makeRun (wsV RX5 149 RX4 yX4_insert wsX4_insert) := goodIn_app (goodIn_of _ (by decide +kernel)) ggX5_makeRun_X4_insert
theorem dX5_makeRun_0 : decode cX5_makeRun 0 = .ok (.aload_n 0, 1) := by decide +kernel
theorem dX5_makeRun_1 : decode cX5_makeRun 1 = .ok (.getfield 80, 3) := by decide +kernel
theorem dX5_makeRun_4 : decode cX5_makeRun 4 = .ok (.istore_n 3, 1) := by decide +kernel
theorem dX5_makeRun_5 : decode cX5_makeRun 5 = .ok (.aload_n 0, 1) := by decide +kernel
theorem dX5_makeRun_6 : decode cX5_makeRun 6 = .ok (.dup, 1) := by decide +kernel
theorem dX5_makeRun_7 : decode cX5_makeRun 7 = .ok (.getfield 80, 3) := by decide +kernel
theorem dX5_makeRun_10 : decode cX5_makeRun 10 = .ok (.iconst 1, 1) := by decide +kernel
theorem dX5_makeRun_11 : decode cX5_makeRun 11 = .ok (.iadd, 1) := by decide +kernel
theorem dX5_makeRun_12 : decode cX5_makeRun 12 = .ok (.putfield 80, 3) := by decide +kernel
theorem dX5_makeRun_15 : decode cX5_makeRun 15 = .ok (.aload_n 0, 1) := by decide +kernel
theorem dX5_makeRun_16 : decode cX5_makeRun 16 = .ok (.getfield 21, 3) := by decide +kernel
theorem dX5_makeRun_19 : decode cX5_makeRun 19 = .ok (.iload_n 3, 1) := by decide +kernel
theorem dX5_makeRun_20 : decode cX5_makeRun 20 = .ok (.iload_n 1, 1) := by decide +kernel
theorem dX5_makeRun_21 : decode cX5_makeRun 21 = .ok (.iload_n 2, 1) := by decide +kernel
theorem dX5_makeRun_22 : decode cX5_makeRun 22 = .ok (.invokevirtual 149, 3) := by decide +kernel
theorem dX5_makeRun_25 : decode cX5_makeRun 25 = .ok (.iload_n 3, 1) := by decide +kernel
theorem dX5_makeRun_26 : decode cX5_makeRun 26 = .ok (.ireturn, 1) := by decide +kernel
set_option maxRecDepth 20000 in
theorem ggX5_endCollecting_X5_writeMemory : GoodIn wsX5_endCollecting wsX5_writeMemory := goodIn_r _ [6, 7, 8, 9, 10, 11, 12, 5, 13, 14, 15, 16, 17, 18, 19, 20, 21, 22, 23, 24, 25, 26, 27, 28, 29, 30, 31, 32, 33, 34, 35, 36, 37, 38, 39, 40, 41, 42, 43, 44, 45, 46, 47, 48, 49, 50, 51, 52, 53, 54, 55, 56, 57, 58, 59, 60, 61, 62, 63, 64, 65, 66, 67, 68, 69, 70, 71, 72] (by decide +kernel) (by decide +kernel)
set_option maxRecDepth 20000 in
theorem gX5_endCollecting_X5_writeMemory : GoodIn wsX5_endCollecting (wsV RX5 123 RX5 yX5_writeMemory wsX5_writeMemory) := goodIn_app (goodIn_of _ (by decide +kernel)) ggX5_endCollecting_X5_writeMemory
theorem dX5_endCollecting_0 : decode cX5_endCollecting 0 = .ok (.aload_n 0, 1) := by decide +kernel
theorem dX5_endCollecting_1 : decode cX5_endCollecting 1 = .ok (.invokevirtual 123, 3) := by decide +kernel
theorem dX5_endCollecting_4 : decode cX5_endCollecting 4 = .ok (.pop, 1) := by decide +kernel
theorem dX5_endCollecting_5 : decode cX5_endCollecting 5 = .ok (.aload_n 0, 1) := by decide +kernel
theorem dX5_endCollecting_6 : decode cX5_endCollecting 6 = .ok (.iconst 0, 1) := by decide +kernel
theorem dX5_endCollecting_7 : decode cX5_endCollecting 7 = .ok (.putfield 25, 3) := by decide +kernel
theorem dX5_endCollecting_10 : decode cX5_endCollecting 10 = .ok (.return_, 1) := by decide +kernel
set_option maxRecDepth 20000 in
theorem ggX5_resize_X5_writeMemory : GoodIn wsX5_resize wsX5_writeMemory := goodIn_r _ [10, 3, 11, 12, 13, 14, 15, 9, 16, 17, 18, 19, 20, 21, 22, 23, 24, 25, 26, 27, 28, 29, 30, 31, 32, 33, 34, 35, 36, 37, 38, 39, 40, 41, 42, 43, 44, 45, 46, 47, 48, 49, 50, 51, 83, 84, 85, 86, 87, 88, 89, 90, 91, 92, 93, 94, 95, 96, 97, 98, 103, 104, 105, 106, 99, 100, 101, 102] (by decide +kernel) (by decide +kernel)
set_option maxRecDepth 20000 in
theorem gX5_resize_X5_writeMemory : GoodIn wsX5_resize (wsV RX5 123 RX5 yX5_writeMemory wsX5_writeMemory) := goodIn_app (goodIn_of _ (by decide +kernel)) ggX5_resize_X5_writeMemory
set_option maxRecDepth 20000 in
theorem ggX5_resize_X5_ways : GoodIn wsX5_resize wsX5_ways := goodIn_r _ [55, 1, 56, 57, 58, 59, 83, 84, 85, 86, 87, 88, 89, 90, 91, 92, 93, 94, 95, 96, 97, 98] (by decide +kernel) (by decide +kernel)
set_option maxRecDepth 20000 in
theorem gX5_resize_X5_ways : GoodIn wsX5_resize (wsV RX5 153 RX5 yX5_ways wsX5_ways) := goodIn_app (goodIn_of _ (by decide +kernel)) ggX5_resize_X5_ways
set_option maxRecDepth 20000 in
theorem ggX5_resize_X5_cutShort : GoodIn wsX5_resize wsX5_cutShort := goodIn_r _ [63, 41, 4, 5, 64, 65, 66, 67, 9, 68, 69, 70, 37, 38, 39, 40, 42, 43, 44, 45, 46, 47, 48, 49, 50, 51, 71, 72, 73, 74, 75, 76, 77, 78, 79, 80, 81, 82, 83, 84, 85, 86, 87, 88, 89, 90, 91, 92, 93, 94, 95, 96, 97, 98, 99, 100, 101, 102] (by decide +kernel) (by decide +kernel)
set_option maxRecDepth 20000 in
theorem gX5_resize_X5_cutShort : GoodIn wsX5_resize (wsV RX5 156 RX5 yX5_cutShort wsX5_cutShort) := goodIn_app (goodIn_of _ (by decide +kernel)) ggX5_resize_X5_cutShort
theorem dX5_resize_0 : decode cX5_resize 0 = .ok (.aload_n 0, 1) := by decide +kernel
theorem dX5_resize_1 : decode cX5_resize 1 = .ok (.iload_n 1, 1) := by decide +kernel
theorem dX5_resize_2 : decode cX5_resize 2 = .ok (.putfield 29, 3) := by decide +kernel
theorem dX5_resize_5 : decode cX5_resize 5 = .ok (.aload_n 0, 1) := by decide +kernel
theorem dX5_resize_6 : decode cX5_resize 6 = .ok (.getfield 25, 3) := by decide +kernel
theorem dX5_resize_9 : decode cX5_resize 9 = .ok (.ifCond .eq 18, 3) := by decide +kernel
theorem dX5_resize_12 : decode cX5_resize 12 = .ok (.aload_n 0, 1) := by decide +kernel
theorem dX5_resize_13 : decode cX5_resize 13 = .ok (.getfield 56, 3) := by decide +kernel
theorem dX5_resize_16 : decode cX5_resize 16 = .ok (.iload_n 1, 1) := by decide +kernel
theorem dX5_resize_17 : decode cX5_resize 17 = .ok (.if_icmp .le 10, 3) := by decide +kernel
theorem dX5_resize_20 : decode cX5_resize 20 = .ok (.aload_n 0, 1) := by decide +kernel
theorem dX5_resize_21 : decode cX5_resize 21 = .ok (.invokevirtual 123, 3) := by decide +kernel
theorem dX5_resize_24 : decode cX5_resize 24 = .ok (.pop, 1) := by decide +kernel
theorem dX5_resize_25 : decode cX5_resize 25 = .ok (.iconst 1, 1) := by decide +kernel
theorem dX5_resize_26 : decode cX5_resize 26 = .ok (.ireturn, 1) := by decide +kernel
theorem dX5_resize_27 : decode cX5_resize 27 = .ok (.aload_n 0, 1) := by decide +kernel
theorem dX5_resize_28 : decode cX5_resize 28 = .ok (.getfield 37, 3) := by decide +kernel
theorem dX5_resize_31 : decode cX5_resize 31 = .ok (.getfield 83, 3) := by decide +kernel
theorem dX5_resize_34 : decode cX5_resize 34 = .ok (.aload_n 0, 1) := by decide +kernel
theorem dX5_resize_35 : decode cX5_resize 35 = .ok (.invokevirtual 153, 3) := by decide +kernel
theorem dX5_resize_38 : decode cX5_resize 38 = .ok (.if_icmp .le 10, 3) := by decide +kernel
theorem dX5_resize_41 : decode cX5_resize 41 = .ok (.aload_n 0, 1) := by decide +kernel
theorem dX5_resize_42 : decode cX5_resize 42 = .ok (.invokevirtual 156, 3) := by decide +kernel
theorem dX5_resize_45 : decode cX5_resize 45 = .ok (.goto 4, 3) := by decide +kernel
theorem dX5_resize_48 : decode cX5_resize 48 = .ok (.iconst 0, 1) := by decide +kernel
theorem dX5_resize_49 : decode cX5_resize 49 = .ok (.ireturn, 1) := by decide +kernel
set_option maxRecDepth 20000 in
theorem ggX5_cutShort_X5_closeOutput : GoodIn wsX5_cutShort wsX5_closeOutput := goodIn_r _ [9, 10, 11, 12, 13, 14, 8, 15, 1, 16, 17, 18, 19, 20, 21, 22, 23, 24, 25, 38, 39, 40, 41, 42, 43, 44, 45, 46, 47, 48, 49, 50, 51, 52, 53, 54, 55, 56, 57] (by decide +kernel) (by decide +kernel)
set_option maxRecDepth 20000 in
theorem gX5_cutShort_X5_closeOutput : GoodIn wsX5_cutShort (wsV RX5 159 RX5 yX5_closeOutput wsX5_closeOutput) := goodIn_app (goodIn_of _ (by decide +kernel)) ggX5_cutShort_X5_closeOutput
set_option maxRecDepth 20000 in
theorem ggX5_cutShort_X4_firstAt : GoodIn wsX5_cutShort wsX4_firstAt := goodIn_r _ [29, 24, 54, 55, 56, 57] (by decide +kernel) (by decide +kernel)
set_option maxRecDepth 20000 in
theorem gX5_cutShort_X4_firstAt : GoodIn wsX5_cutShort (wsV RX5 103 RX4 yX4_firstAt wsX4_firstAt) := goodIn_app (goodIn_of _ (by decide +kernel)) ggX5_cutShort_X4_firstAt
set_option maxRecDepth 20000 in
theorem ggX5_cutShort_X4_lengthAt : GoodIn wsX5_cutShort wsX4_lengthAt := goodIn_r _ [33, 25, 54, 55, 56, 57] (by decide +kernel) (by decide +kernel)
set_option maxRecDepth 20000 in
theorem gX5_cutShort_X4_lengthAt : GoodIn wsX5_cutShort (wsV RX5 100 RX4 yX4_lengthAt wsX4_lengthAt) := goodIn_app (goodIn_of _ (by decide +kernel)) ggX5_cutShort_X4_lengthAt
set_option maxRecDepth 20000 in
theorem ggX5_cutShort_X5_makeRun : GoodIn wsX5_cutShort wsX5_makeRun := goodIn_r _ [15, 1, 16, 17, 18, 19, 20, 21, 22, 23, 24, 25, 38, 39, 40, 41, 42, 43, 44, 45, 46, 47, 48, 49, 50, 51, 52, 53, 54, 55, 56, 57] (by decide +kernel) (by decide +kernel)
set_option maxRecDepth 20000 in
theorem gX5_cutShort_X5_makeRun : GoodIn wsX5_cutShort (wsV RX5 142 RX5 yX5_makeRun wsX5_makeRun) := goodIn_app (goodIn_of _ (by decide +kernel)) ggX5_cutShort_X5_makeRun
set_option maxRecDepth 20000 in
theorem ggX5_cutShort_X4_removeAll : GoodIn wsX5_cutShort wsX4_removeAll := goodIn_r _ [37, 22, 54, 55, 56, 57] (by decide +kernel) (by decide +kernel)
set_option maxRecDepth 20000 in
theorem gX5_cutShort_X4_removeAll : GoodIn wsX5_cutShort (wsV RX5 162 RX4 yX4_removeAll wsX4_removeAll) := goodIn_app (goodIn_of _ (by decide +kernel)) ggX5_cutShort_X4_removeAll
theorem dX5_cutShort_0 : decode cX5_cutShort 0 = .ok (.aload_n 0, 1) := by decide +kernel
theorem dX5_cutShort_1 : decode cX5_cutShort 1 = .ok (.getfield 80, 3) := by decide +kernel
theorem dX5_cutShort_4 : decode cX5_cutShort 4 = .ok (.istore_n 1, 1) := by decide +kernel
theorem dX5_cutShort_5 : decode cX5_cutShort 5 = .ok (.aload_n 0, 1) := by decide +kernel
theorem dX5_cutShort_6 : decode cX5_cutShort 6 = .ok (.invokevirtual 159, 3) := by decide +kernel
theorem dX5_cutShort_9 : decode cX5_cutShort 9 = .ok (.iconst 0, 1) := by decide +kernel
theorem dX5_cutShort_10 : decode cX5_cutShort 10 = .ok (.istore_n 2, 1) := by decide +kernel
theorem dX5_cutShort_11 : decode cX5_cutShort 11 = .ok (.iload_n 2, 1) := by decide +kernel
theorem dX5_cutShort_12 : decode cX5_cutShort 12 = .ok (.aload_n 0, 1) := by decide +kernel
theorem dX5_cutShort_13 : decode cX5_cutShort 13 = .ok (.getfield 37, 3) := by decide +kernel
theorem dX5_cutShort_16 : decode cX5_cutShort 16 = .ok (.getfield 83, 3) := by decide +kernel
theorem dX5_cutShort_19 : decode cX5_cutShort 19 = .ok (.if_icmp .ge 30, 3) := by decide +kernel
theorem dX5_cutShort_22 : decode cX5_cutShort 22 = .ok (.aload_n 0, 1) := by decide +kernel
theorem dX5_cutShort_23 : decode cX5_cutShort 23 = .ok (.aload_n 0, 1) := by decide +kernel
theorem dX5_cutShort_24 : decode cX5_cutShort 24 = .ok (.getfield 37, 3) := by decide +kernel
theorem dX5_cutShort_27 : decode cX5_cutShort 27 = .ok (.iload_n 2, 1) := by decide +kernel
theorem dX5_cutShort_28 : decode cX5_cutShort 28 = .ok (.invokevirtual 103, 3) := by decide +kernel
theorem dX5_cutShort_31 : decode cX5_cutShort 31 = .ok (.aload_n 0, 1) := by decide +kernel
theorem dX5_cutShort_32 : decode cX5_cutShort 32 = .ok (.getfield 37, 3) := by decide +kernel
theorem dX5_cutShort_35 : decode cX5_cutShort 35 = .ok (.iload_n 2, 1) := by decide +kernel
theorem dX5_cutShort_36 : decode cX5_cutShort 36 = .ok (.invokevirtual 100, 3) := by decide +kernel
theorem dX5_cutShort_39 : decode cX5_cutShort 39 = .ok (.invokevirtual 142, 3) := by decide +kernel
theorem dX5_cutShort_42 : decode cX5_cutShort 42 = .ok (.pop, 1) := by decide +kernel
theorem dX5_cutShort_43 : decode cX5_cutShort 43 = .ok (.iinc 2 1, 3) := by decide +kernel
theorem dX5_cutShort_46 : decode cX5_cutShort 46 = .ok (.goto (-35), 3) := by decide +kernel
theorem dX5_cutShort_49 : decode cX5_cutShort 49 = .ok (.aload_n 0, 1) := by decide +kernel
theorem dX5_cutShort_50 : decode cX5_cutShort 50 = .ok (.getfield 37, 3) := by decide +kernel
theorem dX5_cutShort_53 : decode cX5_cutShort 53 = .ok (.invokevirtual 162, 3) := by decide +kernel
theorem dX5_cutShort_56 : decode cX5_cutShort 56 = .ok (.aload_n 0, 1) := by decide +kernel
theorem dX5_cutShort_57 : decode cX5_cutShort 57 = .ok (.dup, 1) := by decide +kernel
theorem dX5_cutShort_58 : decode cX5_cutShort 58 = .ok (.getfield 77, 3) := by decide +kernel
theorem dX5_cutShort_61 : decode cX5_cutShort 61 = .ok (.iconst 1, 1) := by decide +kernel
theorem dX5_cutShort_62 : decode cX5_cutShort 62 = .ok (.iadd, 1) := by decide +kernel
theorem dX5_cutShort_63 : decode cX5_cutShort 63 = .ok (.putfield 77, 3) := by decide +kernel
theorem dX5_cutShort_66 : decode cX5_cutShort 66 = .ok (.aload_n 0, 1) := by decide +kernel
theorem dX5_cutShort_67 : decode cX5_cutShort 67 = .ok (.getfield 80, 3) := by decide +kernel
theorem dX5_cutShort_70 : decode cX5_cutShort 70 = .ok (.iload_n 1, 1) := by decide +kernel
theorem dX5_cutShort_71 : decode cX5_cutShort 71 = .ok (.isub, 1) := by decide +kernel
theorem dX5_cutShort_72 : decode cX5_cutShort 72 = .ok (.ireturn, 1) := by decide +kernel
set_option maxRecDepth 20000 in
theorem ggX5_canBeginMerge_X5_hasMerge : GoodIn wsX5_canBeginMerge wsX5_hasMerge := goodIn_r _ [8, 9, 3, 19, 20, 21, 22, 23, 24, 25, 26, 27, 28, 29, 30, 31, 32, 33, 34, 35, 36, 37, 38] (by decide +kernel) (by decide +kernel)
set_option maxRecDepth 20000 in
theorem gX5_canBeginMerge_X5_hasMerge : GoodIn wsX5_canBeginMerge (wsV RX5 86 RX5 yX5_hasMerge wsX5_hasMerge) := goodIn_app (goodIn_of _ (by decide +kernel)) ggX5_canBeginMerge_X5_hasMerge
set_option maxRecDepth 20000 in
theorem ggX5_canBeginMerge_X5_ways : GoodIn wsX5_canBeginMerge wsX5_ways := goodIn_r _ [13, 14, 15, 16, 17, 18, 19, 20, 21, 22, 23, 24, 25, 26, 27, 28, 29, 30, 31, 32, 33, 34] (by decide +kernel) (by decide +kernel)
set_option maxRecDepth 20000 in
theorem gX5_canBeginMerge_X5_ways : GoodIn wsX5_canBeginMerge (wsV RX5 153 RX5 yX5_ways wsX5_ways) := goodIn_app (goodIn_of _ (by decide +kernel)) ggX5_canBeginMerge_X5_ways
theorem dX5_canBeginMerge_0 : decode cX5_canBeginMerge 0 = .ok (.aload_n 0, 1) := by decide +kernel
theorem dX5_canBeginMerge_1 : decode cX5_canBeginMerge 1 = .ok (.getfield 25, 3) := by decide +kernel
theorem dX5_canBeginMerge_4 : decode cX5_canBeginMerge 4 = .ok (.ifCond .ne 33, 3) := by decide +kernel
theorem dX5_canBeginMerge_7 : decode cX5_canBeginMerge 7 = .ok (.aload_n 0, 1) := by decide +kernel
theorem dX5_canBeginMerge_8 : decode cX5_canBeginMerge 8 = .ok (.invokevirtual 86, 3) := by decide +kernel
theorem dX5_canBeginMerge_11 : decode cX5_canBeginMerge 11 = .ok (.ifCond .ne 26, 3) := by decide +kernel
theorem dX5_canBeginMerge_14 : decode cX5_canBeginMerge 14 = .ok (.aload_n 0, 1) := by decide +kernel
theorem dX5_canBeginMerge_15 : decode cX5_canBeginMerge 15 = .ok (.getfield 21, 3) := by decide +kernel
theorem dX5_canBeginMerge_18 : decode cX5_canBeginMerge 18 = .ok (.getfield 83, 3) := by decide +kernel
theorem dX5_canBeginMerge_21 : decode cX5_canBeginMerge 21 = .ok (.iconst 2, 1) := by decide +kernel
theorem dX5_canBeginMerge_22 : decode cX5_canBeginMerge 22 = .ok (.if_icmp .lt 15, 3) := by decide +kernel
theorem dX5_canBeginMerge_25 : decode cX5_canBeginMerge 25 = .ok (.aload_n 0, 1) := by decide +kernel
theorem dX5_canBeginMerge_26 : decode cX5_canBeginMerge 26 = .ok (.invokevirtual 153, 3) := by decide +kernel
theorem dX5_canBeginMerge_29 : decode cX5_canBeginMerge 29 = .ok (.iconst 2, 1) := by decide +kernel
theorem dX5_canBeginMerge_30 : decode cX5_canBeginMerge 30 = .ok (.if_icmp .lt 7, 3) := by decide +kernel
theorem dX5_canBeginMerge_33 : decode cX5_canBeginMerge 33 = .ok (.iconst 1, 1) := by decide +kernel
theorem dX5_canBeginMerge_34 : decode cX5_canBeginMerge 34 = .ok (.goto 4, 3) := by decide +kernel
theorem dX5_canBeginMerge_37 : decode cX5_canBeginMerge 37 = .ok (.iconst 0, 1) := by decide +kernel
theorem dX5_canBeginMerge_38 : decode cX5_canBeginMerge 38 = .ok (.ireturn, 1) := by decide +kernel
set_option maxRecDepth 20000 in
theorem ggX5_beginMerge_X5_ways : GoodIn wsX5_beginMerge wsX5_ways := goodIn_r _ [14, 15, 3, 4, 5, 6, 50, 51, 52, 53, 54, 55, 56, 57, 58, 59, 60, 61, 62, 63, 64, 65] (by decide +kernel) (by decide +kernel)
set_option maxRecDepth 20000 in
theorem gX5_beginMerge_X5_ways : GoodIn wsX5_beginMerge (wsV RX5 153 RX5 yX5_ways wsX5_ways) := goodIn_app (goodIn_of _ (by decide +kernel)) ggX5_beginMerge_X5_ways
set_option maxRecDepth 20000 in
theorem ggX5_beginMerge_X4_placeOfShortest : GoodIn wsX5_beginMerge wsX4_placeOfShortest := goodIn_r _ [20, 21, 22, 23, 24, 19, 25, 26, 66, 67, 68, 69] (by decide +kernel) (by decide +kernel)
set_option maxRecDepth 20000 in
theorem gX5_beginMerge_X4_placeOfShortest : GoodIn wsX5_beginMerge (wsV RX5 165 RX4 yX4_placeOfShortest wsX4_placeOfShortest) := goodIn_app (goodIn_of _ (by decide +kernel)) ggX5_beginMerge_X4_placeOfShortest
set_option maxRecDepth 20000 in
theorem ggX5_beginMerge_X4_numberAt : GoodIn wsX5_beginMerge wsX4_numberAt := goodIn_r _ [30, 31, 66, 67, 68, 69] (by decide +kernel) (by decide +kernel)
set_option maxRecDepth 20000 in
theorem gX5_beginMerge_X4_numberAt : GoodIn wsX5_beginMerge (wsV RX5 168 RX4 yX4_numberAt wsX4_numberAt) := goodIn_app (goodIn_of _ (by decide +kernel)) ggX5_beginMerge_X4_numberAt
set_option maxRecDepth 20000 in
theorem ggX5_beginMerge_X4_firstAt : GoodIn wsX5_beginMerge wsX4_firstAt := goodIn_r _ [35, 36, 66, 67, 68, 69] (by decide +kernel) (by decide +kernel)
set_option maxRecDepth 20000 in
theorem gX5_beginMerge_X4_firstAt : GoodIn wsX5_beginMerge (wsV RX5 103 RX4 yX4_firstAt wsX4_firstAt) := goodIn_app (goodIn_of _ (by decide +kernel)) ggX5_beginMerge_X4_firstAt
set_option maxRecDepth 20000 in
theorem ggX5_beginMerge_X4_lengthAt : GoodIn wsX5_beginMerge wsX4_lengthAt := goodIn_r _ [25, 26, 66, 67, 68, 69] (by decide +kernel) (by decide +kernel)
set_option maxRecDepth 20000 in
theorem gX5_beginMerge_X4_lengthAt : GoodIn wsX5_beginMerge (wsV RX5 100 RX4 yX4_lengthAt wsX4_lengthAt) := goodIn_app (goodIn_of _ (by decide +kernel)) ggX5_beginMerge_X4_lengthAt
set_option maxRecDepth 20000 in
theorem ggX5_beginMerge_X4_insert : GoodIn wsX5_beginMerge wsX4_insert := goodIn_r _ [41, 21, 31, 36, 26, 66, 67, 68, 69] (by decide +kernel) (by decide +kernel)
set_option maxRecDepth 20000 in
theorem gX5_beginMerge_X4_insert : GoodIn wsX5_beginMerge (wsV RX5 149 RX4 yX4_insert wsX4_insert) := goodIn_app (goodIn_of _ (by decide +kernel)) ggX5_beginMerge_X4_insert
set_option maxRecDepth 20000 in
theorem ggX5_beginMerge_X4_remove : GoodIn wsX5_beginMerge wsX4_remove := goodIn_r _ [45, 21, 31, 46, 47, 48, 49, 36, 26, 66, 67, 68, 69] (by decide +kernel) (by decide +kernel)
set_option maxRecDepth 20000 in
theorem gX5_beginMerge_X4_remove : GoodIn wsX5_beginMerge (wsV RX5 171 RX4 yX4_remove wsX4_remove) := goodIn_app (goodIn_of _ (by decide +kernel)) ggX5_beginMerge_X4_remove
theorem dX5_beginMerge_0 : decode cX5_beginMerge 0 = .ok (.aload_n 0, 1) := by decide +kernel
theorem dX5_beginMerge_1 : decode cX5_beginMerge 1 = .ok (.invokevirtual 153, 3) := by decide +kernel
theorem dX5_beginMerge_4 : decode cX5_beginMerge 4 = .ok (.aload_n 0, 1) := by decide +kernel
theorem dX5_beginMerge_5 : decode cX5_beginMerge 5 = .ok (.getfield 21, 3) := by decide +kernel
theorem dX5_beginMerge_8 : decode cX5_beginMerge 8 = .ok (.getfield 83, 3) := by decide +kernel
theorem dX5_beginMerge_11 : decode cX5_beginMerge 11 = .ok (.invokestatic 90, 3) := by decide +kernel
theorem dX5_beginMerge_14 : decode cX5_beginMerge 14 = .ok (.istore_n 1, 1) := by decide +kernel
theorem dX5_beginMerge_15 : decode cX5_beginMerge 15 = .ok (.iconst 0, 1) := by decide +kernel
theorem dX5_beginMerge_16 : decode cX5_beginMerge 16 = .ok (.istore_n 2, 1) := by decide +kernel
theorem dX5_beginMerge_17 : decode cX5_beginMerge 17 = .ok (.iload_n 2, 1) := by decide +kernel
theorem dX5_beginMerge_18 : decode cX5_beginMerge 18 = .ok (.iload_n 1, 1) := by decide +kernel
theorem dX5_beginMerge_19 : decode cX5_beginMerge 19 = .ok (.if_icmp .ge 56, 3) := by decide +kernel
theorem dX5_beginMerge_22 : decode cX5_beginMerge 22 = .ok (.aload_n 0, 1) := by decide +kernel
theorem dX5_beginMerge_23 : decode cX5_beginMerge 23 = .ok (.getfield 21, 3) := by decide +kernel
theorem dX5_beginMerge_26 : decode cX5_beginMerge 26 = .ok (.invokevirtual 165, 3) := by decide +kernel
theorem dX5_beginMerge_29 : decode cX5_beginMerge 29 = .ok (.istore_n 3, 1) := by decide +kernel
theorem dX5_beginMerge_30 : decode cX5_beginMerge 30 = .ok (.aload_n 0, 1) := by decide +kernel
theorem dX5_beginMerge_31 : decode cX5_beginMerge 31 = .ok (.getfield 37, 3) := by decide +kernel
theorem dX5_beginMerge_34 : decode cX5_beginMerge 34 = .ok (.aload_n 0, 1) := by decide +kernel
theorem dX5_beginMerge_35 : decode cX5_beginMerge 35 = .ok (.getfield 21, 3) := by decide +kernel
theorem dX5_beginMerge_38 : decode cX5_beginMerge 38 = .ok (.iload_n 3, 1) := by decide +kernel
theorem dX5_beginMerge_39 : decode cX5_beginMerge 39 = .ok (.invokevirtual 168, 3) := by decide +kernel
theorem dX5_beginMerge_42 : decode cX5_beginMerge 42 = .ok (.aload_n 0, 1) := by decide +kernel
theorem dX5_beginMerge_43 : decode cX5_beginMerge 43 = .ok (.getfield 21, 3) := by decide +kernel
theorem dX5_beginMerge_46 : decode cX5_beginMerge 46 = .ok (.iload_n 3, 1) := by decide +kernel
theorem dX5_beginMerge_47 : decode cX5_beginMerge 47 = .ok (.invokevirtual 103, 3) := by decide +kernel
theorem dX5_beginMerge_50 : decode cX5_beginMerge 50 = .ok (.aload_n 0, 1) := by decide +kernel
theorem dX5_beginMerge_51 : decode cX5_beginMerge 51 = .ok (.getfield 21, 3) := by decide +kernel
theorem dX5_beginMerge_54 : decode cX5_beginMerge 54 = .ok (.iload_n 3, 1) := by decide +kernel
theorem dX5_beginMerge_55 : decode cX5_beginMerge 55 = .ok (.invokevirtual 100, 3) := by decide +kernel
theorem dX5_beginMerge_58 : decode cX5_beginMerge 58 = .ok (.invokevirtual 149, 3) := by decide +kernel
theorem dX5_beginMerge_61 : decode cX5_beginMerge 61 = .ok (.aload_n 0, 1) := by decide +kernel
theorem dX5_beginMerge_62 : decode cX5_beginMerge 62 = .ok (.getfield 21, 3) := by decide +kernel
theorem dX5_beginMerge_65 : decode cX5_beginMerge 65 = .ok (.iload_n 3, 1) := by decide +kernel
theorem dX5_beginMerge_66 : decode cX5_beginMerge 66 = .ok (.invokevirtual 171, 3) := by decide +kernel
theorem dX5_beginMerge_69 : decode cX5_beginMerge 69 = .ok (.iinc 2 1, 3) := by decide +kernel
theorem dX5_beginMerge_72 : decode cX5_beginMerge 72 = .ok (.goto (-55), 3) := by decide +kernel
theorem dX5_beginMerge_75 : decode cX5_beginMerge 75 = .ok (.aload_n 0, 1) := by decide +kernel
theorem dX5_beginMerge_76 : decode cX5_beginMerge 76 = .ok (.aload_n 0, 1) := by decide +kernel
theorem dX5_beginMerge_77 : decode cX5_beginMerge 77 = .ok (.getfield 37, 3) := by decide +kernel
theorem dX5_beginMerge_80 : decode cX5_beginMerge 80 = .ok (.getfield 83, 3) := by decide +kernel
theorem dX5_beginMerge_83 : decode cX5_beginMerge 83 = .ok (.putfield 59, 3) := by decide +kernel
theorem dX5_beginMerge_86 : decode cX5_beginMerge 86 = .ok (.aload_n 0, 1) := by decide +kernel
theorem dX5_beginMerge_87 : decode cX5_beginMerge 87 = .ok (.dup, 1) := by decide +kernel
theorem dX5_beginMerge_88 : decode cX5_beginMerge 88 = .ok (.getfield 74, 3) := by decide +kernel
theorem dX5_beginMerge_91 : decode cX5_beginMerge 91 = .ok (.iconst 1, 1) := by decide +kernel
theorem dX5_beginMerge_92 : decode cX5_beginMerge 92 = .ok (.iadd, 1) := by decide +kernel
theorem dX5_beginMerge_93 : decode cX5_beginMerge 93 = .ok (.putfield 74, 3) := by decide +kernel
theorem dX5_beginMerge_96 : decode cX5_beginMerge 96 = .ok (.aload_n 0, 1) := by decide +kernel
theorem dX5_beginMerge_97 : decode cX5_beginMerge 97 = .ok (.getfield 59, 3) := by decide +kernel
theorem dX5_beginMerge_100 : decode cX5_beginMerge 100 = .ok (.ireturn, 1) := by decide +kernel
set_option maxRecDepth 20000 in
theorem ggX5_makeSteps_X5_hasMerge : GoodIn wsX5_makeSteps wsX5_hasMerge := goodIn_r _ [5, 6, 7, 85, 86, 87, 88, 89, 90, 91, 92, 93, 94, 95, 96, 97, 98, 99, 100, 101, 102, 103, 104] (by decide +kernel) (by decide +kernel)
set_option maxRecDepth 20000 in
theorem gX5_makeSteps_X5_hasMerge : GoodIn wsX5_makeSteps (wsV RX5 86 RX5 yX5_hasMerge wsX5_hasMerge) := goodIn_app (goodIn_of _ (by decide +kernel)) ggX5_makeSteps_X5_hasMerge
set_option maxRecDepth 20000 in
theorem ggX5_makeSteps_X5_moveFirstRow : GoodIn wsX5_makeSteps wsX5_moveFirstRow := goodIn_r _ [11, 6, 12, 13, 14, 15, 16, 17, 18, 19, 20, 4, 21, 7, 22, 23, 24, 25, 26, 27, 28, 29, 30, 31, 32, 33, 34, 35, 36, 37, 38, 39, 40, 41, 42, 43, 44, 45, 46, 47, 48, 49, 50, 51, 52, 53, 54, 55, 56, 57, 58, 59, 60, 61, 62, 63, 64, 65, 66, 67, 68, 69, 70, 85, 86, 87, 88, 89, 90, 91, 92, 93, 94, 95, 96, 97, 98, 99, 100, 101, 102, 103, 104, 105, 106, 107, 108] (by decide +kernel) (by decide +kernel)
set_option maxRecDepth 20000 in
theorem gX5_makeSteps_X5_moveFirstRow : GoodIn wsX5_makeSteps (wsV RX5 175 RX5 yX5_moveFirstRow wsX5_moveFirstRow) := goodIn_app (goodIn_of _ (by decide +kernel)) ggX5_makeSteps_X5_moveFirstRow
set_option maxRecDepth 20000 in
theorem ggX5_makeSteps_X5_closeOutput : GoodIn wsX5_makeSteps wsX5_closeOutput := goodIn_r _ [74, 15, 17, 75, 76, 77, 4, 78, 79, 80, 81, 82, 83, 25, 84, 52, 53, 27, 38, 85, 86, 87, 88, 89, 90, 91, 92, 93, 94, 95, 96, 97, 98, 99, 100, 101, 102, 103, 104] (by decide +kernel) (by decide +kernel)
set_option maxRecDepth 20000 in
theorem gX5_makeSteps_X5_closeOutput : GoodIn wsX5_makeSteps (wsV RX5 159 RX5 yX5_closeOutput wsX5_closeOutput) := goodIn_app (goodIn_of _ (by decide +kernel)) ggX5_makeSteps_X5_closeOutput
theorem dX5_makeSteps_0 : decode cX5_makeSteps 0 = .ok (.aload_n 0, 1) := by decide +kernel
theorem dX5_makeSteps_1 : decode cX5_makeSteps 1 = .ok (.invokevirtual 86, 3) := by decide +kernel
theorem dX5_makeSteps_4 : decode cX5_makeSteps 4 = .ok (.ifCond .ne 5, 3) := by decide +kernel
theorem dX5_makeSteps_7 : decode cX5_makeSteps 7 = .ok (.iconst 0, 1) := by decide +kernel
theorem dX5_makeSteps_8 : decode cX5_makeSteps 8 = .ok (.ireturn, 1) := by decide +kernel
theorem dX5_makeSteps_9 : decode cX5_makeSteps 9 = .ok (.iconst 0, 1) := by decide +kernel
theorem dX5_makeSteps_10 : decode cX5_makeSteps 10 = .ok (.istore_n 2, 1) := by decide +kernel
theorem dX5_makeSteps_11 : decode cX5_makeSteps 11 = .ok (.iload_n 2, 1) := by decide +kernel
theorem dX5_makeSteps_12 : decode cX5_makeSteps 12 = .ok (.iload_n 1, 1) := by decide +kernel
theorem dX5_makeSteps_13 : decode cX5_makeSteps 13 = .ok (.if_icmp .ge 20, 3) := by decide +kernel
theorem dX5_makeSteps_16 : decode cX5_makeSteps 16 = .ok (.aload_n 0, 1) := by decide +kernel
theorem dX5_makeSteps_17 : decode cX5_makeSteps 17 = .ok (.invokevirtual 86, 3) := by decide +kernel
theorem dX5_makeSteps_20 : decode cX5_makeSteps 20 = .ok (.ifCond .eq 13, 3) := by decide +kernel
theorem dX5_makeSteps_23 : decode cX5_makeSteps 23 = .ok (.aload_n 0, 1) := by decide +kernel
theorem dX5_makeSteps_24 : decode cX5_makeSteps 24 = .ok (.invokevirtual 175, 3) := by decide +kernel
theorem dX5_makeSteps_27 : decode cX5_makeSteps 27 = .ok (.iinc 2 1, 3) := by decide +kernel
theorem dX5_makeSteps_30 : decode cX5_makeSteps 30 = .ok (.goto (-19), 3) := by decide +kernel
theorem dX5_makeSteps_33 : decode cX5_makeSteps 33 = .ok (.aload_n 0, 1) := by decide +kernel
theorem dX5_makeSteps_34 : decode cX5_makeSteps 34 = .ok (.invokevirtual 86, 3) := by decide +kernel
theorem dX5_makeSteps_37 : decode cX5_makeSteps 37 = .ok (.ifCond .ne 7, 3) := by decide +kernel
theorem dX5_makeSteps_40 : decode cX5_makeSteps 40 = .ok (.aload_n 0, 1) := by decide +kernel
theorem dX5_makeSteps_41 : decode cX5_makeSteps 41 = .ok (.invokevirtual 159, 3) := by decide +kernel
theorem dX5_makeSteps_44 : decode cX5_makeSteps 44 = .ok (.iload_n 2, 1) := by decide +kernel
theorem dX5_makeSteps_45 : decode cX5_makeSteps 45 = .ok (.ireturn, 1) := by decide +kernel
set_option maxRecDepth 20000 in
theorem ggX5_moveFirstRow_X5_inputWithFirstRow : GoodIn wsX5_moveFirstRow wsX5_inputWithFirstRow := goodIn_r _ [12, 1, 13, 2, 14, 15, 16, 17, 18, 19, 20, 21, 22, 23, 24, 25, 63, 64, 65, 66, 67, 68, 69, 70, 71, 72, 73, 74, 75, 76, 77, 78, 79, 80, 81, 82, 83, 84, 85, 86] (by decide +kernel) (by decide +kernel)
set_option maxRecDepth 20000 in
theorem gX5_moveFirstRow_X5_inputWithFirstRow : GoodIn wsX5_moveFirstRow (wsV RX5 178 RX5 yX5_inputWithFirstRow wsX5_inputWithFirstRow) := goodIn_app (goodIn_of _ (by decide +kernel)) ggX5_moveFirstRow_X5_inputWithFirstRow
set_option maxRecDepth 20000 in
theorem ggX5_moveFirstRow_X4_firstAt : GoodIn wsX5_moveFirstRow wsX4_firstAt := goodIn_r _ [18, 19, 79, 80, 81, 82] (by decide +kernel) (by decide +kernel)
set_option maxRecDepth 20000 in
theorem gX5_moveFirstRow_X4_firstAt : GoodIn wsX5_moveFirstRow (wsV RX5 103 RX4 yX4_firstAt wsX4_firstAt) := goodIn_app (goodIn_of _ (by decide +kernel)) ggX5_moveFirstRow_X4_firstAt
set_option maxRecDepth 20000 in
theorem ggX5_moveFirstRow_X4_lengthAt : GoodIn wsX5_moveFirstRow wsX4_lengthAt := goodIn_r _ [29, 30, 79, 80, 81, 82] (by decide +kernel) (by decide +kernel)
set_option maxRecDepth 20000 in
theorem gX5_moveFirstRow_X4_lengthAt : GoodIn wsX5_moveFirstRow (wsV RX5 100 RX4 yX4_lengthAt wsX4_lengthAt) := goodIn_app (goodIn_of _ (by decide +kernel)) ggX5_moveFirstRow_X4_lengthAt
set_option maxRecDepth 20000 in
theorem ggX5_moveFirstRow_X3_nextOf : GoodIn wsX5_moveFirstRow wsX3_nextOf := goodIn_r _ [34, 35, 83, 84, 85, 86] (by decide +kernel) (by decide +kernel)
set_option maxRecDepth 20000 in
theorem gX5_moveFirstRow_X3_nextOf : GoodIn wsX5_moveFirstRow (wsV RX5 181 RX3 yX3_nextOf wsX3_nextOf) := goodIn_app (goodIn_of _ (by decide +kernel)) ggX5_moveFirstRow_X3_nextOf
set_option maxRecDepth 20000 in
theorem ggX5_moveFirstRow_X4_passFirst : GoodIn wsX5_moveFirstRow wsX4_passFirst := goodIn_r _ [39, 19, 30, 79, 80, 81, 82] (by decide +kernel) (by decide +kernel)
set_option maxRecDepth 20000 in
theorem gX5_moveFirstRow_X4_passFirst : GoodIn wsX5_moveFirstRow (wsV RX5 184 RX4 yX4_passFirst wsX4_passFirst) := goodIn_app (goodIn_of _ (by decide +kernel)) ggX5_moveFirstRow_X4_passFirst
set_option maxRecDepth 20000 in
theorem ggX5_moveFirstRow_X4_remove : GoodIn wsX5_moveFirstRow wsX4_remove := goodIn_r _ [43, 44, 45, 46, 47, 48, 49, 19, 30, 79, 80, 81, 82] (by decide +kernel) (by decide +kernel)
set_option maxRecDepth 20000 in
theorem gX5_moveFirstRow_X4_remove : GoodIn wsX5_moveFirstRow (wsV RX5 171 RX4 yX4_remove wsX4_remove) := goodIn_app (goodIn_of _ (by decide +kernel)) ggX5_moveFirstRow_X4_remove
set_option maxRecDepth 20000 in
theorem ggX5_moveFirstRow_X3_keyOf : GoodIn wsX5_moveFirstRow wsX3_keyOf := goodIn_r _ [53, 25, 83, 84, 85, 86] (by decide +kernel) (by decide +kernel)
set_option maxRecDepth 20000 in
theorem gX5_moveFirstRow_X3_keyOf : GoodIn wsX5_moveFirstRow (wsV RX5 133 RX3 yX3_keyOf wsX3_keyOf) := goodIn_app (goodIn_of _ (by decide +kernel)) ggX5_moveFirstRow_X3_keyOf
set_option maxRecDepth 20000 in
theorem ggX5_moveFirstRow_X3_absorb : GoodIn wsX5_moveFirstRow wsX3_absorb := goodIn_r _ [57, 58, 83, 84, 85, 86] (by decide +kernel) (by decide +kernel)
set_option maxRecDepth 20000 in
theorem gX5_moveFirstRow_X3_absorb : GoodIn wsX5_moveFirstRow (wsV RX5 119 RX3 yX3_absorb wsX3_absorb) := goodIn_app (goodIn_of _ (by decide +kernel)) ggX5_moveFirstRow_X3_absorb
set_option maxRecDepth 20000 in
theorem ggX5_moveFirstRow_X3_link : GoodIn wsX5_moveFirstRow wsX3_link := goodIn_r _ [62, 35, 83, 84, 85, 86] (by decide +kernel) (by decide +kernel)
set_option maxRecDepth 20000 in
theorem gX5_moveFirstRow_X3_link : GoodIn wsX5_moveFirstRow (wsV RX5 139 RX3 yX3_link wsX3_link) := goodIn_app (goodIn_of _ (by decide +kernel)) ggX5_moveFirstRow_X3_link
theorem dX5_moveFirstRow_0 : decode cX5_moveFirstRow 0 = .ok (.aload_n 0, 1) := by decide +kernel
theorem dX5_moveFirstRow_1 : decode cX5_moveFirstRow 1 = .ok (.invokevirtual 178, 3) := by decide +kernel
theorem dX5_moveFirstRow_4 : decode cX5_moveFirstRow 4 = .ok (.istore_n 1, 1) := by decide +kernel
theorem dX5_moveFirstRow_5 : decode cX5_moveFirstRow 5 = .ok (.aload_n 0, 1) := by decide +kernel
theorem dX5_moveFirstRow_6 : decode cX5_moveFirstRow 6 = .ok (.getfield 37, 3) := by decide +kernel
theorem dX5_moveFirstRow_9 : decode cX5_moveFirstRow 9 = .ok (.iload_n 1, 1) := by decide +kernel
theorem dX5_moveFirstRow_10 : decode cX5_moveFirstRow 10 = .ok (.invokevirtual 103, 3) := by decide +kernel
theorem dX5_moveFirstRow_13 : decode cX5_moveFirstRow 13 = .ok (.istore_n 2, 1) := by decide +kernel
theorem dX5_moveFirstRow_14 : decode cX5_moveFirstRow 14 = .ok (.aload_n 0, 1) := by decide +kernel
theorem dX5_moveFirstRow_15 : decode cX5_moveFirstRow 15 = .ok (.getfield 37, 3) := by decide +kernel
theorem dX5_moveFirstRow_18 : decode cX5_moveFirstRow 18 = .ok (.iload_n 1, 1) := by decide +kernel
theorem dX5_moveFirstRow_19 : decode cX5_moveFirstRow 19 = .ok (.invokevirtual 100, 3) := by decide +kernel
theorem dX5_moveFirstRow_22 : decode cX5_moveFirstRow 22 = .ok (.iconst 1, 1) := by decide +kernel
theorem dX5_moveFirstRow_23 : decode cX5_moveFirstRow 23 = .ok (.if_icmp .le 22, 3) := by decide +kernel
theorem dX5_moveFirstRow_26 : decode cX5_moveFirstRow 26 = .ok (.aload_n 0, 1) := by decide +kernel
theorem dX5_moveFirstRow_27 : decode cX5_moveFirstRow 27 = .ok (.getfield 37, 3) := by decide +kernel
theorem dX5_moveFirstRow_30 : decode cX5_moveFirstRow 30 = .ok (.iload_n 1, 1) := by decide +kernel
theorem dX5_moveFirstRow_31 : decode cX5_moveFirstRow 31 = .ok (.aload_n 0, 1) := by decide +kernel
theorem dX5_moveFirstRow_32 : decode cX5_moveFirstRow 32 = .ok (.getfield 12, 3) := by decide +kernel
theorem dX5_moveFirstRow_35 : decode cX5_moveFirstRow 35 = .ok (.iload_n 2, 1) := by decide +kernel
theorem dX5_moveFirstRow_36 : decode cX5_moveFirstRow 36 = .ok (.invokevirtual 181, 3) := by decide +kernel
theorem dX5_moveFirstRow_39 : decode cX5_moveFirstRow 39 = .ok (.invokevirtual 184, 3) := by decide +kernel
theorem dX5_moveFirstRow_42 : decode cX5_moveFirstRow 42 = .ok (.goto 11, 3) := by decide +kernel
theorem dX5_moveFirstRow_45 : decode cX5_moveFirstRow 45 = .ok (.aload_n 0, 1) := by decide +kernel
theorem dX5_moveFirstRow_46 : decode cX5_moveFirstRow 46 = .ok (.getfield 37, 3) := by decide +kernel
theorem dX5_moveFirstRow_49 : decode cX5_moveFirstRow 49 = .ok (.iload_n 1, 1) := by decide +kernel
theorem dX5_moveFirstRow_50 : decode cX5_moveFirstRow 50 = .ok (.invokevirtual 171, 3) := by decide +kernel
theorem dX5_moveFirstRow_53 : decode cX5_moveFirstRow 53 = .ok (.aload_n 0, 1) := by decide +kernel
theorem dX5_moveFirstRow_54 : decode cX5_moveFirstRow 54 = .ok (.dup, 1) := by decide +kernel
theorem dX5_moveFirstRow_55 : decode cX5_moveFirstRow 55 = .ok (.getfield 71, 3) := by decide +kernel
theorem dX5_moveFirstRow_58 : decode cX5_moveFirstRow 58 = .ok (.iconst 1, 1) := by decide +kernel
theorem dX5_moveFirstRow_59 : decode cX5_moveFirstRow 59 = .ok (.iadd, 1) := by decide +kernel
theorem dX5_moveFirstRow_60 : decode cX5_moveFirstRow 60 = .ok (.putfield 71, 3) := by decide +kernel
theorem dX5_moveFirstRow_63 : decode cX5_moveFirstRow 63 = .ok (.aload_n 0, 1) := by decide +kernel
theorem dX5_moveFirstRow_64 : decode cX5_moveFirstRow 64 = .ok (.getfield 47, 3) := by decide +kernel
theorem dX5_moveFirstRow_67 : decode cX5_moveFirstRow 67 = .ok (.ifCond .eq 45, 3) := by decide +kernel
theorem dX5_moveFirstRow_70 : decode cX5_moveFirstRow 70 = .ok (.aload_n 0, 1) := by decide +kernel
theorem dX5_moveFirstRow_71 : decode cX5_moveFirstRow 71 = .ok (.getfield 68, 3) := by decide +kernel
theorem dX5_moveFirstRow_74 : decode cX5_moveFirstRow 74 = .ok (.ifCond .le 38, 3) := by decide +kernel
theorem dX5_moveFirstRow_77 : decode cX5_moveFirstRow 77 = .ok (.aload_n 0, 1) := by decide +kernel
theorem dX5_moveFirstRow_78 : decode cX5_moveFirstRow 78 = .ok (.getfield 12, 3) := by decide +kernel
theorem dX5_moveFirstRow_81 : decode cX5_moveFirstRow 81 = .ok (.aload_n 0, 1) := by decide +kernel
theorem dX5_moveFirstRow_82 : decode cX5_moveFirstRow 82 = .ok (.getfield 65, 3) := by decide +kernel
theorem dX5_moveFirstRow_85 : decode cX5_moveFirstRow 85 = .ok (.invokevirtual 133, 3) := by decide +kernel
theorem dX5_moveFirstRow_88 : decode cX5_moveFirstRow 88 = .ok (.aload_n 0, 1) := by decide +kernel
theorem dX5_moveFirstRow_89 : decode cX5_moveFirstRow 89 = .ok (.getfield 12, 3) := by decide +kernel
theorem dX5_moveFirstRow_92 : decode cX5_moveFirstRow 92 = .ok (.iload_n 2, 1) := by decide +kernel
theorem dX5_moveFirstRow_93 : decode cX5_moveFirstRow 93 = .ok (.invokevirtual 133, 3) := by decide +kernel
theorem dX5_moveFirstRow_96 : decode cX5_moveFirstRow 96 = .ok (.if_icmp .ne 16, 3) := by decide +kernel
theorem dX5_moveFirstRow_99 : decode cX5_moveFirstRow 99 = .ok (.aload_n 0, 1) := by decide +kernel
theorem dX5_moveFirstRow_100 : decode cX5_moveFirstRow 100 = .ok (.getfield 12, 3) := by decide +kernel
theorem dX5_moveFirstRow_103 : decode cX5_moveFirstRow 103 = .ok (.aload_n 0, 1) := by decide +kernel
theorem dX5_moveFirstRow_104 : decode cX5_moveFirstRow 104 = .ok (.getfield 65, 3) := by decide +kernel
theorem dX5_moveFirstRow_107 : decode cX5_moveFirstRow 107 = .ok (.iload_n 2, 1) := by decide +kernel
theorem dX5_moveFirstRow_108 : decode cX5_moveFirstRow 108 = .ok (.invokevirtual 119, 3) := by decide +kernel
theorem dX5_moveFirstRow_111 : decode cX5_moveFirstRow 111 = .ok (.return_, 1) := by decide +kernel
theorem dX5_moveFirstRow_112 : decode cX5_moveFirstRow 112 = .ok (.aload_n 0, 1) := by decide +kernel
theorem dX5_moveFirstRow_113 : decode cX5_moveFirstRow 113 = .ok (.getfield 68, 3) := by decide +kernel
theorem dX5_moveFirstRow_116 : decode cX5_moveFirstRow 116 = .ok (.ifCond .ne 11, 3) := by decide +kernel
theorem dX5_moveFirstRow_119 : decode cX5_moveFirstRow 119 = .ok (.aload_n 0, 1) := by decide +kernel
theorem dX5_moveFirstRow_120 : decode cX5_moveFirstRow 120 = .ok (.iload_n 2, 1) := by decide +kernel
theorem dX5_moveFirstRow_121 : decode cX5_moveFirstRow 121 = .ok (.putfield 62, 3) := by decide +kernel
theorem dX5_moveFirstRow_124 : decode cX5_moveFirstRow 124 = .ok (.goto 15, 3) := by decide +kernel
theorem dX5_moveFirstRow_127 : decode cX5_moveFirstRow 127 = .ok (.aload_n 0, 1) := by decide +kernel
theorem dX5_moveFirstRow_128 : decode cX5_moveFirstRow 128 = .ok (.getfield 12, 3) := by decide +kernel
theorem dX5_moveFirstRow_131 : decode cX5_moveFirstRow 131 = .ok (.aload_n 0, 1) := by decide +kernel
theorem dX5_moveFirstRow_132 : decode cX5_moveFirstRow 132 = .ok (.getfield 65, 3) := by decide +kernel
theorem dX5_moveFirstRow_135 : decode cX5_moveFirstRow 135 = .ok (.iload_n 2, 1) := by decide +kernel
theorem dX5_moveFirstRow_136 : decode cX5_moveFirstRow 136 = .ok (.invokevirtual 139, 3) := by decide +kernel
theorem dX5_moveFirstRow_139 : decode cX5_moveFirstRow 139 = .ok (.aload_n 0, 1) := by decide +kernel
theorem dX5_moveFirstRow_140 : decode cX5_moveFirstRow 140 = .ok (.iload_n 2, 1) := by decide +kernel
theorem dX5_moveFirstRow_141 : decode cX5_moveFirstRow 141 = .ok (.putfield 65, 3) := by decide +kernel
theorem dX5_moveFirstRow_144 : decode cX5_moveFirstRow 144 = .ok (.aload_n 0, 1) := by decide +kernel
theorem dX5_moveFirstRow_145 : decode cX5_moveFirstRow 145 = .ok (.dup, 1) := by decide +kernel
theorem dX5_moveFirstRow_146 : decode cX5_moveFirstRow 146 = .ok (.getfield 68, 3) := by decide +kernel
theorem dX5_moveFirstRow_149 : decode cX5_moveFirstRow 149 = .ok (.iconst 1, 1) := by decide +kernel
theorem dX5_moveFirstRow_150 : decode cX5_moveFirstRow 150 = .ok (.iadd, 1) := by decide +kernel
theorem dX5_moveFirstRow_151 : decode cX5_moveFirstRow 151 = .ok (.putfield 68, 3) := by decide +kernel
theorem dX5_moveFirstRow_154 : decode cX5_moveFirstRow 154 = .ok (.aload_n 0, 1) := by decide +kernel
theorem dX5_moveFirstRow_155 : decode cX5_moveFirstRow 155 = .ok (.dup, 1) := by decide +kernel
theorem dX5_moveFirstRow_156 : decode cX5_moveFirstRow 156 = .ok (.getfield 71, 3) := by decide +kernel
theorem dX5_moveFirstRow_159 : decode cX5_moveFirstRow 159 = .ok (.iconst 1, 1) := by decide +kernel
theorem dX5_moveFirstRow_160 : decode cX5_moveFirstRow 160 = .ok (.iadd, 1) := by decide +kernel
theorem dX5_moveFirstRow_161 : decode cX5_moveFirstRow 161 = .ok (.putfield 71, 3) := by decide +kernel
theorem dX5_moveFirstRow_164 : decode cX5_moveFirstRow 164 = .ok (.return_, 1) := by decide +kernel
set_option maxRecDepth 20000 in
theorem ggX5_inputWithFirstRow_X4_firstAt : GoodIn wsX5_inputWithFirstRow wsX4_firstAt := goodIn_r _ [8, 9, 32, 33, 34, 35] (by decide +kernel) (by decide +kernel)
set_option maxRecDepth 20000 in
theorem gX5_inputWithFirstRow_X4_firstAt : GoodIn wsX5_inputWithFirstRow (wsV RX5 103 RX4 yX4_firstAt wsX4_firstAt) := goodIn_app (goodIn_of _ (by decide +kernel)) ggX5_inputWithFirstRow_X4_firstAt
set_option maxRecDepth 20000 in
theorem ggX5_inputWithFirstRow_X3_comesBefore : GoodIn wsX5_inputWithFirstRow wsX3_comesBefore := goodIn_r _ [14, 15, 36, 37, 38, 39] (by decide +kernel) (by decide +kernel)
set_option maxRecDepth 20000 in
theorem gX5_inputWithFirstRow_X3_comesBefore : GoodIn wsX5_inputWithFirstRow (wsV RX5 145 RX3 yX3_comesBefore wsX3_comesBefore) := goodIn_app (goodIn_of _ (by decide +kernel)) ggX5_inputWithFirstRow_X3_comesBefore
theorem dX5_inputWithFirstRow_0 : decode cX5_inputWithFirstRow 0 = .ok (.iconst 0, 1) := by decide +kernel
theorem dX5_inputWithFirstRow_1 : decode cX5_inputWithFirstRow 1 = .ok (.istore_n 1, 1) := by decide +kernel
theorem dX5_inputWithFirstRow_2 : decode cX5_inputWithFirstRow 2 = .ok (.iconst 1, 1) := by decide +kernel
theorem dX5_inputWithFirstRow_3 : decode cX5_inputWithFirstRow 3 = .ok (.istore_n 2, 1) := by decide +kernel
theorem dX5_inputWithFirstRow_4 : decode cX5_inputWithFirstRow 4 = .ok (.iload_n 2, 1) := by decide +kernel
theorem dX5_inputWithFirstRow_5 : decode cX5_inputWithFirstRow 5 = .ok (.aload_n 0, 1) := by decide +kernel
theorem dX5_inputWithFirstRow_6 : decode cX5_inputWithFirstRow 6 = .ok (.getfield 37, 3) := by decide +kernel
theorem dX5_inputWithFirstRow_9 : decode cX5_inputWithFirstRow 9 = .ok (.getfield 83, 3) := by decide +kernel
theorem dX5_inputWithFirstRow_12 : decode cX5_inputWithFirstRow 12 = .ok (.if_icmp .ge 37, 3) := by decide +kernel
theorem dX5_inputWithFirstRow_15 : decode cX5_inputWithFirstRow 15 = .ok (.aload_n 0, 1) := by decide +kernel
theorem dX5_inputWithFirstRow_16 : decode cX5_inputWithFirstRow 16 = .ok (.getfield 12, 3) := by decide +kernel
theorem dX5_inputWithFirstRow_19 : decode cX5_inputWithFirstRow 19 = .ok (.aload_n 0, 1) := by decide +kernel
theorem dX5_inputWithFirstRow_20 : decode cX5_inputWithFirstRow 20 = .ok (.getfield 37, 3) := by decide +kernel
theorem dX5_inputWithFirstRow_23 : decode cX5_inputWithFirstRow 23 = .ok (.iload_n 2, 1) := by decide +kernel
theorem dX5_inputWithFirstRow_24 : decode cX5_inputWithFirstRow 24 = .ok (.invokevirtual 103, 3) := by decide +kernel
theorem dX5_inputWithFirstRow_27 : decode cX5_inputWithFirstRow 27 = .ok (.aload_n 0, 1) := by decide +kernel
theorem dX5_inputWithFirstRow_28 : decode cX5_inputWithFirstRow 28 = .ok (.getfield 37, 3) := by decide +kernel
theorem dX5_inputWithFirstRow_31 : decode cX5_inputWithFirstRow 31 = .ok (.iload_n 1, 1) := by decide +kernel
theorem dX5_inputWithFirstRow_32 : decode cX5_inputWithFirstRow 32 = .ok (.invokevirtual 103, 3) := by decide +kernel
theorem dX5_inputWithFirstRow_35 : decode cX5_inputWithFirstRow 35 = .ok (.invokevirtual 145, 3) := by decide +kernel
theorem dX5_inputWithFirstRow_38 : decode cX5_inputWithFirstRow 38 = .ok (.ifCond .eq 5, 3) := by decide +kernel
theorem dX5_inputWithFirstRow_41 : decode cX5_inputWithFirstRow 41 = .ok (.iload_n 2, 1) := by decide +kernel
theorem dX5_inputWithFirstRow_42 : decode cX5_inputWithFirstRow 42 = .ok (.istore_n 1, 1) := by decide +kernel
theorem dX5_inputWithFirstRow_43 : decode cX5_inputWithFirstRow 43 = .ok (.iinc 2 1, 3) := by decide +kernel
theorem dX5_inputWithFirstRow_46 : decode cX5_inputWithFirstRow 46 = .ok (.goto (-42), 3) := by decide +kernel
theorem dX5_inputWithFirstRow_49 : decode cX5_inputWithFirstRow 49 = .ok (.iload_n 1, 1) := by decide +kernel
theorem dX5_inputWithFirstRow_50 : decode cX5_inputWithFirstRow 50 = .ok (.ireturn, 1) := by decide +kernel
set_option maxRecDepth 20000 in
theorem ggX5_closeOutput_X5_makeRun : GoodIn wsX5_closeOutput wsX5_makeRun := goodIn_r _ [7, 8, 9, 10, 11, 12, 13, 14, 15, 16, 17, 18, 19, 20, 21, 22, 23, 24, 25, 26, 27, 28, 29, 30, 31, 32, 33, 34, 35, 36, 37, 38] (by decide +kernel) (by decide +kernel)
set_option maxRecDepth 20000 in
theorem gX5_closeOutput_X5_makeRun : GoodIn wsX5_closeOutput (wsV RX5 142 RX5 yX5_makeRun wsX5_makeRun) := goodIn_app (goodIn_of _ (by decide +kernel)) ggX5_closeOutput_X5_makeRun
theorem dX5_closeOutput_0 : decode cX5_closeOutput 0 = .ok (.aload_n 0, 1) := by decide +kernel
theorem dX5_closeOutput_1 : decode cX5_closeOutput 1 = .ok (.getfield 68, 3) := by decide +kernel
theorem dX5_closeOutput_4 : decode cX5_closeOutput 4 = .ok (.ifCond .le 16, 3) := by decide +kernel
theorem dX5_closeOutput_7 : decode cX5_closeOutput 7 = .ok (.aload_n 0, 1) := by decide +kernel
theorem dX5_closeOutput_8 : decode cX5_closeOutput 8 = .ok (.aload_n 0, 1) := by decide +kernel
theorem dX5_closeOutput_9 : decode cX5_closeOutput 9 = .ok (.getfield 62, 3) := by decide +kernel
theorem dX5_closeOutput_12 : decode cX5_closeOutput 12 = .ok (.aload_n 0, 1) := by decide +kernel
theorem dX5_closeOutput_13 : decode cX5_closeOutput 13 = .ok (.getfield 68, 3) := by decide +kernel
theorem dX5_closeOutput_16 : decode cX5_closeOutput 16 = .ok (.invokevirtual 142, 3) := by decide +kernel
theorem dX5_closeOutput_19 : decode cX5_closeOutput 19 = .ok (.pop, 1) := by decide +kernel
theorem dX5_closeOutput_20 : decode cX5_closeOutput 20 = .ok (.aload_n 0, 1) := by decide +kernel
theorem dX5_closeOutput_21 : decode cX5_closeOutput 21 = .ok (.iconst 0, 1) := by decide +kernel
theorem dX5_closeOutput_22 : decode cX5_closeOutput 22 = .ok (.putfield 68, 3) := by decide +kernel
theorem dX5_closeOutput_25 : decode cX5_closeOutput 25 = .ok (.return_, 1) := by decide +kernel
set_option maxRecDepth 20000 in
theorem ggX5_canRunToEnd_X5_hasMerge : GoodIn wsX5_canRunToEnd wsX5_hasMerge := goodIn_r _ [8, 9, 2, 19, 20, 21, 22, 23, 24, 25, 26, 27, 28, 29, 30, 31, 32, 33, 34, 35, 36, 37, 38] (by decide +kernel) (by decide +kernel)
set_option maxRecDepth 20000 in
theorem gX5_canRunToEnd_X5_hasMerge : GoodIn wsX5_canRunToEnd (wsV RX5 86 RX5 yX5_hasMerge wsX5_hasMerge) := goodIn_app (goodIn_of _ (by decide +kernel)) ggX5_canRunToEnd_X5_hasMerge
set_option maxRecDepth 20000 in
theorem ggX5_canRunToEnd_X5_ways : GoodIn wsX5_canRunToEnd wsX5_ways := goodIn_r _ [13, 14, 15, 16, 17, 18, 19, 20, 21, 22, 23, 24, 25, 26, 27, 28, 29, 30, 31, 32, 33, 34] (by decide +kernel) (by decide +kernel)
set_option maxRecDepth 20000 in
theorem gX5_canRunToEnd_X5_ways : GoodIn wsX5_canRunToEnd (wsV RX5 153 RX5 yX5_ways wsX5_ways) := goodIn_app (goodIn_of _ (by decide +kernel)) ggX5_canRunToEnd_X5_ways
theorem dX5_canRunToEnd_0 : decode cX5_canRunToEnd 0 = .ok (.aload_n 0, 1) := by decide +kernel
theorem dX5_canRunToEnd_1 : decode cX5_canRunToEnd 1 = .ok (.getfield 21, 3) := by decide +kernel
theorem dX5_canRunToEnd_4 : decode cX5_canRunToEnd 4 = .ok (.getfield 83, 3) := by decide +kernel
theorem dX5_canRunToEnd_7 : decode cX5_canRunToEnd 7 = .ok (.istore_n 1, 1) := by decide +kernel
theorem dX5_canRunToEnd_8 : decode cX5_canRunToEnd 8 = .ok (.aload_n 0, 1) := by decide +kernel
theorem dX5_canRunToEnd_9 : decode cX5_canRunToEnd 9 = .ok (.getfield 56, 3) := by decide +kernel
theorem dX5_canRunToEnd_12 : decode cX5_canRunToEnd 12 = .ok (.ifCond .le 6, 3) := by decide +kernel
theorem dX5_canRunToEnd_15 : decode cX5_canRunToEnd 15 = .ok (.iinc 1 1, 3) := by decide +kernel
theorem dX5_canRunToEnd_18 : decode cX5_canRunToEnd 18 = .ok (.aload_n 0, 1) := by decide +kernel
theorem dX5_canRunToEnd_19 : decode cX5_canRunToEnd 19 = .ok (.invokevirtual 86, 3) := by decide +kernel
theorem dX5_canRunToEnd_22 : decode cX5_canRunToEnd 22 = .ok (.ifCond .eq 6, 3) := by decide +kernel
theorem dX5_canRunToEnd_25 : decode cX5_canRunToEnd 25 = .ok (.iinc 1 1, 3) := by decide +kernel
theorem dX5_canRunToEnd_28 : decode cX5_canRunToEnd 28 = .ok (.iload_n 1, 1) := by decide +kernel
theorem dX5_canRunToEnd_29 : decode cX5_canRunToEnd 29 = .ok (.iconst 1, 1) := by decide +kernel
theorem dX5_canRunToEnd_30 : decode cX5_canRunToEnd 30 = .ok (.if_icmp .le 11, 3) := by decide +kernel
theorem dX5_canRunToEnd_33 : decode cX5_canRunToEnd 33 = .ok (.aload_n 0, 1) := by decide +kernel
theorem dX5_canRunToEnd_34 : decode cX5_canRunToEnd 34 = .ok (.invokevirtual 153, 3) := by decide +kernel
theorem dX5_canRunToEnd_37 : decode cX5_canRunToEnd 37 = .ok (.iconst 2, 1) := by decide +kernel
theorem dX5_canRunToEnd_38 : decode cX5_canRunToEnd 38 = .ok (.if_icmp .lt 7, 3) := by decide +kernel
theorem dX5_canRunToEnd_41 : decode cX5_canRunToEnd 41 = .ok (.iconst 1, 1) := by decide +kernel
theorem dX5_canRunToEnd_42 : decode cX5_canRunToEnd 42 = .ok (.goto 4, 3) := by decide +kernel
theorem dX5_canRunToEnd_45 : decode cX5_canRunToEnd 45 = .ok (.iconst 0, 1) := by decide +kernel
theorem dX5_canRunToEnd_46 : decode cX5_canRunToEnd 46 = .ok (.ireturn, 1) := by decide +kernel
set_option maxRecDepth 20000 in
theorem ggX5_runToEnd_X5_endCollecting : GoodIn wsX5_runToEnd wsX5_endCollecting := goodIn_r _ [5, 6, 7, 8, 9, 4, 10, 11, 12, 13, 14, 15, 16, 17, 18, 19, 20, 21, 22, 23, 24, 25, 26, 27, 28, 29, 30, 31, 32, 33, 34, 35, 36, 37, 38, 39, 40, 41, 42, 43, 44, 45, 46, 47, 48, 49, 50, 51, 52, 140, 141, 142, 143, 144, 145, 146, 147, 148, 149, 150, 151, 152, 153, 154, 155, 156, 157, 158, 159, 160, 161, 162, 163] (by decide +kernel) (by decide +kernel)
set_option maxRecDepth 20000 in
theorem gX5_runToEnd_X5_endCollecting : GoodIn wsX5_runToEnd (wsV RX5 187 RX5 yX5_endCollecting wsX5_endCollecting) := goodIn_app (goodIn_of _ (by decide +kernel)) ggX5_runToEnd_X5_endCollecting
set_option maxRecDepth 20000 in
theorem ggX5_runToEnd_X5_makeSteps : GoodIn wsX5_runToEnd wsX5_makeSteps := goodIn_r _ [56, 57, 58, 59, 4, 60, 61, 62, 63, 64, 65, 66, 12, 13, 67, 68, 69, 70, 71, 72, 73, 74, 75, 76, 77, 47, 78, 51, 23, 24, 25, 26, 27, 28, 79, 80, 81, 82, 52, 83, 84, 85, 86, 37, 87, 88, 89, 90, 91, 92, 93, 94, 49, 50, 95, 96, 97, 98, 99, 100, 101, 102, 103, 104, 105, 106, 107, 33, 34, 35, 36, 108, 109, 110, 111, 38, 39, 40, 41, 42, 43, 44, 45, 46, 48, 140, 141, 142, 143, 144, 145, 146, 147, 148, 149, 150, 151, 152, 153, 154, 155, 160, 161, 162, 163, 156, 157, 158, 159] (by decide +kernel) (by decide +kernel)
set_option maxRecDepth 20000 in
theorem gX5_runToEnd_X5_makeSteps : GoodIn wsX5_runToEnd (wsV RX5 190 RX5 yX5_makeSteps wsX5_makeSteps) := goodIn_app (goodIn_of _ (by decide +kernel)) ggX5_runToEnd_X5_makeSteps
set_option maxRecDepth 20000 in
theorem ggX5_runToEnd_X5_canBeginMerge : GoodIn wsX5_runToEnd wsX5_canBeginMerge := goodIn_r _ [115, 6, 43, 62, 57, 58, 59, 4, 60, 61, 116, 117, 118, 119, 120, 121, 122, 123, 124, 140, 141, 142, 143, 144, 145, 146, 147, 148, 149, 150, 151, 152, 153, 154, 155, 160, 161, 162, 163] (by decide +kernel) (by decide +kernel)
set_option maxRecDepth 20000 in
theorem gX5_runToEnd_X5_canBeginMerge : GoodIn wsX5_runToEnd (wsV RX5 193 RX5 yX5_canBeginMerge wsX5_canBeginMerge) := goodIn_app (goodIn_of _ (by decide +kernel)) ggX5_runToEnd_X5_canBeginMerge
set_option maxRecDepth 20000 in
theorem ggX5_runToEnd_X5_beginMerge : GoodIn wsX5_runToEnd wsX5_beginMerge := goodIn_r _ [128, 43, 62, 121, 122, 123, 124, 61, 129, 130, 116, 117, 118, 4, 119, 120, 131, 132, 133, 47, 134, 49, 135, 80, 81, 82, 52, 136, 137, 138, 139, 50, 75, 76, 77, 78, 51, 79, 44, 45, 46, 48, 91, 92, 93, 94, 95, 96, 97, 98, 140, 141, 142, 143, 144, 145, 146, 147, 148, 149, 150, 151, 152, 153, 154, 155, 160, 161, 162, 163] (by decide +kernel) (by decide +kernel)
set_option maxRecDepth 20000 in
theorem gX5_runToEnd_X5_beginMerge : GoodIn wsX5_runToEnd (wsV RX5 196 RX5 yX5_beginMerge wsX5_beginMerge) := goodIn_app (goodIn_of _ (by decide +kernel)) ggX5_runToEnd_X5_beginMerge
theorem dX5_runToEnd_0 : decode cX5_runToEnd 0 = .ok (.aload_n 0, 1) := by decide +kernel
theorem dX5_runToEnd_1 : decode cX5_runToEnd 1 = .ok (.invokevirtual 187, 3) := by decide +kernel
theorem dX5_runToEnd_4 : decode cX5_runToEnd 4 = .ok (.aload_n 0, 1) := by decide +kernel
theorem dX5_runToEnd_5 : decode cX5_runToEnd 5 = .ok (.bipush 120, 2) := by decide +kernel
theorem dX5_runToEnd_7 : decode cX5_runToEnd 7 = .ok (.invokevirtual 190, 3) := by decide +kernel
theorem dX5_runToEnd_10 : decode cX5_runToEnd 10 = .ok (.pop, 1) := by decide +kernel
theorem dX5_runToEnd_11 : decode cX5_runToEnd 11 = .ok (.iconst 0, 1) := by decide +kernel
theorem dX5_runToEnd_12 : decode cX5_runToEnd 12 = .ok (.istore_n 1, 1) := by decide +kernel
theorem dX5_runToEnd_13 : decode cX5_runToEnd 13 = .ok (.iload_n 1, 1) := by decide +kernel
theorem dX5_runToEnd_14 : decode cX5_runToEnd 14 = .ok (.bipush 120, 2) := by decide +kernel
theorem dX5_runToEnd_16 : decode cX5_runToEnd 16 = .ok (.if_icmp .ge 28, 3) := by decide +kernel
theorem dX5_runToEnd_19 : decode cX5_runToEnd 19 = .ok (.aload_n 0, 1) := by decide +kernel
theorem dX5_runToEnd_20 : decode cX5_runToEnd 20 = .ok (.invokevirtual 193, 3) := by decide +kernel
theorem dX5_runToEnd_23 : decode cX5_runToEnd 23 = .ok (.ifCond .eq 21, 3) := by decide +kernel
theorem dX5_runToEnd_26 : decode cX5_runToEnd 26 = .ok (.aload_n 0, 1) := by decide +kernel
theorem dX5_runToEnd_27 : decode cX5_runToEnd 27 = .ok (.invokevirtual 196, 3) := by decide +kernel
theorem dX5_runToEnd_30 : decode cX5_runToEnd 30 = .ok (.pop, 1) := by decide +kernel
theorem dX5_runToEnd_31 : decode cX5_runToEnd 31 = .ok (.aload_n 0, 1) := by decide +kernel
theorem dX5_runToEnd_32 : decode cX5_runToEnd 32 = .ok (.bipush 120, 2) := by decide +kernel
theorem dX5_runToEnd_34 : decode cX5_runToEnd 34 = .ok (.invokevirtual 190, 3) := by decide +kernel
theorem dX5_runToEnd_37 : decode cX5_runToEnd 37 = .ok (.pop, 1) := by decide +kernel
theorem dX5_runToEnd_38 : decode cX5_runToEnd 38 = .ok (.iinc 1 1, 3) := by decide +kernel
theorem dX5_runToEnd_41 : decode cX5_runToEnd 41 = .ok (.goto (-28), 3) := by decide +kernel
theorem dX5_runToEnd_44 : decode cX5_runToEnd 44 = .ok (.iload_n 1, 1) := by decide +kernel
theorem dX5_runToEnd_45 : decode cX5_runToEnd 45 = .ok (.ireturn, 1) := by decide +kernel
set_option maxRecDepth 20000 in
theorem ggX6_init_X5_init : GoodIn wsX6_init wsX5_init := goodIn_r _ [23, 24, 2, 3, 25, 26, 27, 28, 29, 30, 31, 32, 33, 34, 35, 36, 37, 38, 39, 40, 41, 42, 43, 44, 45, 46, 47, 48, 49, 97, 98, 99, 100, 63, 64, 65, 66, 67, 68, 69, 70, 71, 72, 73, 74, 75, 76, 77, 78, 101, 102, 103, 104] (by decide +kernel) (by decide +kernel)
set_option maxRecDepth 20000 in
theorem gX6_init_X5_init_n9 : GoodIn wsX6_init (wsX5_init) := ggX6_init_X5_init
set_option maxRecDepth 20000 in
theorem ggX6_init_X1_init : GoodIn wsX6_init wsX1_init := goodIn_r _ [52, 53, 2, 3, 54, 55, 5, 6, 22, 23, 24, 25, 26, 27, 28, 29, 30, 31, 32, 33, 34, 35, 36, 37, 38, 39, 40, 41, 42, 43, 44, 45, 46, 47, 48, 49, 86, 87, 88, 63, 64, 65, 66, 67, 68, 69, 70, 71, 72, 73, 74, 75, 76, 77, 78, 97, 98, 99, 100, 101, 102, 103, 104] (by decide +kernel) (by decide +kernel)
set_option maxRecDepth 20000 in
theorem gX6_init_X1_init : GoodIn wsX6_init (wsX1_init) := ggX6_init_X1_init
set_option maxRecDepth 20000 in
theorem ggX6_init_X0_init : GoodIn wsX6_init wsX0_init := goodIn_r _ [57, 58, 2, 3, 35, 59, 89, 90] (by decide +kernel) (by decide +kernel)
set_option maxRecDepth 20000 in
theorem gX6_init_X0_init_n31 : GoodIn wsX6_init (wsX0_init) := ggX6_init_X0_init
set_option maxRecDepth 20000 in
theorem ggX6_init_X2_init : GoodIn wsX6_init wsX2_init := goodIn_r _ [61, 62, 2, 3] (by decide +kernel) (by decide +kernel)
set_option maxRecDepth 20000 in
theorem gX6_init_X2_init_n38 : GoodIn wsX6_init (wsX2_init) := ggX6_init_X2_init
theorem dX6_init_0 : decode cX6_init 0 = .ok (.aload_n 0, 1) := by decide +kernel
theorem dX6_init_1 : decode cX6_init 1 = .ok (.invokespecial 1, 3) := by decide +kernel
theorem dX6_init_4 : decode cX6_init 4 = .ok (.aload_n 0, 1) := by decide +kernel
theorem dX6_init_5 : decode cX6_init 5 = .ok (.new 7, 3) := by decide +kernel
theorem dX6_init_8 : decode cX6_init 8 = .ok (.dup, 1) := by decide +kernel
theorem dX6_init_9 : decode cX6_init 9 = .ok (.invokespecial 9, 3) := by decide +kernel
theorem dX6_init_12 : decode cX6_init 12 = .ok (.putfield 10, 3) := by decide +kernel
theorem dX6_init_15 : decode cX6_init 15 = .ok (.aload_n 0, 1) := by decide +kernel
theorem dX6_init_16 : decode cX6_init 16 = .ok (.new 7, 3) := by decide +kernel
theorem dX6_init_19 : decode cX6_init 19 = .ok (.dup, 1) := by decide +kernel
theorem dX6_init_20 : decode cX6_init 20 = .ok (.invokespecial 9, 3) := by decide +kernel
theorem dX6_init_23 : decode cX6_init 23 = .ok (.putfield 16, 3) := by decide +kernel
theorem dX6_init_26 : decode cX6_init 26 = .ok (.aload_n 0, 1) := by decide +kernel
theorem dX6_init_27 : decode cX6_init 27 = .ok (.new 7, 3) := by decide +kernel
theorem dX6_init_30 : decode cX6_init 30 = .ok (.dup, 1) := by decide +kernel
theorem dX6_init_31 : decode cX6_init 31 = .ok (.invokespecial 9, 3) := by decide +kernel
theorem dX6_init_34 : decode cX6_init 34 = .ok (.putfield 19, 3) := by decide +kernel
theorem dX6_init_37 : decode cX6_init 37 = .ok (.aload_n 0, 1) := by decide +kernel
theorem dX6_init_38 : decode cX6_init 38 = .ok (.new 22, 3) := by decide +kernel
theorem dX6_init_41 : decode cX6_init 41 = .ok (.dup, 1) := by decide +kernel
theorem dX6_init_42 : decode cX6_init 42 = .ok (.invokespecial 24, 3) := by decide +kernel
theorem dX6_init_45 : decode cX6_init 45 = .ok (.putfield 25, 3) := by decide +kernel
theorem dX6_init_48 : decode cX6_init 48 = .ok (.aload_n 0, 1) := by decide +kernel
theorem dX6_init_49 : decode cX6_init 49 = .ok (.new 29, 3) := by decide +kernel
theorem dX6_init_52 : decode cX6_init 52 = .ok (.dup, 1) := by decide +kernel
theorem dX6_init_53 : decode cX6_init 53 = .ok (.invokespecial 31, 3) := by decide +kernel
theorem dX6_init_56 : decode cX6_init 56 = .ok (.putfield 32, 3) := by decide +kernel
theorem dX6_init_59 : decode cX6_init 59 = .ok (.aload_n 0, 1) := by decide +kernel
theorem dX6_init_60 : decode cX6_init 60 = .ok (.new 36, 3) := by decide +kernel
theorem dX6_init_63 : decode cX6_init 63 = .ok (.dup, 1) := by decide +kernel
theorem dX6_init_64 : decode cX6_init 64 = .ok (.invokespecial 38, 3) := by decide +kernel
theorem dX6_init_67 : decode cX6_init 67 = .ok (.putfield 39, 3) := by decide +kernel
theorem dX6_init_70 : decode cX6_init 70 = .ok (.return_, 1) := by decide +kernel
set_option maxRecDepth 20000 in
theorem ggX6_add_X6_isKey : GoodIn wsX6_add wsX6_isKey := goodIn_r _ [8] (by decide +kernel) (by decide +kernel)
set_option maxRecDepth 20000 in
theorem gX6_add_X6_isKey : GoodIn wsX6_add (va_wsS RX6 43 yX6_isKey wsX6_isKey) := goodIn_app (goodIn_of _ (by decide +kernel)) ggX6_add_X6_isKey
set_option maxRecDepth 20000 in
theorem ggX6_add_X3_hasRoom : GoodIn wsX6_add wsX3_hasRoom := goodIn_r _ [13, 14, 154, 155, 156, 157] (by decide +kernel) (by decide +kernel)
set_option maxRecDepth 20000 in
theorem gX6_add_X3_hasRoom : GoodIn wsX6_add (wsV RX6 55 RX3 yX3_hasRoom wsX3_hasRoom) := goodIn_app (goodIn_of _ (by decide +kernel)) ggX6_add_X3_hasRoom
set_option maxRecDepth 20000 in
theorem ggX6_add_X1_remember : GoodIn wsX6_add wsX1_remember := goodIn_r _ [19, 20, 21, 22, 23, 24, 18, 25, 26, 27, 28, 29, 30, 31, 32, 33, 34, 35, 36, 37, 38, 39, 40, 41, 42, 43, 44, 45, 46, 47, 48, 49, 50, 51, 52, 53, 54, 55, 56, 57, 58, 12, 59, 60, 61, 62, 63, 14, 64, 65, 66, 67, 68, 69, 70, 71, 72, 73, 158, 159, 160, 138, 139, 140, 141, 142, 143, 144, 145, 146, 147, 148, 149, 150, 151, 152, 153, 154, 155, 156, 157, 161, 162, 163, 164] (by decide +kernel) (by decide +kernel)
set_option maxRecDepth 20000 in
theorem gX6_add_X1_remember : GoodIn wsX6_add (wsV RX6 61 RX1 yX1_remember wsX1_remember) := goodIn_app (goodIn_of _ (by decide +kernel)) ggX6_add_X1_remember
set_option maxRecDepth 20000 in
theorem ggX6_add_X5_collect : GoodIn wsX6_add wsX5_collect := goodIn_r _ [77, 38, 36, 46, 40, 78, 79, 80, 34, 81, 82, 83, 84, 85, 41, 86, 87, 88, 12, 89, 60, 90, 91, 92, 93, 14, 62, 63, 94, 10, 11, 13, 95, 96, 97, 98, 99, 100, 101, 102, 103, 104, 105, 106, 52, 107, 108, 109, 110, 111, 112, 113, 114, 115, 116, 117, 118, 119, 120, 121, 122, 123, 124, 125, 126, 55, 37, 127, 128, 129, 67, 130, 73, 69, 71, 72, 138, 139, 140, 141, 142, 143, 144, 145, 146, 147, 148, 149, 150, 151, 152, 153, 154, 155, 156, 157, 161, 162, 163, 164] (by decide +kernel) (by decide +kernel)
set_option maxRecDepth 20000 in
theorem gX6_add_X5_collect : GoodIn wsX6_add (wsV RX6 65 RX5 yX5_collect wsX5_collect) := goodIn_app (goodIn_of _ (by decide +kernel)) ggX6_add_X5_collect
theorem dX6_add_0 : decode cX6_add 0 = .ok (.iload_n 1, 1) := by decide +kernel
theorem dX6_add_1 : decode cX6_add 1 = .ok (.invokestatic 43, 3) := by decide +kernel
theorem dX6_add_4 : decode cX6_add 4 = .ok (.ifCond .ne 6, 3) := by decide +kernel
theorem dX6_add_7 : decode cX6_add 7 = .ok (.bipush (-2), 2) := by decide +kernel
theorem dX6_add_9 : decode cX6_add 9 = .ok (.ireturn, 1) := by decide +kernel
theorem dX6_add_10 : decode cX6_add 10 = .ok (.aload_n 0, 1) := by decide +kernel
theorem dX6_add_11 : decode cX6_add 11 = .ok (.getfield 10, 3) := by decide +kernel
theorem dX6_add_14 : decode cX6_add 14 = .ok (.getfield 47, 3) := by decide +kernel
theorem dX6_add_17 : decode cX6_add 17 = .ok (.ifCond .ne 6, 3) := by decide +kernel
theorem dX6_add_20 : decode cX6_add 20 = .ok (.bipush (-3), 2) := by decide +kernel
theorem dX6_add_22 : decode cX6_add 22 = .ok (.ireturn, 1) := by decide +kernel
theorem dX6_add_23 : decode cX6_add 23 = .ok (.aload_n 0, 1) := by decide +kernel
theorem dX6_add_24 : decode cX6_add 24 = .ok (.getfield 10, 3) := by decide +kernel
theorem dX6_add_27 : decode cX6_add 27 = .ok (.getfield 51, 3) := by decide +kernel
theorem dX6_add_30 : decode cX6_add 30 = .ok (.invokevirtual 55, 3) := by decide +kernel
theorem dX6_add_33 : decode cX6_add 33 = .ok (.ifCond .ne 6, 3) := by decide +kernel
theorem dX6_add_36 : decode cX6_add 36 = .ok (.bipush (-4), 2) := by decide +kernel
theorem dX6_add_38 : decode cX6_add 38 = .ok (.ireturn, 1) := by decide +kernel
theorem dX6_add_39 : decode cX6_add 39 = .ok (.aload_n 0, 1) := by decide +kernel
theorem dX6_add_40 : decode cX6_add 40 = .ok (.getfield 25, 3) := by decide +kernel
theorem dX6_add_43 : decode cX6_add 43 = .ok (.aload_n 0, 1) := by decide +kernel
theorem dX6_add_44 : decode cX6_add 44 = .ok (.getfield 10, 3) := by decide +kernel
theorem dX6_add_47 : decode cX6_add 47 = .ok (.invokevirtual 61, 3) := by decide +kernel
theorem dX6_add_50 : decode cX6_add 50 = .ok (.aload_n 0, 1) := by decide +kernel
theorem dX6_add_51 : decode cX6_add 51 = .ok (.getfield 10, 3) := by decide +kernel
theorem dX6_add_54 : decode cX6_add 54 = .ok (.iload_n 1, 1) := by decide +kernel
theorem dX6_add_55 : decode cX6_add 55 = .ok (.invokevirtual 65, 3) := by decide +kernel
theorem dX6_add_58 : decode cX6_add 58 = .ok (.ireturn, 1) := by decide +kernel
set_option maxRecDepth 20000 in
theorem ggX6_combine_X1_remember : GoodIn wsX6_combine wsX1_remember := goodIn_r _ [10, 11, 12, 13, 14, 15, 9, 16, 17, 18, 19, 20, 21, 22, 23, 24, 25, 26, 27, 28, 29, 30, 31, 32, 33, 34, 35, 36, 37, 38, 39, 40, 41, 42, 43, 44, 45, 46, 47, 48, 49, 50, 51, 52, 53, 54, 55, 56, 57, 58, 59, 60, 61, 62, 63, 64, 65, 66, 98, 99, 100, 78, 79, 80, 81, 82, 83, 84, 85, 86, 87, 88, 89, 90, 91, 92, 93, 94, 95, 96, 97, 101, 102, 103, 104] (by decide +kernel) (by decide +kernel)
set_option maxRecDepth 20000 in
theorem gX6_combine_X1_remember : GoodIn wsX6_combine (wsV RX6 61 RX1 yX1_remember wsX1_remember) := goodIn_app (goodIn_of _ (by decide +kernel)) ggX6_combine_X1_remember
set_option maxRecDepth 20000 in
theorem ggX6_combine_X6_asNumber : GoodIn wsX6_combine wsX6_asNumber := goodIn_r _ [70] (by decide +kernel) (by decide +kernel)
set_option maxRecDepth 20000 in
theorem gX6_combine_X6_asNumber : GoodIn wsX6_combine (va_wsS RX6 76 yX6_asNumber wsX6_asNumber) := goodIn_app (goodIn_of _ (by decide +kernel)) ggX6_combine_X6_asNumber
theorem dX6_combine_0 : decode cX6_combine 0 = .ok (.aload_n 0, 1) := by decide +kernel
theorem dX6_combine_1 : decode cX6_combine 1 = .ok (.getfield 10, 3) := by decide +kernel
theorem dX6_combine_4 : decode cX6_combine 4 = .ok (.getfield 51, 3) := by decide +kernel
theorem dX6_combine_7 : decode cX6_combine 7 = .ok (.getfield 69, 3) := by decide +kernel
theorem dX6_combine_10 : decode cX6_combine 10 = .ok (.ifCond .le 6, 3) := by decide +kernel
theorem dX6_combine_13 : decode cX6_combine 13 = .ok (.bipush (-3), 2) := by decide +kernel
theorem dX6_combine_15 : decode cX6_combine 15 = .ok (.ireturn, 1) := by decide +kernel
theorem dX6_combine_16 : decode cX6_combine 16 = .ok (.aload_n 0, 1) := by decide +kernel
theorem dX6_combine_17 : decode cX6_combine 17 = .ok (.getfield 25, 3) := by decide +kernel
theorem dX6_combine_20 : decode cX6_combine 20 = .ok (.aload_n 0, 1) := by decide +kernel
theorem dX6_combine_21 : decode cX6_combine 21 = .ok (.getfield 10, 3) := by decide +kernel
theorem dX6_combine_24 : decode cX6_combine 24 = .ok (.invokevirtual 61, 3) := by decide +kernel
theorem dX6_combine_27 : decode cX6_combine 27 = .ok (.aload_n 0, 1) := by decide +kernel
theorem dX6_combine_28 : decode cX6_combine 28 = .ok (.getfield 10, 3) := by decide +kernel
theorem dX6_combine_31 : decode cX6_combine 31 = .ok (.getfield 73, 3) := by decide +kernel
theorem dX6_combine_34 : decode cX6_combine 34 = .ok (.invokestatic 76, 3) := by decide +kernel
theorem dX6_combine_37 : decode cX6_combine 37 = .ok (.istore_n 2, 1) := by decide +kernel
theorem dX6_combine_38 : decode cX6_combine 38 = .ok (.aload_n 0, 1) := by decide +kernel
theorem dX6_combine_39 : decode cX6_combine 39 = .ok (.getfield 10, 3) := by decide +kernel
theorem dX6_combine_42 : decode cX6_combine 42 = .ok (.iload_n 1, 1) := by decide +kernel
theorem dX6_combine_43 : decode cX6_combine 43 = .ok (.putfield 73, 3) := by decide +kernel
theorem dX6_combine_46 : decode cX6_combine 46 = .ok (.iload_n 2, 1) := by decide +kernel
theorem dX6_combine_47 : decode cX6_combine 47 = .ok (.ireturn, 1) := by decide +kernel
set_option maxRecDepth 20000 in
theorem ggX6_flush_X1_remember : GoodIn wsX6_flush wsX1_remember := goodIn_r _ [8, 9, 10, 11, 12, 13, 7, 14, 15, 16, 17, 18, 19, 20, 21, 22, 23, 24, 25, 26, 27, 28, 29, 30, 31, 32, 33, 34, 35, 36, 37, 38, 39, 40, 41, 42, 43, 44, 45, 46, 47, 48, 49, 50, 51, 52, 53, 54, 55, 56, 57, 58, 59, 60, 61, 62, 63, 64, 120, 121, 122, 104, 105, 106, 107, 108, 109, 110, 111, 112, 113, 114, 115, 116, 117, 118, 119, 123, 124, 125, 126, 127, 128, 129, 130] (by decide +kernel) (by decide +kernel)
set_option maxRecDepth 20000 in
theorem gX6_flush_X1_remember : GoodIn wsX6_flush (wsV RX6 61 RX1 yX1_remember wsX1_remember) := goodIn_app (goodIn_of _ (by decide +kernel)) ggX6_flush_X1_remember
set_option maxRecDepth 20000 in
theorem ggX6_flush_X5_writeMemory : GoodIn wsX6_flush wsX5_writeMemory := goodIn_r _ [68, 35, 25, 41, 69, 70, 71, 23, 72, 73, 74, 75, 76, 30, 77, 78, 79, 48, 80, 50, 81, 82, 83, 84, 85, 86, 87, 88, 53, 89, 90, 91, 92, 44, 26, 93, 94, 95, 58, 96, 64, 60, 62, 63, 104, 105, 106, 107, 108, 109, 110, 111, 112, 113, 114, 115, 116, 117, 118, 119, 123, 124, 125, 126, 127, 128, 129, 130] (by decide +kernel) (by decide +kernel)
set_option maxRecDepth 20000 in
theorem gX6_flush_X5_writeMemory : GoodIn wsX6_flush (wsV RX6 80 RX5 yX5_writeMemory wsX5_writeMemory) := goodIn_app (goodIn_of _ (by decide +kernel)) ggX6_flush_X5_writeMemory
theorem dX6_flush_0 : decode cX6_flush 0 = .ok (.aload_n 0, 1) := by decide +kernel
theorem dX6_flush_1 : decode cX6_flush 1 = .ok (.getfield 10, 3) := by decide +kernel
theorem dX6_flush_4 : decode cX6_flush 4 = .ok (.getfield 47, 3) := by decide +kernel
theorem dX6_flush_7 : decode cX6_flush 7 = .ok (.ifCond .ne 6, 3) := by decide +kernel
theorem dX6_flush_10 : decode cX6_flush 10 = .ok (.bipush (-3), 2) := by decide +kernel
theorem dX6_flush_12 : decode cX6_flush 12 = .ok (.ireturn, 1) := by decide +kernel
theorem dX6_flush_13 : decode cX6_flush 13 = .ok (.aload_n 0, 1) := by decide +kernel
theorem dX6_flush_14 : decode cX6_flush 14 = .ok (.getfield 25, 3) := by decide +kernel
theorem dX6_flush_17 : decode cX6_flush 17 = .ok (.aload_n 0, 1) := by decide +kernel
theorem dX6_flush_18 : decode cX6_flush 18 = .ok (.getfield 10, 3) := by decide +kernel
theorem dX6_flush_21 : decode cX6_flush 21 = .ok (.invokevirtual 61, 3) := by decide +kernel
theorem dX6_flush_24 : decode cX6_flush 24 = .ok (.aload_n 0, 1) := by decide +kernel
theorem dX6_flush_25 : decode cX6_flush 25 = .ok (.getfield 10, 3) := by decide +kernel
theorem dX6_flush_28 : decode cX6_flush 28 = .ok (.invokevirtual 80, 3) := by decide +kernel
theorem dX6_flush_31 : decode cX6_flush 31 = .ok (.ireturn, 1) := by decide +kernel
set_option maxRecDepth 20000 in
theorem ggX6_finish_X1_remember : GoodIn wsX6_finish wsX1_remember := goodIn_r _ [10, 11, 12, 13, 14, 15, 9, 16, 17, 18, 19, 20, 21, 22, 23, 24, 25, 26, 27, 28, 29, 30, 31, 32, 33, 34, 35, 36, 37, 38, 39, 40, 41, 42, 43, 44, 45, 46, 47, 48, 49, 50, 51, 52, 53, 54, 55, 56, 57, 58, 59, 60, 61, 62, 63, 64, 65, 66, 130, 131, 132, 110, 111, 112, 113, 114, 115, 116, 117, 118, 119, 120, 121, 122, 123, 124, 125, 133, 134, 135, 136, 126, 127, 128, 129] (by decide +kernel) (by decide +kernel)
set_option maxRecDepth 20000 in
theorem gX6_finish_X1_remember : GoodIn wsX6_finish (wsV RX6 61 RX1 yX1_remember wsX1_remember) := goodIn_app (goodIn_of _ (by decide +kernel)) ggX6_finish_X1_remember
set_option maxRecDepth 20000 in
theorem ggX6_finish_X5_endCollecting : GoodIn wsX6_finish wsX5_endCollecting := goodIn_r _ [70, 30, 71, 72, 73, 25, 74, 37, 27, 43, 75, 76, 77, 78, 79, 80, 81, 82, 32, 83, 84, 85, 50, 86, 52, 87, 88, 89, 90, 91, 92, 93, 94, 55, 95, 96, 97, 98, 46, 28, 99, 100, 101, 60, 102, 66, 62, 64, 65, 110, 111, 112, 113, 114, 115, 116, 117, 118, 119, 120, 121, 122, 123, 124, 125, 133, 134, 135, 136, 126, 127, 128, 129] (by decide +kernel) (by decide +kernel)
set_option maxRecDepth 20000 in
theorem gX6_finish_X5_endCollecting : GoodIn wsX6_finish (wsV RX6 84 RX5 yX5_endCollecting wsX5_endCollecting) := goodIn_app (goodIn_of _ (by decide +kernel)) ggX6_finish_X5_endCollecting
theorem dX6_finish_0 : decode cX6_finish 0 = .ok (.aload_n 0, 1) := by decide +kernel
theorem dX6_finish_1 : decode cX6_finish 1 = .ok (.getfield 10, 3) := by decide +kernel
theorem dX6_finish_4 : decode cX6_finish 4 = .ok (.getfield 47, 3) := by decide +kernel
theorem dX6_finish_7 : decode cX6_finish 7 = .ok (.ifCond .ne 6, 3) := by decide +kernel
theorem dX6_finish_10 : decode cX6_finish 10 = .ok (.bipush (-3), 2) := by decide +kernel
theorem dX6_finish_12 : decode cX6_finish 12 = .ok (.ireturn, 1) := by decide +kernel
theorem dX6_finish_13 : decode cX6_finish 13 = .ok (.aload_n 0, 1) := by decide +kernel
theorem dX6_finish_14 : decode cX6_finish 14 = .ok (.getfield 25, 3) := by decide +kernel
theorem dX6_finish_17 : decode cX6_finish 17 = .ok (.aload_n 0, 1) := by decide +kernel
theorem dX6_finish_18 : decode cX6_finish 18 = .ok (.getfield 10, 3) := by decide +kernel
theorem dX6_finish_21 : decode cX6_finish 21 = .ok (.invokevirtual 61, 3) := by decide +kernel
theorem dX6_finish_24 : decode cX6_finish 24 = .ok (.aload_n 0, 1) := by decide +kernel
theorem dX6_finish_25 : decode cX6_finish 25 = .ok (.getfield 10, 3) := by decide +kernel
theorem dX6_finish_28 : decode cX6_finish 28 = .ok (.invokevirtual 84, 3) := by decide +kernel
theorem dX6_finish_31 : decode cX6_finish 31 = .ok (.aload_n 0, 1) := by decide +kernel
theorem dX6_finish_32 : decode cX6_finish 32 = .ok (.getfield 10, 3) := by decide +kernel
theorem dX6_finish_35 : decode cX6_finish 35 = .ok (.getfield 87, 3) := by decide +kernel
theorem dX6_finish_38 : decode cX6_finish 38 = .ok (.getfield 91, 3) := by decide +kernel
theorem dX6_finish_41 : decode cX6_finish 41 = .ok (.ireturn, 1) := by decide +kernel
set_option maxRecDepth 20000 in
theorem ggX6_isCollecting_X6_asNumber : GoodIn wsX6_isCollecting wsX6_asNumber := goodIn_r _ [6] (by decide +kernel) (by decide +kernel)
set_option maxRecDepth 20000 in
theorem gX6_isCollecting_X6_asNumber : GoodIn wsX6_isCollecting (va_wsS RX6 76 yX6_asNumber wsX6_asNumber) := goodIn_app (goodIn_of _ (by decide +kernel)) ggX6_isCollecting_X6_asNumber
theorem dX6_isCollecting_0 : decode cX6_isCollecting 0 = .ok (.aload_n 0, 1) := by decide +kernel
theorem dX6_isCollecting_1 : decode cX6_isCollecting 1 = .ok (.getfield 10, 3) := by decide +kernel
theorem dX6_isCollecting_4 : decode cX6_isCollecting 4 = .ok (.getfield 47, 3) := by decide +kernel
theorem dX6_isCollecting_7 : decode cX6_isCollecting 7 = .ok (.invokestatic 76, 3) := by decide +kernel
theorem dX6_isCollecting_10 : decode cX6_isCollecting 10 = .ok (.ireturn, 1) := by decide +kernel
set_option maxRecDepth 20000 in
theorem ggX6_grant_X6_isMemorySize : GoodIn wsX6_grant wsX6_isMemorySize := goodIn_r _ [6] (by decide +kernel) (by decide +kernel)
set_option maxRecDepth 20000 in
theorem gX6_grant_X6_isMemorySize : GoodIn wsX6_grant (va_wsS RX6 94 yX6_isMemorySize wsX6_isMemorySize) := goodIn_app (goodIn_of _ (by decide +kernel)) ggX6_grant_X6_isMemorySize
set_option maxRecDepth 20000 in
theorem ggX6_grant_X1_remember : GoodIn wsX6_grant wsX1_remember := goodIn_r _ [11, 12, 13, 14, 15, 16, 10, 17, 18, 19, 20, 21, 22, 23, 24, 25, 26, 27, 28, 29, 30, 31, 32, 33, 34, 35, 36, 37, 38, 39, 40, 41, 42, 43, 44, 45, 46, 47, 48, 49, 50, 51, 52, 53, 54, 55, 56, 57, 58, 59, 60, 61, 62, 63, 64, 65, 66, 67, 140, 141, 142, 143, 144, 145, 146, 147, 148, 149, 150, 151, 152, 153, 154, 155, 156, 157, 158, 159, 160, 161, 162, 163, 164, 165, 166] (by decide +kernel) (by decide +kernel)
set_option maxRecDepth 20000 in
theorem gX6_grant_X1_remember : GoodIn wsX6_grant (wsV RX6 61 RX1 yX1_remember wsX1_remember) := goodIn_app (goodIn_of _ (by decide +kernel)) ggX6_grant_X1_remember
set_option maxRecDepth 20000 in
theorem ggX6_grant_X5_resize : GoodIn wsX6_grant wsX5_resize := goodIn_r _ [71, 32, 31, 38, 39, 72, 73, 74, 75, 26, 76, 28, 44, 77, 78, 79, 80, 81, 82, 83, 84, 33, 85, 86, 87, 51, 88, 53, 89, 90, 91, 92, 93, 94, 95, 96, 56, 97, 98, 99, 100, 47, 29, 101, 102, 103, 61, 104, 67, 63, 65, 66, 105, 106, 107, 108, 109, 110, 111, 112, 113, 114, 115, 116, 46, 117, 118, 119, 120, 43, 41, 121, 122, 123, 124, 125, 126, 127, 128, 129, 130, 131, 132, 143, 144, 145, 146, 147, 148, 149, 150, 151, 152, 153, 154, 155, 156, 157, 158, 163, 164, 165, 166, 159, 160, 161, 162] (by decide +kernel) (by decide +kernel)
set_option maxRecDepth 20000 in
theorem gX6_grant_X5_resize : GoodIn wsX6_grant (wsV RX6 97 RX5 yX5_resize wsX5_resize) := goodIn_app (goodIn_of _ (by decide +kernel)) ggX6_grant_X5_resize
theorem dX6_grant_0 : decode cX6_grant 0 = .ok (.iload_n 1, 1) := by decide +kernel
theorem dX6_grant_1 : decode cX6_grant 1 = .ok (.invokestatic 94, 3) := by decide +kernel
theorem dX6_grant_4 : decode cX6_grant 4 = .ok (.ifCond .ne 6, 3) := by decide +kernel
theorem dX6_grant_7 : decode cX6_grant 7 = .ok (.bipush (-2), 2) := by decide +kernel
theorem dX6_grant_9 : decode cX6_grant 9 = .ok (.ireturn, 1) := by decide +kernel
theorem dX6_grant_10 : decode cX6_grant 10 = .ok (.aload_n 0, 1) := by decide +kernel
theorem dX6_grant_11 : decode cX6_grant 11 = .ok (.getfield 25, 3) := by decide +kernel
theorem dX6_grant_14 : decode cX6_grant 14 = .ok (.aload_n 0, 1) := by decide +kernel
theorem dX6_grant_15 : decode cX6_grant 15 = .ok (.getfield 10, 3) := by decide +kernel
theorem dX6_grant_18 : decode cX6_grant 18 = .ok (.invokevirtual 61, 3) := by decide +kernel
theorem dX6_grant_21 : decode cX6_grant 21 = .ok (.aload_n 0, 1) := by decide +kernel
theorem dX6_grant_22 : decode cX6_grant 22 = .ok (.getfield 10, 3) := by decide +kernel
theorem dX6_grant_25 : decode cX6_grant 25 = .ok (.iload_n 1, 1) := by decide +kernel
theorem dX6_grant_26 : decode cX6_grant 26 = .ok (.invokevirtual 97, 3) := by decide +kernel
theorem dX6_grant_29 : decode cX6_grant 29 = .ok (.ireturn, 1) := by decide +kernel
set_option maxRecDepth 20000 in
theorem ggX6_memory_X5_memoryInUse : GoodIn wsX6_memory wsX5_memoryInUse := goodIn_r _ [7, 8, 9, 10, 11, 12, 13, 14, 6, 15, 32, 33, 34, 35, 36, 37, 38, 39, 40, 41, 42, 43, 44, 45, 46, 47, 48, 49, 50, 51] (by decide +kernel) (by decide +kernel)
set_option maxRecDepth 20000 in
theorem gX6_memory_X5_memoryInUse : GoodIn wsX6_memory (wsV RX6 103 RX5 yX5_memoryInUse wsX5_memoryInUse) := goodIn_app (goodIn_of _ (by decide +kernel)) ggX6_memory_X5_memoryInUse
set_option maxRecDepth 20000 in
theorem ggX6_memory_X5_ways : GoodIn wsX6_memory wsX5_ways := goodIn_r _ [19, 20, 21, 22, 23, 24, 32, 33, 34, 35, 36, 37, 38, 39, 40, 41, 42, 43, 44, 45, 46, 47] (by decide +kernel) (by decide +kernel)
set_option maxRecDepth 20000 in
theorem gX6_memory_X5_ways : GoodIn wsX6_memory (wsV RX6 106 RX5 yX5_ways wsX5_ways) := goodIn_app (goodIn_of _ (by decide +kernel)) ggX6_memory_X5_ways
theorem dX6_memory_0 : decode cX6_memory 0 = .ok (.iload_n 1, 1) := by decide +kernel
theorem dX6_memory_1 : decode cX6_memory 1 = .ok (.tableswitch 51 0 2 #[27, 35, 43], 27) := by decide +kernel
theorem dX6_memory_28 : decode cX6_memory 28 = .ok (.aload_n 0, 1) := by decide +kernel
theorem dX6_memory_29 : decode cX6_memory 29 = .ok (.getfield 10, 3) := by decide +kernel
theorem dX6_memory_32 : decode cX6_memory 32 = .ok (.getfield 100, 3) := by decide +kernel
theorem dX6_memory_35 : decode cX6_memory 35 = .ok (.ireturn, 1) := by decide +kernel
theorem dX6_memory_36 : decode cX6_memory 36 = .ok (.aload_n 0, 1) := by decide +kernel
theorem dX6_memory_37 : decode cX6_memory 37 = .ok (.getfield 10, 3) := by decide +kernel
theorem dX6_memory_40 : decode cX6_memory 40 = .ok (.invokevirtual 103, 3) := by decide +kernel
theorem dX6_memory_43 : decode cX6_memory 43 = .ok (.ireturn, 1) := by decide +kernel
theorem dX6_memory_44 : decode cX6_memory 44 = .ok (.aload_n 0, 1) := by decide +kernel
theorem dX6_memory_45 : decode cX6_memory 45 = .ok (.getfield 10, 3) := by decide +kernel
theorem dX6_memory_48 : decode cX6_memory 48 = .ok (.invokevirtual 106, 3) := by decide +kernel
theorem dX6_memory_51 : decode cX6_memory 51 = .ok (.ireturn, 1) := by decide +kernel
theorem dX6_memory_52 : decode cX6_memory 52 = .ok (.bipush (-2), 2) := by decide +kernel
theorem dX6_memory_54 : decode cX6_memory 54 = .ok (.ireturn, 1) := by decide +kernel
set_option maxRecDepth 20000 in
theorem ggX6_inMemory_X5_isInMemory : GoodIn wsX6_inMemory wsX5_isInMemory := goodIn_r _ [7, 8, 27, 28, 29, 30, 31, 32, 33, 34, 35, 36, 37, 38, 39, 40, 41, 42] (by decide +kernel) (by decide +kernel)
set_option maxRecDepth 20000 in
theorem gX6_inMemory_X5_isInMemory : GoodIn wsX6_inMemory (wsV RX6 109 RX5 yX5_isInMemory wsX5_isInMemory) := goodIn_app (goodIn_of _ (by decide +kernel)) ggX6_inMemory_X5_isInMemory
set_option maxRecDepth 20000 in
theorem ggX6_inMemory_X5_memoryRowAt : GoodIn wsX6_inMemory wsX5_memoryRowAt := goodIn_r _ [12, 13, 27, 28, 29, 30, 31, 32, 33, 34, 35, 36, 37, 38, 39, 40, 41, 42] (by decide +kernel) (by decide +kernel)
set_option maxRecDepth 20000 in
theorem gX6_inMemory_X5_memoryRowAt : GoodIn wsX6_inMemory (wsV RX6 112 RX5 yX5_memoryRowAt wsX5_memoryRowAt) := goodIn_app (goodIn_of _ (by decide +kernel)) ggX6_inMemory_X5_memoryRowAt
set_option maxRecDepth 20000 in
theorem ggX6_inMemory_X3_keyOf : GoodIn wsX6_inMemory wsX3_keyOf := goodIn_r _ [18, 19, 43, 44, 45, 46] (by decide +kernel) (by decide +kernel)
set_option maxRecDepth 20000 in
theorem gX6_inMemory_X3_keyOf : GoodIn wsX6_inMemory (wsV RX6 115 RX3 yX3_keyOf wsX3_keyOf) := goodIn_app (goodIn_of _ (by decide +kernel)) ggX6_inMemory_X3_keyOf
theorem dX6_inMemory_0 : decode cX6_inMemory 0 = .ok (.aload_n 0, 1) := by decide +kernel
theorem dX6_inMemory_1 : decode cX6_inMemory 1 = .ok (.getfield 10, 3) := by decide +kernel
theorem dX6_inMemory_4 : decode cX6_inMemory 4 = .ok (.iload_n 1, 1) := by decide +kernel
theorem dX6_inMemory_5 : decode cX6_inMemory 5 = .ok (.invokevirtual 109, 3) := by decide +kernel
theorem dX6_inMemory_8 : decode cX6_inMemory 8 = .ok (.ifCond .ne 5, 3) := by decide +kernel
theorem dX6_inMemory_11 : decode cX6_inMemory 11 = .ok (.iconst (-1), 1) := by decide +kernel
theorem dX6_inMemory_12 : decode cX6_inMemory 12 = .ok (.ireturn, 1) := by decide +kernel
theorem dX6_inMemory_13 : decode cX6_inMemory 13 = .ok (.aload_n 0, 1) := by decide +kernel
theorem dX6_inMemory_14 : decode cX6_inMemory 14 = .ok (.getfield 10, 3) := by decide +kernel
theorem dX6_inMemory_17 : decode cX6_inMemory 17 = .ok (.getfield 51, 3) := by decide +kernel
theorem dX6_inMemory_20 : decode cX6_inMemory 20 = .ok (.aload_n 0, 1) := by decide +kernel
theorem dX6_inMemory_21 : decode cX6_inMemory 21 = .ok (.getfield 10, 3) := by decide +kernel
theorem dX6_inMemory_24 : decode cX6_inMemory 24 = .ok (.iload_n 1, 1) := by decide +kernel
theorem dX6_inMemory_25 : decode cX6_inMemory 25 = .ok (.invokevirtual 112, 3) := by decide +kernel
theorem dX6_inMemory_28 : decode cX6_inMemory 28 = .ok (.invokevirtual 115, 3) := by decide +kernel
theorem dX6_inMemory_31 : decode cX6_inMemory 31 = .ok (.ireturn, 1) := by decide +kernel
set_option maxRecDepth 20000 in
theorem ggX6_merge_X5_canBeginMerge : GoodIn wsX6_merge wsX5_canBeginMerge := goodIn_r _ [7, 8, 9, 10, 11, 12, 13, 6, 14, 15, 16, 17, 18, 19, 20, 21, 22, 23, 24, 117, 118, 119, 120, 121, 122, 123, 124, 125, 126, 127, 128, 129, 130, 131, 132, 133, 134, 135, 136] (by decide +kernel) (by decide +kernel)
set_option maxRecDepth 20000 in
theorem gX6_merge_X5_canBeginMerge : GoodIn wsX6_merge (wsV RX6 118 RX5 yX5_canBeginMerge wsX5_canBeginMerge) := goodIn_app (goodIn_of _ (by decide +kernel)) ggX6_merge_X5_canBeginMerge
set_option maxRecDepth 20000 in
theorem ggX6_merge_X1_remember : GoodIn wsX6_merge wsX1_remember := goodIn_r _ [29, 30, 31, 32, 33, 34, 28, 35, 36, 37, 38, 39, 40, 41, 42, 43, 6, 44, 45, 9, 46, 8, 20, 47, 48, 49, 50, 51, 52, 15, 53, 54, 55, 56, 57, 58, 59, 60, 61, 62, 63, 64, 65, 66, 67, 68, 69, 70, 71, 72, 73, 74, 75, 76, 77, 78, 79, 80, 137, 138, 139, 117, 118, 119, 120, 121, 122, 123, 124, 125, 126, 127, 128, 129, 130, 131, 132, 140, 141, 142, 143, 133, 134, 135, 136] (by decide +kernel) (by decide +kernel)
set_option maxRecDepth 20000 in
theorem gX6_merge_X1_remember : GoodIn wsX6_merge (wsV RX6 61 RX1 yX1_remember wsX1_remember) := goodIn_app (goodIn_of _ (by decide +kernel)) ggX6_merge_X1_remember
set_option maxRecDepth 20000 in
theorem ggX6_merge_X5_beginMerge : GoodIn wsX6_merge wsX5_beginMerge := goodIn_r _ [84, 9, 10, 21, 22, 23, 24, 15, 53, 58, 16, 17, 18, 6, 19, 20, 85, 86, 87, 74, 88, 80, 89, 90, 91, 92, 79, 93, 94, 95, 96, 76, 97, 98, 99, 100, 78, 101, 102, 103, 104, 105, 106, 107, 108, 109, 77, 49, 50, 51, 117, 118, 119, 120, 121, 122, 123, 124, 125, 126, 127, 128, 129, 130, 131, 132, 133, 134, 135, 136] (by decide +kernel) (by decide +kernel)
set_option maxRecDepth 20000 in
theorem gX6_merge_X5_beginMerge : GoodIn wsX6_merge (wsV RX6 121 RX5 yX5_beginMerge wsX5_beginMerge) := goodIn_app (goodIn_of _ (by decide +kernel)) ggX6_merge_X5_beginMerge
theorem dX6_merge_0 : decode cX6_merge 0 = .ok (.aload_n 0, 1) := by decide +kernel
theorem dX6_merge_1 : decode cX6_merge 1 = .ok (.getfield 10, 3) := by decide +kernel
theorem dX6_merge_4 : decode cX6_merge 4 = .ok (.invokevirtual 118, 3) := by decide +kernel
theorem dX6_merge_7 : decode cX6_merge 7 = .ok (.ifCond .ne 6, 3) := by decide +kernel
theorem dX6_merge_10 : decode cX6_merge 10 = .ok (.bipush (-3), 2) := by decide +kernel
theorem dX6_merge_12 : decode cX6_merge 12 = .ok (.ireturn, 1) := by decide +kernel
theorem dX6_merge_13 : decode cX6_merge 13 = .ok (.aload_n 0, 1) := by decide +kernel
theorem dX6_merge_14 : decode cX6_merge 14 = .ok (.getfield 25, 3) := by decide +kernel
theorem dX6_merge_17 : decode cX6_merge 17 = .ok (.aload_n 0, 1) := by decide +kernel
theorem dX6_merge_18 : decode cX6_merge 18 = .ok (.getfield 10, 3) := by decide +kernel
theorem dX6_merge_21 : decode cX6_merge 21 = .ok (.invokevirtual 61, 3) := by decide +kernel
theorem dX6_merge_24 : decode cX6_merge 24 = .ok (.aload_n 0, 1) := by decide +kernel
theorem dX6_merge_25 : decode cX6_merge 25 = .ok (.getfield 10, 3) := by decide +kernel
theorem dX6_merge_28 : decode cX6_merge 28 = .ok (.invokevirtual 121, 3) := by decide +kernel
theorem dX6_merge_31 : decode cX6_merge 31 = .ok (.ireturn, 1) := by decide +kernel
set_option maxRecDepth 20000 in
theorem ggX6_step_X5_hasMerge : GoodIn wsX6_step wsX5_hasMerge := goodIn_r _ [7, 8, 9, 137, 138, 139, 140, 141, 142, 143, 144, 145, 146, 147, 148, 149, 150, 151, 152, 153, 154, 155, 156] (by decide +kernel) (by decide +kernel)
set_option maxRecDepth 20000 in
theorem gX6_step_X5_hasMerge : GoodIn wsX6_step (wsV RX6 124 RX5 yX5_hasMerge wsX5_hasMerge) := goodIn_app (goodIn_of _ (by decide +kernel)) ggX6_step_X5_hasMerge
set_option maxRecDepth 20000 in
theorem ggX6_step_X1_remember : GoodIn wsX6_step wsX1_remember := goodIn_r _ [14, 15, 16, 17, 18, 19, 13, 20, 21, 22, 23, 24, 25, 26, 27, 28, 6, 29, 30, 31, 32, 33, 34, 35, 36, 37, 38, 39, 40, 8, 41, 42, 43, 44, 45, 46, 47, 48, 49, 50, 51, 52, 53, 54, 55, 56, 57, 58, 59, 60, 61, 62, 63, 64, 65, 66, 67, 68, 157, 158, 159, 137, 138, 139, 140, 141, 142, 143, 144, 145, 146, 147, 148, 149, 150, 151, 152, 160, 161, 162, 163, 153, 154, 155, 156] (by decide +kernel) (by decide +kernel)
set_option maxRecDepth 20000 in
theorem gX6_step_X1_remember : GoodIn wsX6_step (wsV RX6 61 RX1 yX1_remember wsX1_remember) := goodIn_app (goodIn_of _ (by decide +kernel)) ggX6_step_X1_remember
set_option maxRecDepth 20000 in
theorem ggX6_step_X5_makeSteps : GoodIn wsX6_step wsX5_makeSteps := goodIn_r _ [72, 73, 4, 5, 6, 7, 8, 9, 74, 75, 76, 77, 30, 45, 32, 44, 43, 42, 78, 79, 80, 81, 82, 83, 84, 62, 85, 66, 86, 87, 88, 52, 89, 54, 90, 91, 92, 93, 67, 94, 95, 96, 97, 57, 98, 99, 100, 101, 102, 103, 104, 105, 68, 64, 65, 37, 38, 39, 106, 107, 108, 109, 110, 111, 112, 113, 56, 114, 115, 116, 117, 118, 119, 120, 121, 122, 123, 124, 125, 48, 31, 126, 127, 128, 129, 137, 138, 139, 140, 141, 142, 143, 144, 145, 146, 147, 148, 149, 150, 151, 152, 153, 154, 155, 156, 160, 161, 162, 163] (by decide +kernel) (by decide +kernel)
set_option maxRecDepth 20000 in
theorem gX6_step_X5_makeSteps : GoodIn wsX6_step (wsV RX6 127 RX5 yX5_makeSteps wsX5_makeSteps) := goodIn_app (goodIn_of _ (by decide +kernel)) ggX6_step_X5_makeSteps
theorem dX6_step_0 : decode cX6_step 0 = .ok (.iload_n 1, 1) := by decide +kernel
theorem dX6_step_1 : decode cX6_step 1 = .ok (.iconst 1, 1) := by decide +kernel
theorem dX6_step_2 : decode cX6_step 2 = .ok (.if_icmp .lt 10, 3) := by decide +kernel
theorem dX6_step_5 : decode cX6_step 5 = .ok (.iload_n 1, 1) := by decide +kernel
theorem dX6_step_6 : decode cX6_step 6 = .ok (.sipush 200, 3) := by decide +kernel
theorem dX6_step_9 : decode cX6_step 9 = .ok (.if_icmp .le 6, 3) := by decide +kernel
theorem dX6_step_12 : decode cX6_step 12 = .ok (.bipush (-2), 2) := by decide +kernel
theorem dX6_step_14 : decode cX6_step 14 = .ok (.ireturn, 1) := by decide +kernel
theorem dX6_step_15 : decode cX6_step 15 = .ok (.aload_n 0, 1) := by decide +kernel
theorem dX6_step_16 : decode cX6_step 16 = .ok (.getfield 10, 3) := by decide +kernel
theorem dX6_step_19 : decode cX6_step 19 = .ok (.invokevirtual 124, 3) := by decide +kernel
theorem dX6_step_22 : decode cX6_step 22 = .ok (.ifCond .ne 6, 3) := by decide +kernel
theorem dX6_step_25 : decode cX6_step 25 = .ok (.bipush (-3), 2) := by decide +kernel
theorem dX6_step_27 : decode cX6_step 27 = .ok (.ireturn, 1) := by decide +kernel
theorem dX6_step_28 : decode cX6_step 28 = .ok (.aload_n 0, 1) := by decide +kernel
theorem dX6_step_29 : decode cX6_step 29 = .ok (.getfield 25, 3) := by decide +kernel
theorem dX6_step_32 : decode cX6_step 32 = .ok (.aload_n 0, 1) := by decide +kernel
theorem dX6_step_33 : decode cX6_step 33 = .ok (.getfield 10, 3) := by decide +kernel
theorem dX6_step_36 : decode cX6_step 36 = .ok (.invokevirtual 61, 3) := by decide +kernel
theorem dX6_step_39 : decode cX6_step 39 = .ok (.aload_n 0, 1) := by decide +kernel
theorem dX6_step_40 : decode cX6_step 40 = .ok (.getfield 10, 3) := by decide +kernel
theorem dX6_step_43 : decode cX6_step 43 = .ok (.iload_n 1, 1) := by decide +kernel
theorem dX6_step_44 : decode cX6_step 44 = .ok (.invokevirtual 127, 3) := by decide +kernel
theorem dX6_step_47 : decode cX6_step 47 = .ok (.ireturn, 1) := by decide +kernel
set_option maxRecDepth 20000 in
theorem ggX6_run_X5_canRunToEnd : GoodIn wsX6_run wsX5_canRunToEnd := goodIn_r _ [7, 8, 9, 10, 11, 12, 13, 6, 14, 15, 16, 17, 18, 19, 20, 21, 22, 23, 24, 189, 190, 191, 192, 193, 194, 195, 196, 197, 198, 199, 200, 201, 202, 203, 204, 205, 206, 207, 208] (by decide +kernel) (by decide +kernel)
set_option maxRecDepth 20000 in
theorem gX6_run_X5_canRunToEnd : GoodIn wsX6_run (wsV RX6 130 RX5 yX5_canRunToEnd wsX5_canRunToEnd) := goodIn_app (goodIn_of _ (by decide +kernel)) ggX6_run_X5_canRunToEnd
set_option maxRecDepth 20000 in
theorem ggX6_run_X1_remember : GoodIn wsX6_run wsX1_remember := goodIn_r _ [29, 30, 31, 32, 33, 34, 28, 35, 36, 37, 38, 39, 40, 41, 42, 43, 6, 44, 45, 8, 46, 47, 20, 48, 49, 50, 51, 52, 10, 15, 53, 54, 55, 56, 57, 58, 59, 60, 61, 62, 63, 64, 65, 66, 67, 68, 69, 70, 71, 72, 73, 74, 75, 76, 77, 78, 79, 80, 209, 210, 211, 189, 190, 191, 192, 193, 194, 195, 196, 197, 198, 199, 200, 201, 202, 203, 204, 212, 213, 214, 215, 205, 206, 207, 208] (by decide +kernel) (by decide +kernel)
set_option maxRecDepth 20000 in
theorem gX6_run_X1_remember : GoodIn wsX6_run (wsV RX6 61 RX1 yX1_remember wsX1_remember) := goodIn_app (goodIn_of _ (by decide +kernel)) ggX6_run_X1_remember
set_option maxRecDepth 20000 in
theorem ggX6_run_X5_runToEnd : GoodIn wsX6_run wsX5_runToEnd := goodIn_r _ [84, 85, 86, 87, 6, 88, 47, 89, 90, 91, 92, 10, 45, 57, 93, 94, 95, 96, 97, 98, 99, 100, 48, 101, 102, 103, 64, 104, 66, 105, 106, 107, 108, 109, 110, 111, 112, 69, 113, 114, 115, 116, 60, 8, 117, 118, 119, 74, 120, 80, 76, 78, 79, 121, 122, 123, 124, 11, 12, 13, 14, 15, 9, 125, 126, 127, 128, 46, 56, 55, 54, 129, 130, 131, 132, 133, 134, 135, 136, 137, 138, 139, 140, 141, 142, 143, 144, 145, 146, 147, 148, 149, 150, 151, 152, 77, 50, 51, 52, 153, 154, 155, 156, 157, 158, 159, 160, 68, 161, 162, 163, 164, 165, 166, 167, 168, 16, 17, 18, 19, 20, 21, 22, 23, 24, 169, 170, 171, 172, 53, 58, 173, 174, 175, 176, 177, 178, 179, 180, 181, 189, 190, 191, 192, 193, 194, 195, 196, 197, 198, 199, 200, 201, 202, 203, 204, 212, 213, 214, 215, 205, 206, 207, 208] (by decide +kernel) (by decide +kernel)
set_option maxRecDepth 20000 in
theorem gX6_run_X5_runToEnd : GoodIn wsX6_run (wsV RX6 133 RX5 yX5_runToEnd wsX5_runToEnd) := goodIn_app (goodIn_of _ (by decide +kernel)) ggX6_run_X5_runToEnd
theorem dX6_run_0 : decode cX6_run 0 = .ok (.aload_n 0, 1) := by decide +kernel
theorem dX6_run_1 : decode cX6_run 1 = .ok (.getfield 10, 3) := by decide +kernel
theorem dX6_run_4 : decode cX6_run 4 = .ok (.invokevirtual 130, 3) := by decide +kernel
theorem dX6_run_7 : decode cX6_run 7 = .ok (.ifCond .ne 6, 3) := by decide +kernel
theorem dX6_run_10 : decode cX6_run 10 = .ok (.bipush (-3), 2) := by decide +kernel
theorem dX6_run_12 : decode cX6_run 12 = .ok (.ireturn, 1) := by decide +kernel
theorem dX6_run_13 : decode cX6_run 13 = .ok (.aload_n 0, 1) := by decide +kernel
theorem dX6_run_14 : decode cX6_run 14 = .ok (.getfield 25, 3) := by decide +kernel
theorem dX6_run_17 : decode cX6_run 17 = .ok (.aload_n 0, 1) := by decide +kernel
theorem dX6_run_18 : decode cX6_run 18 = .ok (.getfield 10, 3) := by decide +kernel
theorem dX6_run_21 : decode cX6_run 21 = .ok (.invokevirtual 61, 3) := by decide +kernel
theorem dX6_run_24 : decode cX6_run 24 = .ok (.aload_n 0, 1) := by decide +kernel
theorem dX6_run_25 : decode cX6_run 25 = .ok (.getfield 10, 3) := by decide +kernel
theorem dX6_run_28 : decode cX6_run 28 = .ok (.invokevirtual 133, 3) := by decide +kernel
theorem dX6_run_31 : decode cX6_run 31 = .ok (.ireturn, 1) := by decide +kernel
set_option maxRecDepth 20000 in
theorem ggX6_isMerging_X5_hasMerge : GoodIn wsX6_isMerging wsX5_hasMerge := goodIn_r _ [6, 7, 8, 20, 21, 22, 23, 24, 25, 26, 27, 28, 29, 30, 31, 32, 33, 34, 35, 36, 37, 38, 39] (by decide +kernel) (by decide +kernel)
set_option maxRecDepth 20000 in
theorem gX6_isMerging_X5_hasMerge : GoodIn wsX6_isMerging (wsV RX6 124 RX5 yX5_hasMerge wsX5_hasMerge) := goodIn_app (goodIn_of _ (by decide +kernel)) ggX6_isMerging_X5_hasMerge
set_option maxRecDepth 20000 in
theorem ggX6_isMerging_X6_asNumber : GoodIn wsX6_isMerging wsX6_asNumber := goodIn_r _ [12] (by decide +kernel) (by decide +kernel)
set_option maxRecDepth 20000 in
theorem gX6_isMerging_X6_asNumber : GoodIn wsX6_isMerging (va_wsS RX6 76 yX6_asNumber wsX6_asNumber) := goodIn_app (goodIn_of _ (by decide +kernel)) ggX6_isMerging_X6_asNumber
theorem dX6_isMerging_0 : decode cX6_isMerging 0 = .ok (.aload_n 0, 1) := by decide +kernel
theorem dX6_isMerging_1 : decode cX6_isMerging 1 = .ok (.getfield 10, 3) := by decide +kernel
theorem dX6_isMerging_4 : decode cX6_isMerging 4 = .ok (.invokevirtual 124, 3) := by decide +kernel
theorem dX6_isMerging_7 : decode cX6_isMerging 7 = .ok (.invokestatic 76, 3) := by decide +kernel
theorem dX6_isMerging_10 : decode cX6_isMerging 10 = .ok (.ireturn, 1) := by decide +kernel
set_option maxRecDepth 20000 in
theorem ggX6_isDone_X5_isSorted : GoodIn wsX6_isDone wsX5_isSorted := goodIn_r _ [6, 7, 8, 9, 10, 11, 12, 5, 13, 14, 26, 27, 28, 29, 30, 31, 32, 33, 34, 35, 36, 37, 38, 39, 40, 41, 42, 43, 44, 45] (by decide +kernel) (by decide +kernel)
set_option maxRecDepth 20000 in
theorem gX6_isDone_X5_isSorted : GoodIn wsX6_isDone (wsV RX6 136 RX5 yX5_isSorted wsX5_isSorted) := goodIn_app (goodIn_of _ (by decide +kernel)) ggX6_isDone_X5_isSorted
set_option maxRecDepth 20000 in
theorem ggX6_isDone_X6_asNumber : GoodIn wsX6_isDone wsX6_asNumber := goodIn_r _ [18] (by decide +kernel) (by decide +kernel)
set_option maxRecDepth 20000 in
theorem gX6_isDone_X6_asNumber : GoodIn wsX6_isDone (va_wsS RX6 76 yX6_asNumber wsX6_asNumber) := goodIn_app (goodIn_of _ (by decide +kernel)) ggX6_isDone_X6_asNumber
theorem dX6_isDone_0 : decode cX6_isDone 0 = .ok (.aload_n 0, 1) := by decide +kernel
theorem dX6_isDone_1 : decode cX6_isDone 1 = .ok (.getfield 10, 3) := by decide +kernel
theorem dX6_isDone_4 : decode cX6_isDone 4 = .ok (.invokevirtual 136, 3) := by decide +kernel
theorem dX6_isDone_7 : decode cX6_isDone 7 = .ok (.invokestatic 76, 3) := by decide +kernel
theorem dX6_isDone_10 : decode cX6_isDone 10 = .ok (.ireturn, 1) := by decide +kernel
set_option maxRecDepth 20000 in
theorem ggX6_ofMerge_X5_hasMerge : GoodIn wsX6_ofMerge wsX5_hasMerge := goodIn_r _ [10, 11, 12, 31, 32, 33, 34, 35, 36, 37, 38, 39, 40, 41, 42, 43, 44, 45, 46, 47, 48, 49, 50] (by decide +kernel) (by decide +kernel)
set_option maxRecDepth 20000 in
theorem gX6_ofMerge_X5_hasMerge : GoodIn wsX6_ofMerge (wsV RX6 124 RX5 yX5_hasMerge wsX5_hasMerge) := goodIn_app (goodIn_of _ (by decide +kernel)) ggX6_ofMerge_X5_hasMerge
set_option maxRecDepth 20000 in
theorem ggX6_ofMerge_X4_rowsInAll : GoodIn wsX6_ofMerge wsX4_rowsInAll := goodIn_r _ [17, 18, 19, 20, 21, 16, 22, 23, 47, 48, 49, 50] (by decide +kernel) (by decide +kernel)
set_option maxRecDepth 20000 in
theorem gX6_ofMerge_X4_rowsInAll : GoodIn wsX6_ofMerge (wsV RX6 148 RX4 yX4_rowsInAll wsX4_rowsInAll) := goodIn_app (goodIn_of _ (by decide +kernel)) ggX6_ofMerge_X4_rowsInAll
theorem dX6_ofMerge_0 : decode cX6_ofMerge 0 = .ok (.iload_n 1, 1) := by decide +kernel
theorem dX6_ofMerge_1 : decode cX6_ofMerge 1 = .ok (.ifCond .lt 8, 3) := by decide +kernel
theorem dX6_ofMerge_4 : decode cX6_ofMerge 4 = .ok (.iload_n 1, 1) := by decide +kernel
theorem dX6_ofMerge_5 : decode cX6_ofMerge 5 = .ok (.iconst 3, 1) := by decide +kernel
theorem dX6_ofMerge_6 : decode cX6_ofMerge 6 = .ok (.if_icmp .le 6, 3) := by decide +kernel
theorem dX6_ofMerge_9 : decode cX6_ofMerge 9 = .ok (.bipush (-2), 2) := by decide +kernel
theorem dX6_ofMerge_11 : decode cX6_ofMerge 11 = .ok (.ireturn, 1) := by decide +kernel
theorem dX6_ofMerge_12 : decode cX6_ofMerge 12 = .ok (.aload_n 0, 1) := by decide +kernel
theorem dX6_ofMerge_13 : decode cX6_ofMerge 13 = .ok (.getfield 10, 3) := by decide +kernel
theorem dX6_ofMerge_16 : decode cX6_ofMerge 16 = .ok (.invokevirtual 124, 3) := by decide +kernel
theorem dX6_ofMerge_19 : decode cX6_ofMerge 19 = .ok (.ifCond .ne 6, 3) := by decide +kernel
theorem dX6_ofMerge_22 : decode cX6_ofMerge 22 = .ok (.bipush (-6), 2) := by decide +kernel
theorem dX6_ofMerge_24 : decode cX6_ofMerge 24 = .ok (.ireturn, 1) := by decide +kernel
theorem dX6_ofMerge_25 : decode cX6_ofMerge 25 = .ok (.iload_n 1, 1) := by decide +kernel
theorem dX6_ofMerge_26 : decode cX6_ofMerge 26 = .ok (.tableswitch 53 0 2 #[26, 34, 45], 26) := by decide +kernel
theorem dX6_ofMerge_52 : decode cX6_ofMerge 52 = .ok (.aload_n 0, 1) := by decide +kernel
theorem dX6_ofMerge_53 : decode cX6_ofMerge 53 = .ok (.getfield 10, 3) := by decide +kernel
theorem dX6_ofMerge_56 : decode cX6_ofMerge 56 = .ok (.getfield 139, 3) := by decide +kernel
theorem dX6_ofMerge_59 : decode cX6_ofMerge 59 = .ok (.ireturn, 1) := by decide +kernel
theorem dX6_ofMerge_60 : decode cX6_ofMerge 60 = .ok (.aload_n 0, 1) := by decide +kernel
theorem dX6_ofMerge_61 : decode cX6_ofMerge 61 = .ok (.getfield 10, 3) := by decide +kernel
theorem dX6_ofMerge_64 : decode cX6_ofMerge 64 = .ok (.getfield 142, 3) := by decide +kernel
theorem dX6_ofMerge_67 : decode cX6_ofMerge 67 = .ok (.getfield 91, 3) := by decide +kernel
theorem dX6_ofMerge_70 : decode cX6_ofMerge 70 = .ok (.ireturn, 1) := by decide +kernel
theorem dX6_ofMerge_71 : decode cX6_ofMerge 71 = .ok (.aload_n 0, 1) := by decide +kernel
theorem dX6_ofMerge_72 : decode cX6_ofMerge 72 = .ok (.getfield 10, 3) := by decide +kernel
theorem dX6_ofMerge_75 : decode cX6_ofMerge 75 = .ok (.getfield 145, 3) := by decide +kernel
theorem dX6_ofMerge_78 : decode cX6_ofMerge 78 = .ok (.ireturn, 1) := by decide +kernel
theorem dX6_ofMerge_79 : decode cX6_ofMerge 79 = .ok (.aload_n 0, 1) := by decide +kernel
theorem dX6_ofMerge_80 : decode cX6_ofMerge 80 = .ok (.getfield 10, 3) := by decide +kernel
theorem dX6_ofMerge_83 : decode cX6_ofMerge 83 = .ok (.getfield 142, 3) := by decide +kernel
theorem dX6_ofMerge_86 : decode cX6_ofMerge 86 = .ok (.invokevirtual 148, 3) := by decide +kernel
theorem dX6_ofMerge_89 : decode cX6_ofMerge 89 = .ok (.ireturn, 1) := by decide +kernel
theorem dX6_runs_0 : decode cX6_runs 0 = .ok (.aload_n 0, 1) := by decide +kernel
theorem dX6_runs_1 : decode cX6_runs 1 = .ok (.getfield 10, 3) := by decide +kernel
theorem dX6_runs_4 : decode cX6_runs 4 = .ok (.getfield 87, 3) := by decide +kernel
theorem dX6_runs_7 : decode cX6_runs 7 = .ok (.getfield 91, 3) := by decide +kernel
theorem dX6_runs_10 : decode cX6_runs 10 = .ok (.ireturn, 1) := by decide +kernel
set_option maxRecDepth 20000 in
theorem ggX6_runAt_X4_has : GoodIn wsX6_runAt wsX4_has := goodIn_r _ [7, 8, 37, 38, 39, 40] (by decide +kernel) (by decide +kernel)
set_option maxRecDepth 20000 in
theorem gX6_runAt_X4_has : GoodIn wsX6_runAt (wsV RX6 151 RX4 yX4_has wsX4_has) := goodIn_app (goodIn_of _ (by decide +kernel)) ggX6_runAt_X4_has
set_option maxRecDepth 20000 in
theorem ggX6_runAt_X4_numberAt : GoodIn wsX6_runAt wsX4_numberAt := goodIn_r _ [12, 13, 37, 38, 39, 40] (by decide +kernel) (by decide +kernel)
set_option maxRecDepth 20000 in
theorem gX6_runAt_X4_numberAt : GoodIn wsX6_runAt (wsV RX6 154 RX4 yX4_numberAt wsX4_numberAt) := goodIn_app (goodIn_of _ (by decide +kernel)) ggX6_runAt_X4_numberAt
theorem dX6_runAt_0 : decode cX6_runAt 0 = .ok (.aload_n 0, 1) := by decide +kernel
theorem dX6_runAt_1 : decode cX6_runAt 1 = .ok (.getfield 10, 3) := by decide +kernel
theorem dX6_runAt_4 : decode cX6_runAt 4 = .ok (.getfield 87, 3) := by decide +kernel
theorem dX6_runAt_7 : decode cX6_runAt 7 = .ok (.iload_n 1, 1) := by decide +kernel
theorem dX6_runAt_8 : decode cX6_runAt 8 = .ok (.invokevirtual 151, 3) := by decide +kernel
theorem dX6_runAt_11 : decode cX6_runAt 11 = .ok (.ifCond .ne 5, 3) := by decide +kernel
theorem dX6_runAt_14 : decode cX6_runAt 14 = .ok (.iconst (-1), 1) := by decide +kernel
theorem dX6_runAt_15 : decode cX6_runAt 15 = .ok (.ireturn, 1) := by decide +kernel
theorem dX6_runAt_16 : decode cX6_runAt 16 = .ok (.aload_n 0, 1) := by decide +kernel
theorem dX6_runAt_17 : decode cX6_runAt 17 = .ok (.getfield 10, 3) := by decide +kernel
theorem dX6_runAt_20 : decode cX6_runAt 20 = .ok (.getfield 87, 3) := by decide +kernel
theorem dX6_runAt_23 : decode cX6_runAt 23 = .ok (.iload_n 1, 1) := by decide +kernel
theorem dX6_runAt_24 : decode cX6_runAt 24 = .ok (.invokevirtual 154, 3) := by decide +kernel
theorem dX6_runAt_27 : decode cX6_runAt 27 = .ok (.ireturn, 1) := by decide +kernel
set_option maxRecDepth 20000 in
theorem ggX6_size_X4_placeOf : GoodIn wsX6_size wsX4_placeOf := goodIn_r _ [7, 8, 9, 10, 11, 6, 12, 13, 46, 47, 48, 49] (by decide +kernel) (by decide +kernel)
set_option maxRecDepth 20000 in
theorem gX6_size_X4_placeOf : GoodIn wsX6_size (wsV RX6 157 RX4 yX4_placeOf wsX4_placeOf) := goodIn_app (goodIn_of _ (by decide +kernel)) ggX6_size_X4_placeOf
set_option maxRecDepth 20000 in
theorem ggX6_size_X4_has : GoodIn wsX6_size wsX4_has := goodIn_r _ [17, 8, 46, 47, 48, 49] (by decide +kernel) (by decide +kernel)
set_option maxRecDepth 20000 in
theorem gX6_size_X4_has : GoodIn wsX6_size (wsV RX6 151 RX4 yX4_has wsX4_has) := goodIn_app (goodIn_of _ (by decide +kernel)) ggX6_size_X4_has
set_option maxRecDepth 20000 in
theorem ggX6_size_X4_lengthAt : GoodIn wsX6_size wsX4_lengthAt := goodIn_r _ [21, 22, 46, 47, 48, 49] (by decide +kernel) (by decide +kernel)
set_option maxRecDepth 20000 in
theorem gX6_size_X4_lengthAt : GoodIn wsX6_size (wsV RX6 160 RX4 yX4_lengthAt wsX4_lengthAt) := goodIn_app (goodIn_of _ (by decide +kernel)) ggX6_size_X4_lengthAt
theorem dX6_size_0 : decode cX6_size 0 = .ok (.aload_n 0, 1) := by decide +kernel
theorem dX6_size_1 : decode cX6_size 1 = .ok (.getfield 10, 3) := by decide +kernel
theorem dX6_size_4 : decode cX6_size 4 = .ok (.getfield 87, 3) := by decide +kernel
theorem dX6_size_7 : decode cX6_size 7 = .ok (.iload_n 1, 1) := by decide +kernel
theorem dX6_size_8 : decode cX6_size 8 = .ok (.invokevirtual 157, 3) := by decide +kernel
theorem dX6_size_11 : decode cX6_size 11 = .ok (.istore_n 2, 1) := by decide +kernel
theorem dX6_size_12 : decode cX6_size 12 = .ok (.aload_n 0, 1) := by decide +kernel
theorem dX6_size_13 : decode cX6_size 13 = .ok (.getfield 10, 3) := by decide +kernel
theorem dX6_size_16 : decode cX6_size 16 = .ok (.getfield 87, 3) := by decide +kernel
theorem dX6_size_19 : decode cX6_size 19 = .ok (.iload_n 2, 1) := by decide +kernel
theorem dX6_size_20 : decode cX6_size 20 = .ok (.invokevirtual 151, 3) := by decide +kernel
theorem dX6_size_23 : decode cX6_size 23 = .ok (.ifCond .ne 5, 3) := by decide +kernel
theorem dX6_size_26 : decode cX6_size 26 = .ok (.iconst (-1), 1) := by decide +kernel
theorem dX6_size_27 : decode cX6_size 27 = .ok (.ireturn, 1) := by decide +kernel
theorem dX6_size_28 : decode cX6_size 28 = .ok (.aload_n 0, 1) := by decide +kernel
theorem dX6_size_29 : decode cX6_size 29 = .ok (.getfield 10, 3) := by decide +kernel
theorem dX6_size_32 : decode cX6_size 32 = .ok (.getfield 87, 3) := by decide +kernel
theorem dX6_size_35 : decode cX6_size 35 = .ok (.iload_n 2, 1) := by decide +kernel
theorem dX6_size_36 : decode cX6_size 36 = .ok (.invokevirtual 160, 3) := by decide +kernel
theorem dX6_size_39 : decode cX6_size 39 = .ok (.ireturn, 1) := by decide +kernel
set_option maxRecDepth 20000 in
theorem ggX6_row_X5_rowOfRun : GoodIn wsX6_row wsX5_rowOfRun := goodIn_r _ [7, 8, 9, 10, 11, 12, 13, 14, 15, 16, 17, 18, 19, 20, 21, 22, 23, 24, 25, 26, 27, 28, 29, 30, 31, 32, 33, 34, 35, 36, 37, 38, 39, 40, 63, 64, 65, 66, 67, 68, 69, 70, 71, 72, 73, 74, 75, 76, 77, 78, 79, 80, 81, 82, 83, 84, 85, 86] (by decide +kernel) (by decide +kernel)
set_option maxRecDepth 20000 in
theorem gX6_row_X5_rowOfRun : GoodIn wsX6_row (wsV RX6 163 RX5 yX5_rowOfRun wsX5_rowOfRun) := goodIn_app (goodIn_of _ (by decide +kernel)) ggX6_row_X5_rowOfRun
set_option maxRecDepth 20000 in
theorem ggX6_row_X3_has : GoodIn wsX6_row wsX3_has := goodIn_r _ [44, 45, 83, 84, 85, 86] (by decide +kernel) (by decide +kernel)
set_option maxRecDepth 20000 in
theorem gX6_row_X3_has : GoodIn wsX6_row (wsV RX6 167 RX3 yX3_has wsX3_has) := goodIn_app (goodIn_of _ (by decide +kernel)) ggX6_row_X3_has
set_option maxRecDepth 20000 in
theorem ggX6_row_X3_keyOf : GoodIn wsX6_row wsX3_keyOf := goodIn_r _ [49, 50, 83, 84, 85, 86] (by decide +kernel) (by decide +kernel)
set_option maxRecDepth 20000 in
theorem gX6_row_X3_keyOf : GoodIn wsX6_row (wsV RX6 115 RX3 yX3_keyOf wsX3_keyOf) := goodIn_app (goodIn_of _ (by decide +kernel)) ggX6_row_X3_keyOf
set_option maxRecDepth 20000 in
theorem ggX6_row_X3_countOf : GoodIn wsX6_row wsX3_countOf := goodIn_r _ [54, 55, 83, 84, 85, 86] (by decide +kernel) (by decide +kernel)
set_option maxRecDepth 20000 in
theorem gX6_row_X3_countOf : GoodIn wsX6_row (wsV RX6 168 RX3 yX3_countOf wsX3_countOf) := goodIn_app (goodIn_of _ (by decide +kernel)) ggX6_row_X3_countOf
theorem dX6_row_0 : decode cX6_row 0 = .ok (.aload_n 0, 1) := by decide +kernel
theorem dX6_row_1 : decode cX6_row 1 = .ok (.getfield 10, 3) := by decide +kernel
theorem dX6_row_4 : decode cX6_row 4 = .ok (.iload_n 1, 1) := by decide +kernel
theorem dX6_row_5 : decode cX6_row 5 = .ok (.iload_n 2, 1) := by decide +kernel
theorem dX6_row_6 : decode cX6_row 6 = .ok (.invokevirtual 163, 3) := by decide +kernel
theorem dX6_row_9 : decode cX6_row 9 = .ok (.istore 4, 2) := by decide +kernel
theorem dX6_row_11 : decode cX6_row 11 = .ok (.aload_n 0, 1) := by decide +kernel
theorem dX6_row_12 : decode cX6_row 12 = .ok (.getfield 10, 3) := by decide +kernel
theorem dX6_row_15 : decode cX6_row 15 = .ok (.getfield 51, 3) := by decide +kernel
theorem dX6_row_18 : decode cX6_row 18 = .ok (.iload 4, 2) := by decide +kernel
theorem dX6_row_20 : decode cX6_row 20 = .ok (.invokevirtual 167, 3) := by decide +kernel
theorem dX6_row_23 : decode cX6_row 23 = .ok (.ifCond .ne 5, 3) := by decide +kernel
theorem dX6_row_26 : decode cX6_row 26 = .ok (.iconst (-1), 1) := by decide +kernel
theorem dX6_row_27 : decode cX6_row 27 = .ok (.ireturn, 1) := by decide +kernel
theorem dX6_row_28 : decode cX6_row 28 = .ok (.iload_n 3, 1) := by decide +kernel
theorem dX6_row_29 : decode cX6_row 29 = .ok (.tableswitch 56 0 2 #[27, 40, 43], 27) := by decide +kernel
theorem dX6_row_56 : decode cX6_row 56 = .ok (.aload_n 0, 1) := by decide +kernel
theorem dX6_row_57 : decode cX6_row 57 = .ok (.getfield 10, 3) := by decide +kernel
theorem dX6_row_60 : decode cX6_row 60 = .ok (.getfield 51, 3) := by decide +kernel
theorem dX6_row_63 : decode cX6_row 63 = .ok (.iload 4, 2) := by decide +kernel
theorem dX6_row_65 : decode cX6_row 65 = .ok (.invokevirtual 115, 3) := by decide +kernel
theorem dX6_row_68 : decode cX6_row 68 = .ok (.ireturn, 1) := by decide +kernel
theorem dX6_row_69 : decode cX6_row 69 = .ok (.iload 4, 2) := by decide +kernel
theorem dX6_row_71 : decode cX6_row 71 = .ok (.ireturn, 1) := by decide +kernel
theorem dX6_row_72 : decode cX6_row 72 = .ok (.aload_n 0, 1) := by decide +kernel
theorem dX6_row_73 : decode cX6_row 73 = .ok (.getfield 10, 3) := by decide +kernel
theorem dX6_row_76 : decode cX6_row 76 = .ok (.getfield 51, 3) := by decide +kernel
theorem dX6_row_79 : decode cX6_row 79 = .ok (.iload 4, 2) := by decide +kernel
theorem dX6_row_81 : decode cX6_row 81 = .ok (.invokevirtual 168, 3) := by decide +kernel
theorem dX6_row_84 : decode cX6_row 84 = .ok (.ireturn, 1) := by decide +kernel
theorem dX6_row_85 : decode cX6_row 85 = .ok (.bipush (-2), 2) := by decide +kernel
theorem dX6_row_87 : decode cX6_row 87 = .ok (.ireturn, 1) := by decide +kernel
set_option maxRecDepth 20000 in
theorem ggX6_count_X3_rowsKept : GoodIn wsX6_count wsX3_rowsKept := goodIn_r _ [12, 13, 14, 15, 16, 11, 17, 18, 51, 52, 53, 54] (by decide +kernel) (by decide +kernel)
set_option maxRecDepth 20000 in
theorem gX6_count_X3_rowsKept : GoodIn wsX6_count (wsV RX6 171 RX3 yX3_rowsKept wsX3_rowsKept) := goodIn_app (goodIn_of _ (by decide +kernel)) ggX6_count_X3_rowsKept
set_option maxRecDepth 20000 in
theorem ggX6_count_X3_countsBelow : GoodIn wsX6_count wsX3_countsBelow := goodIn_r _ [22, 13, 23, 24, 25, 11, 26, 27, 14, 15, 16, 17, 18, 51, 52, 53, 54] (by decide +kernel) (by decide +kernel)
set_option maxRecDepth 20000 in
theorem gX6_count_X3_countsBelow : GoodIn wsX6_count (wsV RX6 174 RX3 yX3_countsBelow wsX3_countsBelow) := goodIn_app (goodIn_of _ (by decide +kernel)) ggX6_count_X3_countsBelow
theorem dX6_count_0 : decode cX6_count 0 = .ok (.iload_n 1, 1) := by decide +kernel
theorem dX6_count_1 : decode cX6_count 1 = .ok (.tableswitch 111 0 6 #[43, 54, 65, 79, 87, 95, 103], 43) := by decide +kernel
theorem dX6_count_44 : decode cX6_count 44 = .ok (.aload_n 0, 1) := by decide +kernel
theorem dX6_count_45 : decode cX6_count 45 = .ok (.getfield 10, 3) := by decide +kernel
theorem dX6_count_48 : decode cX6_count 48 = .ok (.getfield 51, 3) := by decide +kernel
theorem dX6_count_51 : decode cX6_count 51 = .ok (.getfield 69, 3) := by decide +kernel
theorem dX6_count_54 : decode cX6_count 54 = .ok (.ireturn, 1) := by decide +kernel
theorem dX6_count_55 : decode cX6_count 55 = .ok (.aload_n 0, 1) := by decide +kernel
theorem dX6_count_56 : decode cX6_count 56 = .ok (.getfield 10, 3) := by decide +kernel
theorem dX6_count_59 : decode cX6_count 59 = .ok (.getfield 51, 3) := by decide +kernel
theorem dX6_count_62 : decode cX6_count 62 = .ok (.invokevirtual 171, 3) := by decide +kernel
theorem dX6_count_65 : decode cX6_count 65 = .ok (.ireturn, 1) := by decide +kernel
theorem dX6_count_66 : decode cX6_count 66 = .ok (.aload_n 0, 1) := by decide +kernel
theorem dX6_count_67 : decode cX6_count 67 = .ok (.getfield 10, 3) := by decide +kernel
theorem dX6_count_70 : decode cX6_count 70 = .ok (.getfield 51, 3) := by decide +kernel
theorem dX6_count_73 : decode cX6_count 73 = .ok (.sipush 1000, 3) := by decide +kernel
theorem dX6_count_76 : decode cX6_count 76 = .ok (.invokevirtual 174, 3) := by decide +kernel
theorem dX6_count_79 : decode cX6_count 79 = .ok (.ireturn, 1) := by decide +kernel
theorem dX6_count_80 : decode cX6_count 80 = .ok (.aload_n 0, 1) := by decide +kernel
theorem dX6_count_81 : decode cX6_count 81 = .ok (.getfield 10, 3) := by decide +kernel
theorem dX6_count_84 : decode cX6_count 84 = .ok (.getfield 177, 3) := by decide +kernel
theorem dX6_count_87 : decode cX6_count 87 = .ok (.ireturn, 1) := by decide +kernel
theorem dX6_count_88 : decode cX6_count 88 = .ok (.aload_n 0, 1) := by decide +kernel
theorem dX6_count_89 : decode cX6_count 89 = .ok (.getfield 10, 3) := by decide +kernel
theorem dX6_count_92 : decode cX6_count 92 = .ok (.getfield 180, 3) := by decide +kernel
theorem dX6_count_95 : decode cX6_count 95 = .ok (.ireturn, 1) := by decide +kernel
theorem dX6_count_96 : decode cX6_count 96 = .ok (.aload_n 0, 1) := by decide +kernel
theorem dX6_count_97 : decode cX6_count 97 = .ok (.getfield 10, 3) := by decide +kernel
theorem dX6_count_100 : decode cX6_count 100 = .ok (.getfield 183, 3) := by decide +kernel
theorem dX6_count_103 : decode cX6_count 103 = .ok (.ireturn, 1) := by decide +kernel
theorem dX6_count_104 : decode cX6_count 104 = .ok (.aload_n 0, 1) := by decide +kernel
theorem dX6_count_105 : decode cX6_count 105 = .ok (.getfield 10, 3) := by decide +kernel
theorem dX6_count_108 : decode cX6_count 108 = .ok (.getfield 186, 3) := by decide +kernel
theorem dX6_count_111 : decode cX6_count 111 = .ok (.ireturn, 1) := by decide +kernel
theorem dX6_count_112 : decode cX6_count 112 = .ok (.bipush (-2), 2) := by decide +kernel
theorem dX6_count_114 : decode cX6_count 114 = .ok (.ireturn, 1) := by decide +kernel
set_option maxRecDepth 20000 in
theorem ggX6_rank_X6_isKey : GoodIn wsX6_rank wsX6_isKey := goodIn_r _ [6] (by decide +kernel) (by decide +kernel)
set_option maxRecDepth 20000 in
theorem gX6_rank_X6_isKey : GoodIn wsX6_rank (va_wsS RX6 43 yX6_isKey wsX6_isKey) := goodIn_app (goodIn_of _ (by decide +kernel)) ggX6_rank_X6_isKey
set_option maxRecDepth 20000 in
theorem ggX6_rank_X3_countsBelow : GoodIn wsX6_rank wsX3_countsBelow := goodIn_r _ [11, 12, 13, 14, 15, 10, 16, 17, 18, 19, 20, 21, 22, 46, 47, 48, 49] (by decide +kernel) (by decide +kernel)
set_option maxRecDepth 20000 in
theorem gX6_rank_X3_countsBelow : GoodIn wsX6_rank (wsV RX6 174 RX3 yX3_countsBelow wsX3_countsBelow) := goodIn_app (goodIn_of _ (by decide +kernel)) ggX6_rank_X3_countsBelow
theorem dX6_rank_0 : decode cX6_rank 0 = .ok (.iload_n 1, 1) := by decide +kernel
theorem dX6_rank_1 : decode cX6_rank 1 = .ok (.invokestatic 43, 3) := by decide +kernel
theorem dX6_rank_4 : decode cX6_rank 4 = .ok (.ifCond .ne 6, 3) := by decide +kernel
theorem dX6_rank_7 : decode cX6_rank 7 = .ok (.bipush (-2), 2) := by decide +kernel
theorem dX6_rank_9 : decode cX6_rank 9 = .ok (.ireturn, 1) := by decide +kernel
theorem dX6_rank_10 : decode cX6_rank 10 = .ok (.aload_n 0, 1) := by decide +kernel
theorem dX6_rank_11 : decode cX6_rank 11 = .ok (.getfield 10, 3) := by decide +kernel
theorem dX6_rank_14 : decode cX6_rank 14 = .ok (.getfield 51, 3) := by decide +kernel
theorem dX6_rank_17 : decode cX6_rank 17 = .ok (.iload_n 1, 1) := by decide +kernel
theorem dX6_rank_18 : decode cX6_rank 18 = .ok (.invokevirtual 174, 3) := by decide +kernel
theorem dX6_rank_21 : decode cX6_rank 21 = .ok (.ireturn, 1) := by decide +kernel
set_option maxRecDepth 20000 in
theorem ggX6_costsWith_X6_isMemorySize : GoodIn wsX6_costsWith wsX6_isMemorySize := goodIn_r _ [7] (by decide +kernel) (by decide +kernel)
set_option maxRecDepth 20000 in
theorem gX6_costsWith_X6_isMemorySize : GoodIn wsX6_costsWith (va_wsS RX6 94 yX6_isMemorySize wsX6_isMemorySize) := goodIn_app (goodIn_of _ (by decide +kernel)) ggX6_costsWith_X6_isMemorySize
set_option maxRecDepth 20000 in
theorem ggX6_costsWith_X6_foretell : GoodIn wsX6_costsWith wsX6_foretell := goodIn_r _ [11, 1, 3, 12, 13, 14, 15, 16, 17, 18, 19, 20, 21, 22, 23, 24, 25, 26, 27, 28, 29, 30, 31, 32, 33, 34, 35, 36, 37, 38, 39, 40, 41, 42, 43, 44, 45, 46, 47, 48, 49, 50, 51, 52, 53, 54, 55, 56, 57, 58, 59, 60, 61, 62, 63, 64, 65, 66, 67, 68, 69, 70, 71, 72, 73, 74, 75, 76, 77, 78, 79, 80, 81, 82, 83, 84, 85, 86, 87, 88, 89, 90, 91, 92, 93, 94, 95, 96, 97, 98, 99, 100, 101, 102, 103, 104, 105, 106, 107, 108, 109, 110, 111, 112, 113, 114, 115, 116, 117, 118, 119, 120, 121, 122, 123, 124, 125, 126, 127, 128, 129, 130, 131, 132, 133, 134, 135, 136, 137, 138, 139, 140, 141, 142, 143, 144, 145, 146, 147, 148, 149, 150, 151, 152, 153, 154, 155, 156, 157, 158, 159, 160, 161, 162, 163, 164, 165, 166, 167, 168, 169, 170, 171, 172, 173, 174, 175, 176, 177, 178, 179, 180, 181, 182, 183, 184, 185, 186, 187, 188, 189, 190, 191, 192, 193, 194, 195, 196, 197, 198, 199, 200, 201, 202, 203, 204, 205, 206, 207, 208, 209, 210, 211, 212, 213, 214, 215, 216, 217] (by decide +kernel) (by decide +kernel)
set_option maxRecDepth 20000 in
theorem gX6_costsWith_X6_foretell : GoodIn wsX6_costsWith (wsV RX6 189 RX6 yX6_foretell wsX6_foretell) := goodIn_app (goodIn_of _ (by decide +kernel)) ggX6_costsWith_X6_foretell
theorem dX6_costsWith_0 : decode cX6_costsWith 0 = .ok (.iload_n 1, 1) := by decide +kernel
theorem dX6_costsWith_1 : decode cX6_costsWith 1 = .ok (.invokestatic 94, 3) := by decide +kernel
theorem dX6_costsWith_4 : decode cX6_costsWith 4 = .ok (.ifCond .ne 6, 3) := by decide +kernel
theorem dX6_costsWith_7 : decode cX6_costsWith 7 = .ok (.bipush (-2), 2) := by decide +kernel
theorem dX6_costsWith_9 : decode cX6_costsWith 9 = .ok (.ireturn, 1) := by decide +kernel
theorem dX6_costsWith_10 : decode cX6_costsWith 10 = .ok (.aload_n 0, 1) := by decide +kernel
theorem dX6_costsWith_11 : decode cX6_costsWith 11 = .ok (.iload_n 1, 1) := by decide +kernel
theorem dX6_costsWith_12 : decode cX6_costsWith 12 = .ok (.invokevirtual 189, 3) := by decide +kernel
theorem dX6_costsWith_15 : decode cX6_costsWith 15 = .ok (.ifCond .ne 6, 3) := by decide +kernel
theorem dX6_costsWith_18 : decode cX6_costsWith 18 = .ok (.bipush (-3), 2) := by decide +kernel
theorem dX6_costsWith_20 : decode cX6_costsWith 20 = .ok (.ireturn, 1) := by decide +kernel
theorem dX6_costsWith_21 : decode cX6_costsWith 21 = .ok (.aload_n 0, 1) := by decide +kernel
theorem dX6_costsWith_22 : decode cX6_costsWith 22 = .ok (.getfield 16, 3) := by decide +kernel
theorem dX6_costsWith_25 : decode cX6_costsWith 25 = .ok (.getfield 177, 3) := by decide +kernel
theorem dX6_costsWith_28 : decode cX6_costsWith 28 = .ok (.aload_n 0, 1) := by decide +kernel
theorem dX6_costsWith_29 : decode cX6_costsWith 29 = .ok (.getfield 10, 3) := by decide +kernel
theorem dX6_costsWith_32 : decode cX6_costsWith 32 = .ok (.getfield 177, 3) := by decide +kernel
theorem dX6_costsWith_35 : decode cX6_costsWith 35 = .ok (.isub, 1) := by decide +kernel
theorem dX6_costsWith_36 : decode cX6_costsWith 36 = .ok (.ireturn, 1) := by decide +kernel
set_option maxRecDepth 20000 in
theorem ggX6_mergesWith_X6_isMemorySize : GoodIn wsX6_mergesWith wsX6_isMemorySize := goodIn_r _ [7] (by decide +kernel) (by decide +kernel)
set_option maxRecDepth 20000 in
theorem gX6_mergesWith_X6_isMemorySize : GoodIn wsX6_mergesWith (va_wsS RX6 94 yX6_isMemorySize wsX6_isMemorySize) := goodIn_app (goodIn_of _ (by decide +kernel)) ggX6_mergesWith_X6_isMemorySize
set_option maxRecDepth 20000 in
theorem ggX6_mergesWith_X6_foretell : GoodIn wsX6_mergesWith wsX6_foretell := goodIn_r _ [11, 1, 3, 12, 13, 14, 15, 16, 17, 18, 19, 20, 21, 22, 23, 24, 25, 26, 27, 28, 29, 30, 31, 32, 33, 34, 35, 36, 37, 38, 39, 40, 41, 42, 43, 44, 45, 46, 47, 48, 49, 50, 51, 52, 53, 54, 55, 56, 57, 58, 59, 60, 61, 62, 63, 64, 65, 66, 67, 68, 69, 70, 71, 72, 73, 74, 75, 76, 77, 78, 79, 80, 81, 82, 83, 84, 85, 86, 87, 88, 89, 90, 91, 92, 93, 94, 95, 96, 97, 98, 99, 100, 101, 102, 103, 104, 105, 106, 107, 108, 109, 110, 111, 112, 113, 114, 115, 116, 117, 118, 119, 120, 121, 122, 123, 124, 125, 126, 127, 128, 129, 130, 131, 132, 133, 134, 135, 136, 137, 138, 139, 140, 141, 142, 143, 144, 145, 146, 147, 148, 149, 150, 151, 152, 153, 154, 155, 156, 157, 158, 159, 160, 161, 162, 163, 164, 165, 166, 167, 168, 169, 170, 171, 172, 173, 174, 175, 176, 177, 178, 179, 180, 181, 182, 183, 184, 185, 186, 187, 188, 189, 190, 191, 192, 193, 194, 195, 196, 197, 198, 199, 200, 201, 202, 203, 204, 205, 206, 207, 208, 209, 210, 211, 212, 213, 214, 215, 216, 217] (by decide +kernel) (by decide +kernel)
set_option maxRecDepth 20000 in
theorem gX6_mergesWith_X6_foretell : GoodIn wsX6_mergesWith (wsV RX6 189 RX6 yX6_foretell wsX6_foretell) := goodIn_app (goodIn_of _ (by decide +kernel)) ggX6_mergesWith_X6_foretell
theorem dX6_mergesWith_0 : decode cX6_mergesWith 0 = .ok (.iload_n 1, 1) := by decide +kernel
theorem dX6_mergesWith_1 : decode cX6_mergesWith 1 = .ok (.invokestatic 94, 3) := by decide +kernel
theorem dX6_mergesWith_4 : decode cX6_mergesWith 4 = .ok (.ifCond .ne 6, 3) := by decide +kernel
theorem dX6_mergesWith_7 : decode cX6_mergesWith 7 = .ok (.bipush (-2), 2) := by decide +kernel
theorem dX6_mergesWith_9 : decode cX6_mergesWith 9 = .ok (.ireturn, 1) := by decide +kernel
theorem dX6_mergesWith_10 : decode cX6_mergesWith 10 = .ok (.aload_n 0, 1) := by decide +kernel
theorem dX6_mergesWith_11 : decode cX6_mergesWith 11 = .ok (.iload_n 1, 1) := by decide +kernel
theorem dX6_mergesWith_12 : decode cX6_mergesWith 12 = .ok (.invokevirtual 189, 3) := by decide +kernel
theorem dX6_mergesWith_15 : decode cX6_mergesWith 15 = .ok (.ifCond .ne 6, 3) := by decide +kernel
theorem dX6_mergesWith_18 : decode cX6_mergesWith 18 = .ok (.bipush (-3), 2) := by decide +kernel
theorem dX6_mergesWith_20 : decode cX6_mergesWith 20 = .ok (.ireturn, 1) := by decide +kernel
theorem dX6_mergesWith_21 : decode cX6_mergesWith 21 = .ok (.aload_n 0, 1) := by decide +kernel
theorem dX6_mergesWith_22 : decode cX6_mergesWith 22 = .ok (.getfield 16, 3) := by decide +kernel
theorem dX6_mergesWith_25 : decode cX6_mergesWith 25 = .ok (.getfield 180, 3) := by decide +kernel
theorem dX6_mergesWith_28 : decode cX6_mergesWith 28 = .ok (.aload_n 0, 1) := by decide +kernel
theorem dX6_mergesWith_29 : decode cX6_mergesWith 29 = .ok (.getfield 10, 3) := by decide +kernel
theorem dX6_mergesWith_32 : decode cX6_mergesWith 32 = .ok (.getfield 180, 3) := by decide +kernel
theorem dX6_mergesWith_35 : decode cX6_mergesWith 35 = .ok (.isub, 1) := by decide +kernel
theorem dX6_mergesWith_36 : decode cX6_mergesWith 36 = .ok (.ireturn, 1) := by decide +kernel
set_option maxRecDepth 20000 in
theorem ggX6_bestSize_X6_foretell : GoodIn wsX6_bestSize wsX6_foretell := goodIn_r _ [7, 1, 8, 9, 10, 11, 12, 13, 14, 15, 16, 17, 18, 19, 20, 21, 22, 23, 24, 25, 26, 27, 28, 29, 30, 31, 32, 33, 34, 35, 36, 37, 38, 39, 40, 41, 42, 43, 44, 45, 46, 47, 48, 49, 50, 51, 52, 53, 54, 55, 56, 57, 58, 59, 60, 61, 62, 63, 64, 65, 66, 67, 68, 69, 70, 71, 72, 73, 74, 75, 76, 77, 78, 79, 80, 81, 82, 83, 84, 85, 86, 87, 88, 89, 90, 91, 92, 93, 94, 95, 96, 97, 98, 99, 100, 101, 102, 103, 104, 105, 106, 107, 108, 109, 110, 111, 112, 113, 114, 115, 116, 117, 118, 119, 120, 121, 122, 123, 124, 125, 126, 127, 128, 129, 130, 131, 132, 133, 134, 135, 136, 137, 138, 139, 140, 141, 142, 143, 144, 145, 146, 147, 148, 149, 150, 151, 152, 153, 154, 155, 156, 157, 158, 159, 160, 161, 162, 163, 164, 165, 166, 167, 168, 169, 170, 171, 172, 173, 174, 175, 176, 177, 178, 179, 180, 181, 182, 183, 184, 185, 186, 187, 188, 189, 190, 191, 192, 193, 194, 195, 196, 197, 198, 199, 200, 201, 202, 203, 204, 205, 206, 207, 208, 209, 210, 211, 212, 213, 214] (by decide +kernel) (by decide +kernel)
set_option maxRecDepth 20000 in
theorem gX6_bestSize_X6_foretell : GoodIn wsX6_bestSize (wsV RX6 189 RX6 yX6_foretell wsX6_foretell) := goodIn_app (goodIn_of _ (by decide +kernel)) ggX6_bestSize_X6_foretell
theorem dX6_bestSize_0 : decode cX6_bestSize 0 = .ok (.bipush (-6), 2) := by decide +kernel
theorem dX6_bestSize_2 : decode cX6_bestSize 2 = .ok (.istore_n 1, 1) := by decide +kernel
theorem dX6_bestSize_3 : decode cX6_bestSize 3 = .ok (.iconst 0, 1) := by decide +kernel
theorem dX6_bestSize_4 : decode cX6_bestSize 4 = .ok (.istore_n 2, 1) := by decide +kernel
theorem dX6_bestSize_5 : decode cX6_bestSize 5 = .ok (.iconst 2, 1) := by decide +kernel
theorem dX6_bestSize_6 : decode cX6_bestSize 6 = .ok (.istore_n 3, 1) := by decide +kernel
theorem dX6_bestSize_7 : decode cX6_bestSize 7 = .ok (.iload_n 3, 1) := by decide +kernel
theorem dX6_bestSize_8 : decode cX6_bestSize 8 = .ok (.bipush 9, 2) := by decide +kernel
theorem dX6_bestSize_10 : decode cX6_bestSize 10 = .ok (.if_icmp .gt 44, 3) := by decide +kernel
theorem dX6_bestSize_13 : decode cX6_bestSize 13 = .ok (.aload_n 0, 1) := by decide +kernel
theorem dX6_bestSize_14 : decode cX6_bestSize 14 = .ok (.iload_n 3, 1) := by decide +kernel
theorem dX6_bestSize_15 : decode cX6_bestSize 15 = .ok (.invokevirtual 189, 3) := by decide +kernel
theorem dX6_bestSize_18 : decode cX6_bestSize 18 = .ok (.ifCond .eq 30, 3) := by decide +kernel
theorem dX6_bestSize_21 : decode cX6_bestSize 21 = .ok (.iload_n 1, 1) := by decide +kernel
theorem dX6_bestSize_22 : decode cX6_bestSize 22 = .ok (.bipush (-6), 2) := by decide +kernel
theorem dX6_bestSize_24 : decode cX6_bestSize 24 = .ok (.if_icmp .eq 14, 3) := by decide +kernel
theorem dX6_bestSize_27 : decode cX6_bestSize 27 = .ok (.aload_n 0, 1) := by decide +kernel
theorem dX6_bestSize_28 : decode cX6_bestSize 28 = .ok (.getfield 16, 3) := by decide +kernel
theorem dX6_bestSize_31 : decode cX6_bestSize 31 = .ok (.getfield 177, 3) := by decide +kernel
theorem dX6_bestSize_34 : decode cX6_bestSize 34 = .ok (.iload_n 2, 1) := by decide +kernel
theorem dX6_bestSize_35 : decode cX6_bestSize 35 = .ok (.if_icmp .ge 13, 3) := by decide +kernel
theorem dX6_bestSize_38 : decode cX6_bestSize 38 = .ok (.iload_n 3, 1) := by decide +kernel
theorem dX6_bestSize_39 : decode cX6_bestSize 39 = .ok (.istore_n 1, 1) := by decide +kernel
theorem dX6_bestSize_40 : decode cX6_bestSize 40 = .ok (.aload_n 0, 1) := by decide +kernel
theorem dX6_bestSize_41 : decode cX6_bestSize 41 = .ok (.getfield 16, 3) := by decide +kernel
theorem dX6_bestSize_44 : decode cX6_bestSize 44 = .ok (.getfield 177, 3) := by decide +kernel
theorem dX6_bestSize_47 : decode cX6_bestSize 47 = .ok (.istore_n 2, 1) := by decide +kernel
theorem dX6_bestSize_48 : decode cX6_bestSize 48 = .ok (.iinc 3 1, 3) := by decide +kernel
theorem dX6_bestSize_51 : decode cX6_bestSize 51 = .ok (.goto (-44), 3) := by decide +kernel
theorem dX6_bestSize_54 : decode cX6_bestSize 54 = .ok (.iload_n 1, 1) := by decide +kernel
theorem dX6_bestSize_55 : decode cX6_bestSize 55 = .ok (.ireturn, 1) := by decide +kernel
set_option maxRecDepth 20000 in
theorem ggX6_append_X0_hasRoom : GoodIn wsX6_append wsX0_hasRoom := goodIn_r _ [6, 7, 21, 22] (by decide +kernel) (by decide +kernel)
set_option maxRecDepth 20000 in
theorem gX6_append_X0_hasRoom : GoodIn wsX6_append (wsV RX6 192 RX0 yX0_hasRoom wsX0_hasRoom) := goodIn_app (goodIn_of _ (by decide +kernel)) ggX6_append_X0_hasRoom
set_option maxRecDepth 20000 in
theorem ggX6_append_X0_put : GoodIn wsX6_append wsX0_put := goodIn_r _ [11, 12, 7, 13, 3, 4, 5, 6, 21, 22] (by decide +kernel) (by decide +kernel)
set_option maxRecDepth 20000 in
theorem gX6_append_X0_put : GoodIn wsX6_append (wsV RX6 193 RX0 yX0_put wsX0_put) := goodIn_app (goodIn_of _ (by decide +kernel)) ggX6_append_X0_put
theorem dX6_append_0 : decode cX6_append 0 = .ok (.iload_n 1, 1) := by decide +kernel
theorem dX6_append_1 : decode cX6_append 1 = .ok (.bipush 33, 2) := by decide +kernel
theorem dX6_append_3 : decode cX6_append 3 = .ok (.if_icmp .lt 9, 3) := by decide +kernel
theorem dX6_append_6 : decode cX6_append 6 = .ok (.iload_n 1, 1) := by decide +kernel
theorem dX6_append_7 : decode cX6_append 7 = .ok (.bipush 126, 2) := by decide +kernel
theorem dX6_append_9 : decode cX6_append 9 = .ok (.if_icmp .le 6, 3) := by decide +kernel
theorem dX6_append_12 : decode cX6_append 12 = .ok (.bipush (-2), 2) := by decide +kernel
theorem dX6_append_14 : decode cX6_append 14 = .ok (.ireturn, 1) := by decide +kernel
theorem dX6_append_15 : decode cX6_append 15 = .ok (.aload_n 0, 1) := by decide +kernel
theorem dX6_append_16 : decode cX6_append 16 = .ok (.getfield 32, 3) := by decide +kernel
theorem dX6_append_19 : decode cX6_append 19 = .ok (.invokevirtual 192, 3) := by decide +kernel
theorem dX6_append_22 : decode cX6_append 22 = .ok (.ifCond .ne 6, 3) := by decide +kernel
theorem dX6_append_25 : decode cX6_append 25 = .ok (.bipush (-4), 2) := by decide +kernel
theorem dX6_append_27 : decode cX6_append 27 = .ok (.ireturn, 1) := by decide +kernel
theorem dX6_append_28 : decode cX6_append 28 = .ok (.aload_n 0, 1) := by decide +kernel
theorem dX6_append_29 : decode cX6_append 29 = .ok (.getfield 32, 3) := by decide +kernel
theorem dX6_append_32 : decode cX6_append 32 = .ok (.iload_n 1, 1) := by decide +kernel
theorem dX6_append_33 : decode cX6_append 33 = .ok (.invokevirtual 193, 3) := by decide +kernel
theorem dX6_append_36 : decode cX6_append 36 = .ok (.ireturn, 1) := by decide +kernel
set_option maxRecDepth 20000 in
theorem ggX6_clearText_X0_empty : GoodIn wsX6_clearText wsX0_empty := goodIn_r _ [6, 7, 15, 16] (by decide +kernel) (by decide +kernel)
set_option maxRecDepth 20000 in
theorem gX6_clearText_X0_empty : GoodIn wsX6_clearText (wsV RX6 196 RX0 yX0_empty wsX0_empty) := goodIn_app (goodIn_of _ (by decide +kernel)) ggX6_clearText_X0_empty
theorem dX6_clearText_0 : decode cX6_clearText 0 = .ok (.aload_n 0, 1) := by decide +kernel
theorem dX6_clearText_1 : decode cX6_clearText 1 = .ok (.getfield 32, 3) := by decide +kernel
theorem dX6_clearText_4 : decode cX6_clearText 4 = .ok (.invokevirtual 196, 3) := by decide +kernel
theorem dX6_clearText_7 : decode cX6_clearText 7 = .ok (.ireturn, 1) := by decide +kernel
set_option maxRecDepth 20000 in
theorem ggX6_errorPosition_X2_beginItem : GoodIn wsX6_errorPosition wsX2_beginItem := goodIn_r _ [8, 9, 10, 11, 7, 12, 13, 14, 15, 16, 17, 61, 62, 63, 64, 65, 66] (by decide +kernel) (by decide +kernel)
set_option maxRecDepth 20000 in
theorem gX6_errorPosition_X2_beginItem : GoodIn wsX6_errorPosition (wsV RX6 199 RX2 yX2_beginItem wsX2_beginItem) := goodIn_app (goodIn_of _ (by decide +kernel)) ggX6_errorPosition_X2_beginItem
set_option maxRecDepth 20000 in
theorem ggX6_errorPosition_X0_codeAt : GoodIn wsX6_errorPosition wsX0_codeAt := goodIn_r _ [22, 23, 24, 59, 60] (by decide +kernel) (by decide +kernel)
set_option maxRecDepth 20000 in
theorem gX6_errorPosition_X0_codeAt : GoodIn wsX6_errorPosition (wsV RX6 205 RX0 yX0_codeAt wsX0_codeAt) := goodIn_app (goodIn_of _ (by decide +kernel)) ggX6_errorPosition_X0_codeAt
set_option maxRecDepth 20000 in
theorem ggX6_errorPosition_X2_take : GoodIn wsX6_errorPosition wsX2_take := goodIn_r _ [28, 13, 29, 30, 31, 7, 32, 14, 15, 33, 34, 35, 36, 16, 37, 38, 39, 40, 17, 41, 42, 43, 44, 45, 5, 6, 8, 9, 10, 11, 12, 46, 47, 48, 49, 50, 61, 62, 63, 64, 65, 66] (by decide +kernel) (by decide +kernel)
set_option maxRecDepth 20000 in
theorem gX6_errorPosition_X2_take : GoodIn wsX6_errorPosition (wsV RX6 208 RX2 yX2_take wsX2_take) := goodIn_app (goodIn_of _ (by decide +kernel)) ggX6_errorPosition_X2_take
set_option maxRecDepth 20000 in
theorem ggX6_errorPosition_X2_isWhole : GoodIn wsX6_errorPosition wsX2_isWhole := goodIn_r _ [44, 14, 15, 37, 38, 39, 7, 40, 17, 16, 61, 62, 63, 64, 65, 66] (by decide +kernel) (by decide +kernel)
set_option maxRecDepth 20000 in
theorem gX6_errorPosition_X2_isWhole : GoodIn wsX6_errorPosition (wsV RX6 211 RX2 yX2_isWhole wsX2_isWhole) := goodIn_app (goodIn_of _ (by decide +kernel)) ggX6_errorPosition_X2_isWhole
theorem dX6_errorPosition_0 : decode cX6_errorPosition 0 = .ok (.aload_n 0, 1) := by decide +kernel
theorem dX6_errorPosition_1 : decode cX6_errorPosition 1 = .ok (.getfield 39, 3) := by decide +kernel
theorem dX6_errorPosition_4 : decode cX6_errorPosition 4 = .ok (.invokevirtual 199, 3) := by decide +kernel
theorem dX6_errorPosition_7 : decode cX6_errorPosition 7 = .ok (.iconst 0, 1) := by decide +kernel
theorem dX6_errorPosition_8 : decode cX6_errorPosition 8 = .ok (.istore_n 1, 1) := by decide +kernel
theorem dX6_errorPosition_9 : decode cX6_errorPosition 9 = .ok (.iload_n 1, 1) := by decide +kernel
theorem dX6_errorPosition_10 : decode cX6_errorPosition 10 = .ok (.aload_n 0, 1) := by decide +kernel
theorem dX6_errorPosition_11 : decode cX6_errorPosition 11 = .ok (.getfield 32, 3) := by decide +kernel
theorem dX6_errorPosition_14 : decode cX6_errorPosition 14 = .ok (.getfield 202, 3) := by decide +kernel
theorem dX6_errorPosition_17 : decode cX6_errorPosition 17 = .ok (.if_icmp .ge 29, 3) := by decide +kernel
theorem dX6_errorPosition_20 : decode cX6_errorPosition 20 = .ok (.aload_n 0, 1) := by decide +kernel
theorem dX6_errorPosition_21 : decode cX6_errorPosition 21 = .ok (.getfield 39, 3) := by decide +kernel
theorem dX6_errorPosition_24 : decode cX6_errorPosition 24 = .ok (.aload_n 0, 1) := by decide +kernel
theorem dX6_errorPosition_25 : decode cX6_errorPosition 25 = .ok (.getfield 32, 3) := by decide +kernel
theorem dX6_errorPosition_28 : decode cX6_errorPosition 28 = .ok (.iload_n 1, 1) := by decide +kernel
theorem dX6_errorPosition_29 : decode cX6_errorPosition 29 = .ok (.invokevirtual 205, 3) := by decide +kernel
theorem dX6_errorPosition_32 : decode cX6_errorPosition 32 = .ok (.invokevirtual 208, 3) := by decide +kernel
theorem dX6_errorPosition_35 : decode cX6_errorPosition 35 = .ok (.ifCond .ne 5, 3) := by decide +kernel
theorem dX6_errorPosition_38 : decode cX6_errorPosition 38 = .ok (.iload_n 1, 1) := by decide +kernel
theorem dX6_errorPosition_39 : decode cX6_errorPosition 39 = .ok (.ireturn, 1) := by decide +kernel
theorem dX6_errorPosition_40 : decode cX6_errorPosition 40 = .ok (.iinc 1 1, 3) := by decide +kernel
theorem dX6_errorPosition_43 : decode cX6_errorPosition 43 = .ok (.goto (-34), 3) := by decide +kernel
theorem dX6_errorPosition_46 : decode cX6_errorPosition 46 = .ok (.aload_n 0, 1) := by decide +kernel
theorem dX6_errorPosition_47 : decode cX6_errorPosition 47 = .ok (.getfield 39, 3) := by decide +kernel
theorem dX6_errorPosition_50 : decode cX6_errorPosition 50 = .ok (.invokevirtual 211, 3) := by decide +kernel
theorem dX6_errorPosition_53 : decode cX6_errorPosition 53 = .ok (.ifCond .eq 8, 3) := by decide +kernel
theorem dX6_errorPosition_56 : decode cX6_errorPosition 56 = .ok (.bipush (-6), 2) := by decide +kernel
theorem dX6_errorPosition_58 : decode cX6_errorPosition 58 = .ok (.goto 10, 3) := by decide +kernel
theorem dX6_errorPosition_61 : decode cX6_errorPosition 61 = .ok (.aload_n 0, 1) := by decide +kernel
theorem dX6_errorPosition_62 : decode cX6_errorPosition 62 = .ok (.getfield 32, 3) := by decide +kernel
theorem dX6_errorPosition_65 : decode cX6_errorPosition 65 = .ok (.getfield 202, 3) := by decide +kernel
theorem dX6_errorPosition_68 : decode cX6_errorPosition 68 = .ok (.ireturn, 1) := by decide +kernel
set_option maxRecDepth 20000 in
theorem ggX6_read_X6_errorPosition : GoodIn wsX6_read wsX6_errorPosition := goodIn_r _ [11, 12, 6, 13, 14, 15, 16, 17, 18, 19, 20, 21, 22, 23, 24, 25, 26, 27, 28, 29, 30, 31, 32, 33, 34, 35, 36, 37, 38, 39, 40, 41, 42, 43, 44, 45, 46, 47, 48, 49, 50, 51, 52, 53, 54, 55, 56, 57, 58, 59, 60, 61, 204, 205, 206, 207, 208, 209, 210, 231, 232, 233, 234, 235, 236, 237, 238] (by decide +kernel) (by decide +kernel)
set_option maxRecDepth 20000 in
theorem gX6_read_X6_errorPosition : GoodIn wsX6_read (wsV RX6 214 RX6 yX6_errorPosition wsX6_errorPosition) := goodIn_app (goodIn_of _ (by decide +kernel)) ggX6_read_X6_errorPosition
set_option maxRecDepth 20000 in
theorem ggX6_read_X1_remember : GoodIn wsX6_read wsX1_remember := goodIn_r _ [66, 67, 68, 69, 70, 71, 65, 72, 73, 74, 75, 76, 77, 78, 79, 80, 81, 82, 83, 84, 85, 86, 87, 88, 89, 90, 91, 92, 93, 94, 95, 96, 97, 98, 99, 100, 101, 102, 103, 104, 105, 106, 107, 108, 109, 110, 111, 112, 113, 114, 115, 116, 117, 118, 119, 120, 121, 122, 239, 240, 241, 211, 212, 213, 214, 215, 216, 217, 218, 219, 220, 221, 222, 223, 224, 225, 226, 227, 228, 229, 230, 242, 243, 244, 245] (by decide +kernel) (by decide +kernel)
set_option maxRecDepth 20000 in
theorem gX6_read_X1_remember : GoodIn wsX6_read (wsV RX6 61 RX1 yX1_remember wsX1_remember) := goodIn_app (goodIn_of _ (by decide +kernel)) ggX6_read_X1_remember
set_option maxRecDepth 20000 in
theorem ggX6_read_X6_collectItems : GoodIn wsX6_read wsX6_collectItems := goodIn_r _ [126, 12, 6, 13, 14, 15, 16, 17, 18, 19, 20, 21, 22, 23, 24, 25, 26, 27, 28, 29, 30, 31, 32, 33, 34, 127, 128, 129, 10, 130, 1, 4, 131, 132, 133, 134, 60, 135, 136, 137, 106, 138, 112, 139, 140, 141, 142, 143, 144, 145, 81, 146, 85, 83, 93, 87, 147, 148, 149, 150, 151, 152, 153, 154, 88, 155, 156, 157, 158, 108, 159, 160, 161, 162, 110, 111, 163, 164, 165, 166, 167, 168, 169, 170, 171, 172, 173, 174, 175, 99, 176, 177, 178, 179, 180, 181, 182, 183, 184, 185, 186, 187, 188, 189, 190, 191, 192, 193, 194, 195, 102, 84, 196, 197, 198, 116, 199, 122, 118, 120, 121, 35, 36, 37, 38, 39, 40, 41, 42, 43, 44, 45, 46, 47, 48, 49, 50, 51, 52, 53, 54, 55, 56, 57, 58, 59, 204, 205, 206, 207, 208, 209, 210, 231, 232, 233, 234, 235, 236, 237, 238, 211, 212, 213, 214, 215, 216, 217, 218, 219, 220, 221, 222, 223, 224, 225, 226, 227, 228, 229, 230, 242, 243, 244, 245] (by decide +kernel) (by decide +kernel)
set_option maxRecDepth 20000 in
theorem gX6_read_X6_collectItems : GoodIn wsX6_read (wsV RX6 217 RX6 yX6_collectItems wsX6_collectItems) := goodIn_app (goodIn_of _ (by decide +kernel)) ggX6_read_X6_collectItems
set_option maxRecDepth 20000 in
theorem ggX6_read_X0_empty : GoodIn wsX6_read wsX0_empty := goodIn_r _ [203, 33, 231, 232] (by decide +kernel) (by decide +kernel)
set_option maxRecDepth 20000 in
theorem gX6_read_X0_empty : GoodIn wsX6_read (wsV RX6 196 RX0 yX0_empty wsX0_empty) := goodIn_app (goodIn_of _ (by decide +kernel)) ggX6_read_X0_empty
theorem dX6_read_0 : decode cX6_read 0 = .ok (.aload_n 0, 1) := by decide +kernel
theorem dX6_read_1 : decode cX6_read 1 = .ok (.invokevirtual 214, 3) := by decide +kernel
theorem dX6_read_4 : decode cX6_read 4 = .ok (.bipush (-6), 2) := by decide +kernel
theorem dX6_read_6 : decode cX6_read 6 = .ok (.if_icmp .eq 6, 3) := by decide +kernel
theorem dX6_read_9 : decode cX6_read 9 = .ok (.bipush (-5), 2) := by decide +kernel
theorem dX6_read_11 : decode cX6_read 11 = .ok (.ireturn, 1) := by decide +kernel
theorem dX6_read_12 : decode cX6_read 12 = .ok (.aload_n 0, 1) := by decide +kernel
theorem dX6_read_13 : decode cX6_read 13 = .ok (.getfield 10, 3) := by decide +kernel
theorem dX6_read_16 : decode cX6_read 16 = .ok (.getfield 47, 3) := by decide +kernel
theorem dX6_read_19 : decode cX6_read 19 = .ok (.ifCond .ne 6, 3) := by decide +kernel
theorem dX6_read_22 : decode cX6_read 22 = .ok (.bipush (-3), 2) := by decide +kernel
theorem dX6_read_24 : decode cX6_read 24 = .ok (.ireturn, 1) := by decide +kernel
theorem dX6_read_25 : decode cX6_read 25 = .ok (.aload_n 0, 1) := by decide +kernel
theorem dX6_read_26 : decode cX6_read 26 = .ok (.getfield 25, 3) := by decide +kernel
theorem dX6_read_29 : decode cX6_read 29 = .ok (.aload_n 0, 1) := by decide +kernel
theorem dX6_read_30 : decode cX6_read 30 = .ok (.getfield 10, 3) := by decide +kernel
theorem dX6_read_33 : decode cX6_read 33 = .ok (.invokevirtual 61, 3) := by decide +kernel
theorem dX6_read_36 : decode cX6_read 36 = .ok (.aload_n 0, 1) := by decide +kernel
theorem dX6_read_37 : decode cX6_read 37 = .ok (.getfield 10, 3) := by decide +kernel
theorem dX6_read_40 : decode cX6_read 40 = .ok (.getfield 51, 3) := by decide +kernel
theorem dX6_read_43 : decode cX6_read 43 = .ok (.getfield 69, 3) := by decide +kernel
theorem dX6_read_46 : decode cX6_read 46 = .ok (.istore_n 1, 1) := by decide +kernel
theorem dX6_read_47 : decode cX6_read 47 = .ok (.aload_n 0, 1) := by decide +kernel
theorem dX6_read_48 : decode cX6_read 48 = .ok (.invokevirtual 217, 3) := by decide +kernel
theorem dX6_read_51 : decode cX6_read 51 = .ok (.aload_n 0, 1) := by decide +kernel
theorem dX6_read_52 : decode cX6_read 52 = .ok (.getfield 32, 3) := by decide +kernel
theorem dX6_read_55 : decode cX6_read 55 = .ok (.invokevirtual 196, 3) := by decide +kernel
theorem dX6_read_58 : decode cX6_read 58 = .ok (.pop, 1) := by decide +kernel
theorem dX6_read_59 : decode cX6_read 59 = .ok (.aload_n 0, 1) := by decide +kernel
theorem dX6_read_60 : decode cX6_read 60 = .ok (.getfield 10, 3) := by decide +kernel
theorem dX6_read_63 : decode cX6_read 63 = .ok (.getfield 51, 3) := by decide +kernel
theorem dX6_read_66 : decode cX6_read 66 = .ok (.getfield 69, 3) := by decide +kernel
theorem dX6_read_69 : decode cX6_read 69 = .ok (.iload_n 1, 1) := by decide +kernel
theorem dX6_read_70 : decode cX6_read 70 = .ok (.isub, 1) := by decide +kernel
theorem dX6_read_71 : decode cX6_read 71 = .ok (.ireturn, 1) := by decide +kernel
set_option maxRecDepth 20000 in
theorem ggX6_undo_X1_takeLatest : GoodIn wsX6_undo wsX1_takeLatest := goodIn_r _ [8, 9, 10, 11, 12, 7, 13, 14, 15, 16, 17, 18, 19, 20, 21, 22, 23, 24, 25, 26, 27, 28, 29, 30, 31, 32, 33, 34, 35, 36, 37, 38, 39, 40, 41, 42, 43, 44, 45, 46, 47, 48, 49, 50, 51, 52, 53, 54, 55, 56, 57, 58, 59, 60, 61, 62, 63, 64, 72, 73, 74, 75, 76, 77, 78, 79, 80, 81, 82, 83, 84, 85, 86, 87, 88, 89, 90, 91, 92, 93, 94, 95, 96, 97, 98] (by decide +kernel) (by decide +kernel)
set_option maxRecDepth 20000 in
theorem gX6_undo_X1_takeLatest : GoodIn wsX6_undo (wsV RX6 221 RX1 yX1_takeLatest wsX1_takeLatest) := goodIn_app (goodIn_of _ (by decide +kernel)) ggX6_undo_X1_takeLatest
theorem dX6_undo_0 : decode cX6_undo 0 = .ok (.aload_n 0, 1) := by decide +kernel
theorem dX6_undo_1 : decode cX6_undo 1 = .ok (.getfield 25, 3) := by decide +kernel
theorem dX6_undo_4 : decode cX6_undo 4 = .ok (.getfield 220, 3) := by decide +kernel
theorem dX6_undo_7 : decode cX6_undo 7 = .ok (.ifCond .ne 6, 3) := by decide +kernel
theorem dX6_undo_10 : decode cX6_undo 10 = .ok (.bipush (-3), 2) := by decide +kernel
theorem dX6_undo_12 : decode cX6_undo 12 = .ok (.ireturn, 1) := by decide +kernel
theorem dX6_undo_13 : decode cX6_undo 13 = .ok (.aload_n 0, 1) := by decide +kernel
theorem dX6_undo_14 : decode cX6_undo 14 = .ok (.getfield 25, 3) := by decide +kernel
theorem dX6_undo_17 : decode cX6_undo 17 = .ok (.aload_n 0, 1) := by decide +kernel
theorem dX6_undo_18 : decode cX6_undo 18 = .ok (.getfield 10, 3) := by decide +kernel
theorem dX6_undo_21 : decode cX6_undo 21 = .ok (.invokevirtual 221, 3) := by decide +kernel
theorem dX6_undo_24 : decode cX6_undo 24 = .ok (.aload_n 0, 1) := by decide +kernel
theorem dX6_undo_25 : decode cX6_undo 25 = .ok (.getfield 25, 3) := by decide +kernel
theorem dX6_undo_28 : decode cX6_undo 28 = .ok (.getfield 220, 3) := by decide +kernel
theorem dX6_undo_31 : decode cX6_undo 31 = .ok (.ireturn, 1) := by decide +kernel
set_option maxRecDepth 20000 in
theorem ggX6_save_X5_copyFrom : GoodIn wsX6_save wsX5_copyFrom := goodIn_r _ [10, 11, 12, 13, 14, 15, 16, 17, 18, 19, 20, 21, 22, 23, 24, 25, 26, 27, 28, 29, 30, 31, 32, 33, 34, 35, 36, 37, 38, 39, 40, 41, 42, 43, 44, 45, 46, 47, 48, 49, 50, 58, 59, 60, 61, 62, 63, 64, 65, 66, 67, 68, 69, 70, 71, 72, 73, 74, 75, 76, 77, 78, 79, 80, 81] (by decide +kernel) (by decide +kernel)
set_option maxRecDepth 20000 in
theorem gX6_save_X5_copyFrom : GoodIn wsX6_save (wsV RX6 224 RX5 yX5_copyFrom wsX5_copyFrom) := goodIn_app (goodIn_of _ (by decide +kernel)) ggX6_save_X5_copyFrom
theorem dX6_save_0 : decode cX6_save 0 = .ok (.aload_n 0, 1) := by decide +kernel
theorem dX6_save_1 : decode cX6_save 1 = .ok (.getfield 19, 3) := by decide +kernel
theorem dX6_save_4 : decode cX6_save 4 = .ok (.aload_n 0, 1) := by decide +kernel
theorem dX6_save_5 : decode cX6_save 5 = .ok (.getfield 10, 3) := by decide +kernel
theorem dX6_save_8 : decode cX6_save 8 = .ok (.invokevirtual 224, 3) := by decide +kernel
theorem dX6_save_11 : decode cX6_save 11 = .ok (.aload_n 0, 1) := by decide +kernel
theorem dX6_save_12 : decode cX6_save 12 = .ok (.iconst 1, 1) := by decide +kernel
theorem dX6_save_13 : decode cX6_save 13 = .ok (.putfield 227, 3) := by decide +kernel
theorem dX6_save_16 : decode cX6_save 16 = .ok (.aload_n 0, 1) := by decide +kernel
theorem dX6_save_17 : decode cX6_save 17 = .ok (.getfield 19, 3) := by decide +kernel
theorem dX6_save_20 : decode cX6_save 20 = .ok (.getfield 51, 3) := by decide +kernel
theorem dX6_save_23 : decode cX6_save 23 = .ok (.getfield 69, 3) := by decide +kernel
theorem dX6_save_26 : decode cX6_save 26 = .ok (.ireturn, 1) := by decide +kernel
set_option maxRecDepth 20000 in
theorem ggX6_restore_X1_remember : GoodIn wsX6_restore wsX1_remember := goodIn_r _ [11, 12, 13, 14, 15, 16, 10, 17, 18, 19, 20, 21, 22, 23, 24, 25, 26, 27, 28, 29, 30, 31, 32, 33, 34, 35, 36, 37, 38, 39, 40, 41, 42, 43, 44, 45, 46, 47, 48, 49, 50, 51, 52, 53, 54, 55, 56, 57, 58, 59, 60, 61, 62, 63, 64, 65, 66, 67, 96, 97, 98, 76, 77, 78, 79, 80, 81, 82, 83, 84, 85, 86, 87, 88, 89, 90, 91, 92, 93, 94, 95, 99, 100, 101, 102] (by decide +kernel) (by decide +kernel)
set_option maxRecDepth 20000 in
theorem gX6_restore_X1_remember : GoodIn wsX6_restore (wsV RX6 61 RX1 yX1_remember wsX1_remember) := goodIn_app (goodIn_of _ (by decide +kernel)) ggX6_restore_X1_remember
set_option maxRecDepth 20000 in
theorem ggX6_restore_X5_copyFrom : GoodIn wsX6_restore wsX5_copyFrom := goodIn_r _ [27, 28, 29, 30, 31, 32, 33, 34, 35, 36, 37, 38, 39, 40, 41, 42, 43, 44, 45, 46, 47, 48, 49, 50, 51, 52, 53, 54, 55, 56, 57, 58, 59, 60, 61, 62, 63, 64, 65, 66, 67, 76, 77, 78, 79, 80, 81, 82, 83, 84, 85, 86, 87, 88, 89, 90, 91, 92, 93, 94, 95, 99, 100, 101, 102] (by decide +kernel) (by decide +kernel)
set_option maxRecDepth 20000 in
theorem gX6_restore_X5_copyFrom : GoodIn wsX6_restore (wsV RX6 224 RX5 yX5_copyFrom wsX5_copyFrom) := goodIn_app (goodIn_of _ (by decide +kernel)) ggX6_restore_X5_copyFrom
theorem dX6_restore_0 : decode cX6_restore 0 = .ok (.aload_n 0, 1) := by decide +kernel
theorem dX6_restore_1 : decode cX6_restore 1 = .ok (.getfield 227, 3) := by decide +kernel
theorem dX6_restore_4 : decode cX6_restore 4 = .ok (.ifCond .ne 6, 3) := by decide +kernel
theorem dX6_restore_7 : decode cX6_restore 7 = .ok (.bipush (-3), 2) := by decide +kernel
theorem dX6_restore_9 : decode cX6_restore 9 = .ok (.ireturn, 1) := by decide +kernel
theorem dX6_restore_10 : decode cX6_restore 10 = .ok (.aload_n 0, 1) := by decide +kernel
theorem dX6_restore_11 : decode cX6_restore 11 = .ok (.getfield 25, 3) := by decide +kernel
theorem dX6_restore_14 : decode cX6_restore 14 = .ok (.aload_n 0, 1) := by decide +kernel
theorem dX6_restore_15 : decode cX6_restore 15 = .ok (.getfield 10, 3) := by decide +kernel
theorem dX6_restore_18 : decode cX6_restore 18 = .ok (.invokevirtual 61, 3) := by decide +kernel
theorem dX6_restore_21 : decode cX6_restore 21 = .ok (.aload_n 0, 1) := by decide +kernel
theorem dX6_restore_22 : decode cX6_restore 22 = .ok (.getfield 10, 3) := by decide +kernel
theorem dX6_restore_25 : decode cX6_restore 25 = .ok (.aload_n 0, 1) := by decide +kernel
theorem dX6_restore_26 : decode cX6_restore 26 = .ok (.getfield 19, 3) := by decide +kernel
theorem dX6_restore_29 : decode cX6_restore 29 = .ok (.invokevirtual 224, 3) := by decide +kernel
theorem dX6_restore_32 : decode cX6_restore 32 = .ok (.aload_n 0, 1) := by decide +kernel
theorem dX6_restore_33 : decode cX6_restore 33 = .ok (.getfield 10, 3) := by decide +kernel
theorem dX6_restore_36 : decode cX6_restore 36 = .ok (.getfield 51, 3) := by decide +kernel
theorem dX6_restore_39 : decode cX6_restore 39 = .ok (.getfield 69, 3) := by decide +kernel
theorem dX6_restore_42 : decode cX6_restore 42 = .ok (.ireturn, 1) := by decide +kernel
theorem dX6_isKey_0 : decode cX6_isKey 0 = .ok (.iload_n 0, 1) := by decide +kernel
theorem dX6_isKey_1 : decode cX6_isKey 1 = .ok (.ifCond .lt 14, 3) := by decide +kernel
theorem dX6_isKey_4 : decode cX6_isKey 4 = .ok (.iload_n 0, 1) := by decide +kernel
theorem dX6_isKey_5 : decode cX6_isKey 5 = .ok (.sipush 999, 3) := by decide +kernel
theorem dX6_isKey_8 : decode cX6_isKey 8 = .ok (.if_icmp .gt 7, 3) := by decide +kernel
theorem dX6_isKey_11 : decode cX6_isKey 11 = .ok (.iconst 1, 1) := by decide +kernel
theorem dX6_isKey_12 : decode cX6_isKey 12 = .ok (.goto 4, 3) := by decide +kernel
theorem dX6_isKey_15 : decode cX6_isKey 15 = .ok (.iconst 0, 1) := by decide +kernel
theorem dX6_isKey_16 : decode cX6_isKey 16 = .ok (.ireturn, 1) := by decide +kernel
theorem dX6_isMemorySize_0 : decode cX6_isMemorySize 0 = .ok (.iload_n 0, 1) := by decide +kernel
theorem dX6_isMemorySize_1 : decode cX6_isMemorySize 1 = .ok (.iconst 2, 1) := by decide +kernel
theorem dX6_isMemorySize_2 : decode cX6_isMemorySize 2 = .ok (.if_icmp .lt 13, 3) := by decide +kernel
theorem dX6_isMemorySize_5 : decode cX6_isMemorySize 5 = .ok (.iload_n 0, 1) := by decide +kernel
theorem dX6_isMemorySize_6 : decode cX6_isMemorySize 6 = .ok (.bipush 20, 2) := by decide +kernel
theorem dX6_isMemorySize_8 : decode cX6_isMemorySize 8 = .ok (.if_icmp .gt 7, 3) := by decide +kernel
theorem dX6_isMemorySize_11 : decode cX6_isMemorySize 11 = .ok (.iconst 1, 1) := by decide +kernel
theorem dX6_isMemorySize_12 : decode cX6_isMemorySize 12 = .ok (.goto 4, 3) := by decide +kernel
theorem dX6_isMemorySize_15 : decode cX6_isMemorySize 15 = .ok (.iconst 0, 1) := by decide +kernel
theorem dX6_isMemorySize_16 : decode cX6_isMemorySize 16 = .ok (.ireturn, 1) := by decide +kernel
theorem dX6_asNumber_0 : decode cX6_asNumber 0 = .ok (.iload_n 0, 1) := by decide +kernel
theorem dX6_asNumber_1 : decode cX6_asNumber 1 = .ok (.ifCond .eq 7, 3) := by decide +kernel
theorem dX6_asNumber_4 : decode cX6_asNumber 4 = .ok (.iconst 1, 1) := by decide +kernel
theorem dX6_asNumber_5 : decode cX6_asNumber 5 = .ok (.goto 4, 3) := by decide +kernel
theorem dX6_asNumber_8 : decode cX6_asNumber 8 = .ok (.iconst 0, 1) := by decide +kernel
theorem dX6_asNumber_9 : decode cX6_asNumber 9 = .ok (.ireturn, 1) := by decide +kernel
set_option maxRecDepth 20000 in
theorem ggX6_foretell_X5_copyFrom : GoodIn wsX6_foretell wsX5_copyFrom := goodIn_r _ [7, 8, 9, 10, 11, 12, 13, 14, 15, 16, 17, 18, 19, 20, 21, 22, 23, 24, 25, 26, 27, 28, 29, 30, 31, 32, 33, 34, 35, 36, 37, 38, 39, 40, 41, 42, 43, 44, 45, 46, 47, 185, 186, 187, 188, 189, 190, 191, 192, 193, 194, 195, 196, 197, 198, 199, 200, 201, 202, 203, 204, 205, 206, 207, 208] (by decide +kernel) (by decide +kernel)
set_option maxRecDepth 20000 in
theorem gX6_foretell_X5_copyFrom : GoodIn wsX6_foretell (wsV RX6 224 RX5 yX5_copyFrom wsX5_copyFrom) := goodIn_app (goodIn_of _ (by decide +kernel)) ggX6_foretell_X5_copyFrom
set_option maxRecDepth 20000 in
theorem ggX6_foretell_X5_resize : GoodIn wsX6_foretell wsX5_resize := goodIn_r _ [51, 12, 11, 18, 19, 52, 53, 54, 55, 6, 56, 8, 24, 57, 58, 59, 60, 61, 62, 63, 64, 13, 65, 66, 67, 31, 68, 33, 69, 70, 71, 72, 73, 74, 75, 76, 36, 77, 78, 79, 80, 27, 9, 81, 82, 83, 41, 84, 47, 43, 45, 46, 85, 86, 87, 88, 89, 90, 91, 92, 93, 94, 95, 96, 26, 97, 98, 99, 100, 23, 21, 101, 102, 103, 104, 105, 106, 107, 108, 109, 110, 111, 112, 185, 186, 187, 188, 189, 190, 191, 192, 193, 194, 195, 196, 197, 198, 199, 200, 205, 206, 207, 208, 201, 202, 203, 204] (by decide +kernel) (by decide +kernel)
set_option maxRecDepth 20000 in
theorem gX6_foretell_X5_resize : GoodIn wsX6_foretell (wsV RX6 97 RX5 yX5_resize wsX5_resize) := goodIn_app (goodIn_of _ (by decide +kernel)) ggX6_foretell_X5_resize
set_option maxRecDepth 20000 in
theorem ggX6_foretell_X5_canRunToEnd : GoodIn wsX6_foretell wsX5_canRunToEnd := goodIn_r _ [116, 9, 52, 18, 117, 118, 119, 6, 120, 19, 85, 86, 87, 88, 12, 89, 90, 91, 92, 185, 186, 187, 188, 189, 190, 191, 192, 193, 194, 195, 196, 197, 198, 199, 200, 205, 206, 207, 208] (by decide +kernel) (by decide +kernel)
set_option maxRecDepth 20000 in
theorem gX6_foretell_X5_canRunToEnd : GoodIn wsX6_foretell (wsV RX6 130 RX5 yX5_canRunToEnd wsX5_canRunToEnd) := goodIn_app (goodIn_of _ (by decide +kernel)) ggX6_foretell_X5_canRunToEnd
set_option maxRecDepth 20000 in
theorem ggX6_foretell_X5_runToEnd : GoodIn wsX6_foretell wsX5_runToEnd := goodIn_r _ [124, 125, 126, 127, 6, 128, 11, 53, 54, 55, 56, 18, 8, 24, 57, 58, 59, 60, 61, 62, 63, 64, 13, 65, 66, 67, 31, 68, 33, 69, 70, 71, 72, 73, 74, 75, 76, 36, 77, 78, 79, 80, 27, 9, 81, 82, 83, 41, 84, 47, 43, 45, 46, 129, 130, 131, 132, 117, 118, 119, 120, 19, 52, 133, 134, 135, 136, 10, 23, 22, 21, 137, 138, 139, 140, 101, 102, 103, 104, 105, 106, 107, 108, 141, 142, 143, 144, 145, 146, 147, 148, 149, 150, 151, 152, 44, 15, 16, 17, 153, 154, 155, 156, 157, 158, 159, 160, 35, 97, 98, 99, 100, 161, 162, 163, 164, 85, 86, 87, 88, 12, 89, 90, 91, 92, 165, 166, 167, 168, 20, 25, 169, 170, 171, 172, 173, 174, 175, 176, 177, 185, 186, 187, 188, 189, 190, 191, 192, 193, 194, 195, 196, 197, 198, 199, 200, 201, 202, 203, 204, 205, 206, 207, 208] (by decide +kernel) (by decide +kernel)
set_option maxRecDepth 20000 in
theorem gX6_foretell_X5_runToEnd : GoodIn wsX6_foretell (wsV RX6 133 RX5 yX5_runToEnd wsX5_runToEnd) := goodIn_app (goodIn_of _ (by decide +kernel)) ggX6_foretell_X5_runToEnd
theorem dX6_foretell_0 : decode cX6_foretell 0 = .ok (.aload_n 0, 1) := by decide +kernel
theorem dX6_foretell_1 : decode cX6_foretell 1 = .ok (.getfield 16, 3) := by decide +kernel
theorem dX6_foretell_4 : decode cX6_foretell 4 = .ok (.aload_n 0, 1) := by decide +kernel
theorem dX6_foretell_5 : decode cX6_foretell 5 = .ok (.getfield 10, 3) := by decide +kernel
theorem dX6_foretell_8 : decode cX6_foretell 8 = .ok (.invokevirtual 224, 3) := by decide +kernel
theorem dX6_foretell_11 : decode cX6_foretell 11 = .ok (.aload_n 0, 1) := by decide +kernel
theorem dX6_foretell_12 : decode cX6_foretell 12 = .ok (.getfield 16, 3) := by decide +kernel
theorem dX6_foretell_15 : decode cX6_foretell 15 = .ok (.iload_n 1, 1) := by decide +kernel
theorem dX6_foretell_16 : decode cX6_foretell 16 = .ok (.invokevirtual 97, 3) := by decide +kernel
theorem dX6_foretell_19 : decode cX6_foretell 19 = .ok (.pop, 1) := by decide +kernel
theorem dX6_foretell_20 : decode cX6_foretell 20 = .ok (.aload_n 0, 1) := by decide +kernel
theorem dX6_foretell_21 : decode cX6_foretell 21 = .ok (.getfield 16, 3) := by decide +kernel
theorem dX6_foretell_24 : decode cX6_foretell 24 = .ok (.invokevirtual 130, 3) := by decide +kernel
theorem dX6_foretell_27 : decode cX6_foretell 27 = .ok (.ifCond .ne 5, 3) := by decide +kernel
theorem dX6_foretell_30 : decode cX6_foretell 30 = .ok (.iconst 0, 1) := by decide +kernel
theorem dX6_foretell_31 : decode cX6_foretell 31 = .ok (.ireturn, 1) := by decide +kernel
theorem dX6_foretell_32 : decode cX6_foretell 32 = .ok (.aload_n 0, 1) := by decide +kernel
theorem dX6_foretell_33 : decode cX6_foretell 33 = .ok (.getfield 16, 3) := by decide +kernel
theorem dX6_foretell_36 : decode cX6_foretell 36 = .ok (.invokevirtual 133, 3) := by decide +kernel
theorem dX6_foretell_39 : decode cX6_foretell 39 = .ok (.pop, 1) := by decide +kernel
theorem dX6_foretell_40 : decode cX6_foretell 40 = .ok (.iconst 1, 1) := by decide +kernel
theorem dX6_foretell_41 : decode cX6_foretell 41 = .ok (.ireturn, 1) := by decide +kernel
set_option maxRecDepth 20000 in
theorem ggX6_collectItems_X2_beginItem : GoodIn wsX6_collectItems wsX2_beginItem := goodIn_r _ [8, 9, 10, 11, 7, 12, 13, 14, 15, 16, 17, 155, 156, 157, 158, 159, 160] (by decide +kernel) (by decide +kernel)
set_option maxRecDepth 20000 in
theorem gX6_collectItems_X2_beginItem : GoodIn wsX6_collectItems (wsV RX6 199 RX2 yX2_beginItem wsX2_beginItem) := goodIn_app (goodIn_of _ (by decide +kernel)) ggX6_collectItems_X2_beginItem
set_option maxRecDepth 20000 in
theorem ggX6_collectItems_X0_codeAt : GoodIn wsX6_collectItems wsX0_codeAt := goodIn_r _ [22, 23, 24, 153, 154] (by decide +kernel) (by decide +kernel)
set_option maxRecDepth 20000 in
theorem gX6_collectItems_X0_codeAt : GoodIn wsX6_collectItems (wsV RX6 205 RX0 yX0_codeAt wsX0_codeAt) := goodIn_app (goodIn_of _ (by decide +kernel)) ggX6_collectItems_X0_codeAt
set_option maxRecDepth 20000 in
theorem ggX6_collectItems_X6_collectItem : GoodIn wsX6_collectItems wsX6_collectItem := goodIn_r _ [29, 1, 30, 31, 32, 33, 34, 7, 35, 13, 15, 36, 37, 38, 39, 40, 41, 42, 43, 44, 45, 46, 47, 48, 49, 50, 51, 52, 53, 54, 55, 56, 57, 58, 59, 60, 61, 62, 63, 64, 65, 66, 67, 68, 69, 70, 71, 72, 73, 74, 75, 76, 77, 78, 79, 80, 81, 82, 83, 84, 85, 86, 87, 88, 89, 90, 91, 92, 93, 94, 95, 96, 97, 98, 99, 100, 101, 102, 103, 104, 105, 106, 107, 108, 109, 110, 111, 112, 113, 114, 115, 116, 117, 118, 119, 120, 146, 147, 148, 149, 150, 151, 152, 161, 162, 163, 164, 165, 166, 167, 168, 169, 170, 171, 172, 173, 174, 175, 176, 155, 156, 157, 158, 159, 160, 177, 178, 179, 180, 181, 182, 183, 184] (by decide +kernel) (by decide +kernel)
set_option maxRecDepth 20000 in
theorem gX6_collectItems_X6_collectItem : GoodIn wsX6_collectItems (wsV RX6 230 RX6 yX6_collectItem wsX6_collectItem) := goodIn_app (goodIn_of _ (by decide +kernel)) ggX6_collectItems_X6_collectItem
set_option maxRecDepth 20000 in
theorem ggX6_collectItems_X2_take : GoodIn wsX6_collectItems wsX2_take := goodIn_r _ [124, 13, 125, 126, 127, 7, 128, 14, 15, 129, 130, 131, 132, 16, 133, 134, 135, 136, 17, 137, 138, 139, 140, 141, 5, 6, 8, 9, 10, 11, 12, 142, 143, 144, 145, 36, 155, 156, 157, 158, 159, 160] (by decide +kernel) (by decide +kernel)
set_option maxRecDepth 20000 in
theorem gX6_collectItems_X2_take : GoodIn wsX6_collectItems (wsV RX6 208 RX2 yX2_take wsX2_take) := goodIn_app (goodIn_of _ (by decide +kernel)) ggX6_collectItems_X2_take
theorem dX6_collectItems_0 : decode cX6_collectItems 0 = .ok (.aload_n 0, 1) := by decide +kernel
theorem dX6_collectItems_1 : decode cX6_collectItems 1 = .ok (.getfield 39, 3) := by decide +kernel
theorem dX6_collectItems_4 : decode cX6_collectItems 4 = .ok (.invokevirtual 199, 3) := by decide +kernel
theorem dX6_collectItems_7 : decode cX6_collectItems 7 = .ok (.iconst 0, 1) := by decide +kernel
theorem dX6_collectItems_8 : decode cX6_collectItems 8 = .ok (.istore_n 1, 1) := by decide +kernel
theorem dX6_collectItems_9 : decode cX6_collectItems 9 = .ok (.iload_n 1, 1) := by decide +kernel
theorem dX6_collectItems_10 : decode cX6_collectItems 10 = .ok (.aload_n 0, 1) := by decide +kernel
theorem dX6_collectItems_11 : decode cX6_collectItems 11 = .ok (.getfield 32, 3) := by decide +kernel
theorem dX6_collectItems_14 : decode cX6_collectItems 14 = .ok (.getfield 202, 3) := by decide +kernel
theorem dX6_collectItems_17 : decode cX6_collectItems 17 = .ok (.if_icmp .ge 37, 3) := by decide +kernel
theorem dX6_collectItems_20 : decode cX6_collectItems 20 = .ok (.aload_n 0, 1) := by decide +kernel
theorem dX6_collectItems_21 : decode cX6_collectItems 21 = .ok (.getfield 32, 3) := by decide +kernel
theorem dX6_collectItems_24 : decode cX6_collectItems 24 = .ok (.iload_n 1, 1) := by decide +kernel
theorem dX6_collectItems_25 : decode cX6_collectItems 25 = .ok (.invokevirtual 205, 3) := by decide +kernel
theorem dX6_collectItems_28 : decode cX6_collectItems 28 = .ok (.istore_n 2, 1) := by decide +kernel
theorem dX6_collectItems_29 : decode cX6_collectItems 29 = .ok (.iload_n 2, 1) := by decide +kernel
theorem dX6_collectItems_30 : decode cX6_collectItems 30 = .ok (.bipush 44, 2) := by decide +kernel
theorem dX6_collectItems_32 : decode cX6_collectItems 32 = .ok (.if_icmp .ne 7, 3) := by decide +kernel
theorem dX6_collectItems_35 : decode cX6_collectItems 35 = .ok (.aload_n 0, 1) := by decide +kernel
theorem dX6_collectItems_36 : decode cX6_collectItems 36 = .ok (.invokevirtual 230, 3) := by decide +kernel
theorem dX6_collectItems_39 : decode cX6_collectItems 39 = .ok (.aload_n 0, 1) := by decide +kernel
theorem dX6_collectItems_40 : decode cX6_collectItems 40 = .ok (.getfield 39, 3) := by decide +kernel
theorem dX6_collectItems_43 : decode cX6_collectItems 43 = .ok (.iload_n 2, 1) := by decide +kernel
theorem dX6_collectItems_44 : decode cX6_collectItems 44 = .ok (.invokevirtual 208, 3) := by decide +kernel
theorem dX6_collectItems_47 : decode cX6_collectItems 47 = .ok (.pop, 1) := by decide +kernel
theorem dX6_collectItems_48 : decode cX6_collectItems 48 = .ok (.iinc 1 1, 3) := by decide +kernel
theorem dX6_collectItems_51 : decode cX6_collectItems 51 = .ok (.goto (-42), 3) := by decide +kernel
theorem dX6_collectItems_54 : decode cX6_collectItems 54 = .ok (.aload_n 0, 1) := by decide +kernel
theorem dX6_collectItems_55 : decode cX6_collectItems 55 = .ok (.invokevirtual 230, 3) := by decide +kernel
theorem dX6_collectItems_58 : decode cX6_collectItems 58 = .ok (.return_, 1) := by decide +kernel
set_option maxRecDepth 20000 in
theorem ggX6_collectItem_X2_rowsOfItem : GoodIn wsX6_collectItem wsX2_rowsOfItem := goodIn_r _ [8, 9, 10, 11, 119, 120, 121, 122, 123, 124] (by decide +kernel) (by decide +kernel)
set_option maxRecDepth 20000 in
theorem gX6_collectItem_X2_rowsOfItem : GoodIn wsX6_collectItem (wsV RX6 233 RX2 yX2_rowsOfItem wsX2_rowsOfItem) := goodIn_app (goodIn_of _ (by decide +kernel)) ggX6_collectItem_X2_rowsOfItem
set_option maxRecDepth 20000 in
theorem ggX6_collectItem_X3_hasRoom : GoodIn wsX6_collectItem wsX3_hasRoom := goodIn_r _ [16, 17, 125, 126, 127, 128] (by decide +kernel) (by decide +kernel)
set_option maxRecDepth 20000 in
theorem gX6_collectItem_X3_hasRoom : GoodIn wsX6_collectItem (wsV RX6 55 RX3 yX3_hasRoom wsX3_hasRoom) := goodIn_app (goodIn_of _ (by decide +kernel)) ggX6_collectItem_X3_hasRoom
set_option maxRecDepth 20000 in
theorem ggX6_collectItem_X2_keyOfItem : GoodIn wsX6_collectItem wsX2_keyOfItem := goodIn_r _ [21, 9, 11, 10, 119, 120, 121, 122, 123, 124] (by decide +kernel) (by decide +kernel)
set_option maxRecDepth 20000 in
theorem gX6_collectItem_X2_keyOfItem : GoodIn wsX6_collectItem (wsV RX6 236 RX2 yX2_keyOfItem wsX2_keyOfItem) := goodIn_app (goodIn_of _ (by decide +kernel)) ggX6_collectItem_X2_keyOfItem
set_option maxRecDepth 20000 in
theorem ggX6_collectItem_X5_collect : GoodIn wsX6_collectItem wsX5_collect := goodIn_r _ [26, 27, 28, 29, 30, 31, 32, 33, 25, 34, 35, 36, 37, 38, 39, 40, 41, 42, 15, 43, 44, 45, 46, 47, 48, 17, 49, 50, 51, 13, 14, 16, 52, 53, 54, 55, 56, 57, 58, 59, 60, 61, 62, 63, 64, 65, 66, 67, 68, 69, 70, 71, 72, 73, 74, 75, 76, 77, 78, 79, 80, 81, 82, 83, 84, 85, 86, 87, 88, 89, 90, 91, 92, 93, 94, 95, 103, 104, 105, 106, 107, 108, 109, 110, 111, 112, 113, 114, 115, 116, 117, 118, 125, 126, 127, 128, 129, 130, 131, 132] (by decide +kernel) (by decide +kernel)
set_option maxRecDepth 20000 in
theorem gX6_collectItem_X5_collect : GoodIn wsX6_collectItem (wsV RX6 65 RX5 yX5_collect wsX5_collect) := goodIn_app (goodIn_of _ (by decide +kernel)) ggX6_collectItem_X5_collect
theorem dX6_collectItem_0 : decode cX6_collectItem 0 = .ok (.aload_n 0, 1) := by decide +kernel
theorem dX6_collectItem_1 : decode cX6_collectItem 1 = .ok (.getfield 39, 3) := by decide +kernel
theorem dX6_collectItem_4 : decode cX6_collectItem 4 = .ok (.invokevirtual 233, 3) := by decide +kernel
theorem dX6_collectItem_7 : decode cX6_collectItem 7 = .ok (.istore_n 1, 1) := by decide +kernel
theorem dX6_collectItem_8 : decode cX6_collectItem 8 = .ok (.iconst 0, 1) := by decide +kernel
theorem dX6_collectItem_9 : decode cX6_collectItem 9 = .ok (.istore_n 2, 1) := by decide +kernel
theorem dX6_collectItem_10 : decode cX6_collectItem 10 = .ok (.iload_n 2, 1) := by decide +kernel
theorem dX6_collectItem_11 : decode cX6_collectItem 11 = .ok (.iload_n 1, 1) := by decide +kernel
theorem dX6_collectItem_12 : decode cX6_collectItem 12 = .ok (.if_icmp .ge 38, 3) := by decide +kernel
theorem dX6_collectItem_15 : decode cX6_collectItem 15 = .ok (.aload_n 0, 1) := by decide +kernel
theorem dX6_collectItem_16 : decode cX6_collectItem 16 = .ok (.getfield 10, 3) := by decide +kernel
theorem dX6_collectItem_19 : decode cX6_collectItem 19 = .ok (.getfield 51, 3) := by decide +kernel
theorem dX6_collectItem_22 : decode cX6_collectItem 22 = .ok (.invokevirtual 55, 3) := by decide +kernel
theorem dX6_collectItem_25 : decode cX6_collectItem 25 = .ok (.ifCond .eq 25, 3) := by decide +kernel
theorem dX6_collectItem_28 : decode cX6_collectItem 28 = .ok (.aload_n 0, 1) := by decide +kernel
theorem dX6_collectItem_29 : decode cX6_collectItem 29 = .ok (.getfield 10, 3) := by decide +kernel
theorem dX6_collectItem_32 : decode cX6_collectItem 32 = .ok (.aload_n 0, 1) := by decide +kernel
theorem dX6_collectItem_33 : decode cX6_collectItem 33 = .ok (.getfield 39, 3) := by decide +kernel
theorem dX6_collectItem_36 : decode cX6_collectItem 36 = .ok (.iload_n 2, 1) := by decide +kernel
theorem dX6_collectItem_37 : decode cX6_collectItem 37 = .ok (.invokevirtual 236, 3) := by decide +kernel
theorem dX6_collectItem_40 : decode cX6_collectItem 40 = .ok (.invokevirtual 65, 3) := by decide +kernel
theorem dX6_collectItem_43 : decode cX6_collectItem 43 = .ok (.pop, 1) := by decide +kernel
theorem dX6_collectItem_44 : decode cX6_collectItem 44 = .ok (.iinc 2 1, 3) := by decide +kernel
theorem dX6_collectItem_47 : decode cX6_collectItem 47 = .ok (.goto (-37), 3) := by decide +kernel
theorem dX6_collectItem_50 : decode cX6_collectItem 50 = .ok (.return_, 1) := by decide +kernel
theorem dX7_init_0 : decode cX7_init 0 = .ok (.aload_n 0, 1) := by decide +kernel
theorem dX7_init_1 : decode cX7_init 1 = .ok (.invokespecial 1, 3) := by decide +kernel
theorem dX7_init_4 : decode cX7_init 4 = .ok (.aload_n 0, 1) := by decide +kernel
theorem dX7_init_5 : decode cX7_init 5 = .ok (.sipush 370, 3) := by decide +kernel
theorem dX7_init_8 : decode cX7_init 8 = .ok (.newarray .int, 2) := by decide +kernel
theorem dX7_init_10 : decode cX7_init 10 = .ok (.putfield 7, 3) := by decide +kernel
theorem dX7_init_13 : decode cX7_init 13 = .ok (.aload_n 0, 1) := by decide +kernel
theorem dX7_init_14 : decode cX7_init 14 = .ok (.sipush 1480, 3) := by decide +kernel
theorem dX7_init_17 : decode cX7_init 17 = .ok (.newarray .int, 2) := by decide +kernel
theorem dX7_init_19 : decode cX7_init 19 = .ok (.putfield 13, 3) := by decide +kernel
theorem dX7_init_22 : decode cX7_init 22 = .ok (.aload_n 0, 1) := by decide +kernel
theorem dX7_init_23 : decode cX7_init 23 = .ok (.sipush 370, 3) := by decide +kernel
theorem dX7_init_26 : decode cX7_init 26 = .ok (.newarray .int, 2) := by decide +kernel
theorem dX7_init_28 : decode cX7_init 28 = .ok (.putfield 16, 3) := by decide +kernel
theorem dX7_init_31 : decode cX7_init 31 = .ok (.aload_n 0, 1) := by decide +kernel
theorem dX7_init_32 : decode cX7_init 32 = .ok (.sipush 370, 3) := by decide +kernel
theorem dX7_init_35 : decode cX7_init 35 = .ok (.newarray .int, 2) := by decide +kernel
theorem dX7_init_37 : decode cX7_init 37 = .ok (.putfield 19, 3) := by decide +kernel
theorem dX7_init_40 : decode cX7_init 40 = .ok (.aload_n 0, 1) := by decide +kernel
theorem dX7_init_41 : decode cX7_init 41 = .ok (.bipush 80, 2) := by decide +kernel
theorem dX7_init_43 : decode cX7_init 43 = .ok (.newarray .char, 2) := by decide +kernel
theorem dX7_init_45 : decode cX7_init 45 = .ok (.putfield 22, 3) := by decide +kernel
theorem dX7_init_48 : decode cX7_init 48 = .ok (.aload_n 0, 1) := by decide +kernel
theorem dX7_init_49 : decode cX7_init 49 = .ok (.bipush 123, 2) := by decide +kernel
theorem dX7_init_51 : decode cX7_init 51 = .ok (.newarray .int, 2) := by decide +kernel
theorem dX7_init_53 : decode cX7_init 53 = .ok (.putfield 26, 3) := by decide +kernel
theorem dX7_init_56 : decode cX7_init 56 = .ok (.aload_n 0, 1) := by decide +kernel
theorem dX7_init_57 : decode cX7_init 57 = .ok (.getfield 7, 3) := by decide +kernel
theorem dX7_init_60 : decode cX7_init 60 = .ok (.iconst 0, 1) := by decide +kernel
theorem dX7_init_61 : decode cX7_init 61 = .ok (.bipush 6, 2) := by decide +kernel
theorem dX7_init_63 : decode cX7_init 63 = .ok (.iastore, 1) := by decide +kernel
theorem dX7_init_64 : decode cX7_init 64 = .ok (.aload_n 0, 1) := by decide +kernel
theorem dX7_init_65 : decode cX7_init 65 = .ok (.getfield 7, 3) := by decide +kernel
theorem dX7_init_68 : decode cX7_init 68 = .ok (.iconst 2, 1) := by decide +kernel
theorem dX7_init_69 : decode cX7_init 69 = .ok (.iconst 1, 1) := by decide +kernel
theorem dX7_init_70 : decode cX7_init 70 = .ok (.iastore, 1) := by decide +kernel
theorem dX7_init_71 : decode cX7_init 71 = .ok (.return_, 1) := by decide +kernel
theorem dX7_in_0 : decode cX7_in 0 = .ok (.iload_n 0, 1) := by decide +kernel
theorem dX7_in_1 : decode cX7_in 1 = .ok (.iload_n 1, 1) := by decide +kernel
theorem dX7_in_2 : decode cX7_in 2 = .ok (.if_icmp .lt 12, 3) := by decide +kernel
theorem dX7_in_5 : decode cX7_in 5 = .ok (.iload_n 0, 1) := by decide +kernel
theorem dX7_in_6 : decode cX7_in 6 = .ok (.iload_n 2, 1) := by decide +kernel
theorem dX7_in_7 : decode cX7_in 7 = .ok (.if_icmp .gt 7, 3) := by decide +kernel
theorem dX7_in_10 : decode cX7_in 10 = .ok (.iconst 1, 1) := by decide +kernel
theorem dX7_in_11 : decode cX7_in 11 = .ok (.goto 4, 3) := by decide +kernel
theorem dX7_in_14 : decode cX7_in 14 = .ok (.iconst 0, 1) := by decide +kernel
theorem dX7_in_15 : decode cX7_in 15 = .ok (.ireturn, 1) := by decide +kernel
theorem dX7_record_0 : decode cX7_record 0 = .ok (.aload_n 0, 1) := by decide +kernel
theorem dX7_record_1 : decode cX7_record 1 = .ok (.getfield 29, 3) := by decide +kernel
theorem dX7_record_4 : decode cX7_record 4 = .ok (.iconst 4, 1) := by decide +kernel
theorem dX7_record_5 : decode cX7_record 5 = .ok (.if_icmp .ne 44, 3) := by decide +kernel
theorem dX7_record_8 : decode cX7_record 8 = .ok (.iconst 0, 1) := by decide +kernel
theorem dX7_record_9 : decode cX7_record 9 = .ok (.istore_n 1, 1) := by decide +kernel
theorem dX7_record_10 : decode cX7_record 10 = .ok (.iload_n 1, 1) := by decide +kernel
theorem dX7_record_11 : decode cX7_record 11 = .ok (.sipush 1110, 3) := by decide +kernel
theorem dX7_record_14 : decode cX7_record 14 = .ok (.if_icmp .ge 25, 3) := by decide +kernel
theorem dX7_record_17 : decode cX7_record 17 = .ok (.aload_n 0, 1) := by decide +kernel
theorem dX7_record_18 : decode cX7_record 18 = .ok (.getfield 13, 3) := by decide +kernel
theorem dX7_record_21 : decode cX7_record 21 = .ok (.iload_n 1, 1) := by decide +kernel
theorem dX7_record_22 : decode cX7_record 22 = .ok (.aload_n 0, 1) := by decide +kernel
theorem dX7_record_23 : decode cX7_record 23 = .ok (.getfield 13, 3) := by decide +kernel
theorem dX7_record_26 : decode cX7_record 26 = .ok (.iload_n 1, 1) := by decide +kernel
theorem dX7_record_27 : decode cX7_record 27 = .ok (.sipush 370, 3) := by decide +kernel
theorem dX7_record_30 : decode cX7_record 30 = .ok (.iadd, 1) := by decide +kernel
theorem dX7_record_31 : decode cX7_record 31 = .ok (.iaload, 1) := by decide +kernel
theorem dX7_record_32 : decode cX7_record 32 = .ok (.iastore, 1) := by decide +kernel
theorem dX7_record_33 : decode cX7_record 33 = .ok (.iinc 1 1, 3) := by decide +kernel
theorem dX7_record_36 : decode cX7_record 36 = .ok (.goto (-26), 3) := by decide +kernel
theorem dX7_record_39 : decode cX7_record 39 = .ok (.aload_n 0, 1) := by decide +kernel
theorem dX7_record_40 : decode cX7_record 40 = .ok (.dup, 1) := by decide +kernel
theorem dX7_record_41 : decode cX7_record 41 = .ok (.getfield 29, 3) := by decide +kernel
theorem dX7_record_44 : decode cX7_record 44 = .ok (.iconst 1, 1) := by decide +kernel
theorem dX7_record_45 : decode cX7_record 45 = .ok (.isub, 1) := by decide +kernel
theorem dX7_record_46 : decode cX7_record 46 = .ok (.putfield 29, 3) := by decide +kernel
theorem dX7_record_49 : decode cX7_record 49 = .ok (.iconst 0, 1) := by decide +kernel
theorem dX7_record_50 : decode cX7_record 50 = .ok (.istore_n 1, 1) := by decide +kernel
theorem dX7_record_51 : decode cX7_record 51 = .ok (.iload_n 1, 1) := by decide +kernel
theorem dX7_record_52 : decode cX7_record 52 = .ok (.sipush 370, 3) := by decide +kernel
theorem dX7_record_55 : decode cX7_record 55 = .ok (.if_icmp .ge 30, 3) := by decide +kernel
theorem dX7_record_58 : decode cX7_record 58 = .ok (.aload_n 0, 1) := by decide +kernel
theorem dX7_record_59 : decode cX7_record 59 = .ok (.getfield 13, 3) := by decide +kernel
theorem dX7_record_62 : decode cX7_record 62 = .ok (.aload_n 0, 1) := by decide +kernel
theorem dX7_record_63 : decode cX7_record 63 = .ok (.getfield 29, 3) := by decide +kernel
theorem dX7_record_66 : decode cX7_record 66 = .ok (.sipush 370, 3) := by decide +kernel
theorem dX7_record_69 : decode cX7_record 69 = .ok (.imul, 1) := by decide +kernel
theorem dX7_record_70 : decode cX7_record 70 = .ok (.iload_n 1, 1) := by decide +kernel
theorem dX7_record_71 : decode cX7_record 71 = .ok (.iadd, 1) := by decide +kernel
theorem dX7_record_72 : decode cX7_record 72 = .ok (.aload_n 0, 1) := by decide +kernel
theorem dX7_record_73 : decode cX7_record 73 = .ok (.getfield 7, 3) := by decide +kernel
theorem dX7_record_76 : decode cX7_record 76 = .ok (.iload_n 1, 1) := by decide +kernel
theorem dX7_record_77 : decode cX7_record 77 = .ok (.iaload, 1) := by decide +kernel
theorem dX7_record_78 : decode cX7_record 78 = .ok (.iastore, 1) := by decide +kernel
theorem dX7_record_79 : decode cX7_record 79 = .ok (.iinc 1 1, 3) := by decide +kernel
theorem dX7_record_82 : decode cX7_record 82 = .ok (.goto (-31), 3) := by decide +kernel
theorem dX7_record_85 : decode cX7_record 85 = .ok (.aload_n 0, 1) := by decide +kernel
theorem dX7_record_86 : decode cX7_record 86 = .ok (.dup, 1) := by decide +kernel
theorem dX7_record_87 : decode cX7_record 87 = .ok (.getfield 29, 3) := by decide +kernel
theorem dX7_record_90 : decode cX7_record 90 = .ok (.iconst 1, 1) := by decide +kernel
theorem dX7_record_91 : decode cX7_record 91 = .ok (.iadd, 1) := by decide +kernel
theorem dX7_record_92 : decode cX7_record 92 = .ok (.putfield 29, 3) := by decide +kernel
theorem dX7_record_95 : decode cX7_record 95 = .ok (.return_, 1) := by decide +kernel
theorem dX7_undo_0 : decode cX7_undo 0 = .ok (.aload_n 0, 1) := by decide +kernel
theorem dX7_undo_1 : decode cX7_undo 1 = .ok (.getfield 29, 3) := by decide +kernel
theorem dX7_undo_4 : decode cX7_undo 4 = .ok (.ifCond .ne 6, 3) := by decide +kernel
theorem dX7_undo_7 : decode cX7_undo 7 = .ok (.bipush (-3), 2) := by decide +kernel
theorem dX7_undo_9 : decode cX7_undo 9 = .ok (.ireturn, 1) := by decide +kernel
theorem dX7_undo_10 : decode cX7_undo 10 = .ok (.aload_n 0, 1) := by decide +kernel
theorem dX7_undo_11 : decode cX7_undo 11 = .ok (.dup, 1) := by decide +kernel
theorem dX7_undo_12 : decode cX7_undo 12 = .ok (.getfield 29, 3) := by decide +kernel
theorem dX7_undo_15 : decode cX7_undo 15 = .ok (.iconst 1, 1) := by decide +kernel
theorem dX7_undo_16 : decode cX7_undo 16 = .ok (.isub, 1) := by decide +kernel
theorem dX7_undo_17 : decode cX7_undo 17 = .ok (.putfield 29, 3) := by decide +kernel
theorem dX7_undo_20 : decode cX7_undo 20 = .ok (.iconst 0, 1) := by decide +kernel
theorem dX7_undo_21 : decode cX7_undo 21 = .ok (.istore_n 1, 1) := by decide +kernel
theorem dX7_undo_22 : decode cX7_undo 22 = .ok (.iload_n 1, 1) := by decide +kernel
theorem dX7_undo_23 : decode cX7_undo 23 = .ok (.sipush 370, 3) := by decide +kernel
theorem dX7_undo_26 : decode cX7_undo 26 = .ok (.if_icmp .ge 30, 3) := by decide +kernel
theorem dX7_undo_29 : decode cX7_undo 29 = .ok (.aload_n 0, 1) := by decide +kernel
theorem dX7_undo_30 : decode cX7_undo 30 = .ok (.getfield 7, 3) := by decide +kernel
theorem dX7_undo_33 : decode cX7_undo 33 = .ok (.iload_n 1, 1) := by decide +kernel
theorem dX7_undo_34 : decode cX7_undo 34 = .ok (.aload_n 0, 1) := by decide +kernel
theorem dX7_undo_35 : decode cX7_undo 35 = .ok (.getfield 13, 3) := by decide +kernel
theorem dX7_undo_38 : decode cX7_undo 38 = .ok (.aload_n 0, 1) := by decide +kernel
theorem dX7_undo_39 : decode cX7_undo 39 = .ok (.getfield 29, 3) := by decide +kernel
theorem dX7_undo_42 : decode cX7_undo 42 = .ok (.sipush 370, 3) := by decide +kernel
theorem dX7_undo_45 : decode cX7_undo 45 = .ok (.imul, 1) := by decide +kernel
theorem dX7_undo_46 : decode cX7_undo 46 = .ok (.iload_n 1, 1) := by decide +kernel
theorem dX7_undo_47 : decode cX7_undo 47 = .ok (.iadd, 1) := by decide +kernel
theorem dX7_undo_48 : decode cX7_undo 48 = .ok (.iaload, 1) := by decide +kernel
theorem dX7_undo_49 : decode cX7_undo 49 = .ok (.iastore, 1) := by decide +kernel
theorem dX7_undo_50 : decode cX7_undo 50 = .ok (.iinc 1 1, 3) := by decide +kernel
theorem dX7_undo_53 : decode cX7_undo 53 = .ok (.goto (-31), 3) := by decide +kernel
theorem dX7_undo_56 : decode cX7_undo 56 = .ok (.aload_n 0, 1) := by decide +kernel
theorem dX7_undo_57 : decode cX7_undo 57 = .ok (.getfield 29, 3) := by decide +kernel
theorem dX7_undo_60 : decode cX7_undo 60 = .ok (.ireturn, 1) := by decide +kernel
theorem dX7_save_0 : decode cX7_save 0 = .ok (.aload_n 0, 1) := by decide +kernel
theorem dX7_save_1 : decode cX7_save 1 = .ok (.iconst 1, 1) := by decide +kernel
theorem dX7_save_2 : decode cX7_save 2 = .ok (.putfield 33, 3) := by decide +kernel
theorem dX7_save_5 : decode cX7_save 5 = .ok (.iconst 0, 1) := by decide +kernel
theorem dX7_save_6 : decode cX7_save 6 = .ok (.istore_n 1, 1) := by decide +kernel
theorem dX7_save_7 : decode cX7_save 7 = .ok (.iload_n 1, 1) := by decide +kernel
theorem dX7_save_8 : decode cX7_save 8 = .ok (.sipush 370, 3) := by decide +kernel
theorem dX7_save_11 : decode cX7_save 11 = .ok (.if_icmp .ge 21, 3) := by decide +kernel
theorem dX7_save_14 : decode cX7_save 14 = .ok (.aload_n 0, 1) := by decide +kernel
theorem dX7_save_15 : decode cX7_save 15 = .ok (.getfield 16, 3) := by decide +kernel
theorem dX7_save_18 : decode cX7_save 18 = .ok (.iload_n 1, 1) := by decide +kernel
theorem dX7_save_19 : decode cX7_save 19 = .ok (.aload_n 0, 1) := by decide +kernel
theorem dX7_save_20 : decode cX7_save 20 = .ok (.getfield 7, 3) := by decide +kernel
theorem dX7_save_23 : decode cX7_save 23 = .ok (.iload_n 1, 1) := by decide +kernel
theorem dX7_save_24 : decode cX7_save 24 = .ok (.iaload, 1) := by decide +kernel
theorem dX7_save_25 : decode cX7_save 25 = .ok (.iastore, 1) := by decide +kernel
theorem dX7_save_26 : decode cX7_save 26 = .ok (.iinc 1 1, 3) := by decide +kernel
theorem dX7_save_29 : decode cX7_save 29 = .ok (.goto (-22), 3) := by decide +kernel
theorem dX7_save_32 : decode cX7_save 32 = .ok (.aload_n 0, 1) := by decide +kernel
theorem dX7_save_33 : decode cX7_save 33 = .ok (.getfield 7, 3) := by decide +kernel
theorem dX7_save_36 : decode cX7_save 36 = .ok (.iconst 3, 1) := by decide +kernel
theorem dX7_save_37 : decode cX7_save 37 = .ok (.iaload, 1) := by decide +kernel
theorem dX7_save_38 : decode cX7_save 38 = .ok (.ireturn, 1) := by decide +kernel
set_option maxRecDepth 20000 in
theorem ggX7_restore_X7_record : GoodIn wsX7_restore wsX7_record := goodIn_r _ [8, 9, 10, 2, 11, 12, 13, 14, 15, 16, 17, 18, 19, 20, 21, 22] (by decide +kernel) (by decide +kernel)
set_option maxRecDepth 20000 in
theorem gX7_restore_X7_record : GoodIn wsX7_restore (wsV RX7 37 RX7 yX7_record wsX7_record) := goodIn_app (goodIn_of _ (by decide +kernel)) ggX7_restore_X7_record
theorem dX7_restore_0 : decode cX7_restore 0 = .ok (.aload_n 0, 1) := by decide +kernel
theorem dX7_restore_1 : decode cX7_restore 1 = .ok (.getfield 33, 3) := by decide +kernel
theorem dX7_restore_4 : decode cX7_restore 4 = .ok (.ifCond .ne 6, 3) := by decide +kernel
theorem dX7_restore_7 : decode cX7_restore 7 = .ok (.bipush (-3), 2) := by decide +kernel
theorem dX7_restore_9 : decode cX7_restore 9 = .ok (.ireturn, 1) := by decide +kernel
theorem dX7_restore_10 : decode cX7_restore 10 = .ok (.aload_n 0, 1) := by decide +kernel
theorem dX7_restore_11 : decode cX7_restore 11 = .ok (.invokevirtual 37, 3) := by decide +kernel
theorem dX7_restore_14 : decode cX7_restore 14 = .ok (.iconst 0, 1) := by decide +kernel
theorem dX7_restore_15 : decode cX7_restore 15 = .ok (.istore_n 1, 1) := by decide +kernel
theorem dX7_restore_16 : decode cX7_restore 16 = .ok (.iload_n 1, 1) := by decide +kernel
theorem dX7_restore_17 : decode cX7_restore 17 = .ok (.sipush 370, 3) := by decide +kernel
theorem dX7_restore_20 : decode cX7_restore 20 = .ok (.if_icmp .ge 21, 3) := by decide +kernel
theorem dX7_restore_23 : decode cX7_restore 23 = .ok (.aload_n 0, 1) := by decide +kernel
theorem dX7_restore_24 : decode cX7_restore 24 = .ok (.getfield 7, 3) := by decide +kernel
theorem dX7_restore_27 : decode cX7_restore 27 = .ok (.iload_n 1, 1) := by decide +kernel
theorem dX7_restore_28 : decode cX7_restore 28 = .ok (.aload_n 0, 1) := by decide +kernel
theorem dX7_restore_29 : decode cX7_restore 29 = .ok (.getfield 16, 3) := by decide +kernel
theorem dX7_restore_32 : decode cX7_restore 32 = .ok (.iload_n 1, 1) := by decide +kernel
theorem dX7_restore_33 : decode cX7_restore 33 = .ok (.iaload, 1) := by decide +kernel
theorem dX7_restore_34 : decode cX7_restore 34 = .ok (.iastore, 1) := by decide +kernel
theorem dX7_restore_35 : decode cX7_restore 35 = .ok (.iinc 1 1, 3) := by decide +kernel
theorem dX7_restore_38 : decode cX7_restore 38 = .ok (.goto (-22), 3) := by decide +kernel
theorem dX7_restore_41 : decode cX7_restore 41 = .ok (.aload_n 0, 1) := by decide +kernel
theorem dX7_restore_42 : decode cX7_restore 42 = .ok (.getfield 7, 3) := by decide +kernel
theorem dX7_restore_45 : decode cX7_restore 45 = .ok (.iconst 3, 1) := by decide +kernel
theorem dX7_restore_46 : decode cX7_restore 46 = .ok (.iaload, 1) := by decide +kernel
theorem dX7_restore_47 : decode cX7_restore 47 = .ok (.ireturn, 1) := by decide +kernel
theorem dX7_place_0 : decode cX7_place 0 = .ok (.aload_n 0, 1) := by decide +kernel
theorem dX7_place_1 : decode cX7_place 1 = .ok (.getfield 7, 3) := by decide +kernel
theorem dX7_place_4 : decode cX7_place 4 = .ok (.sipush 250, 3) := by decide +kernel
theorem dX7_place_7 : decode cX7_place 7 = .ok (.iload_n 1, 1) := by decide +kernel
theorem dX7_place_8 : decode cX7_place 8 = .ok (.iadd, 1) := by decide +kernel
theorem dX7_place_9 : decode cX7_place 9 = .ok (.iaload, 1) := by decide +kernel
theorem dX7_place_10 : decode cX7_place 10 = .ok (.ireturn, 1) := by decide +kernel
set_option maxRecDepth 20000 in
theorem ggX7_rowsAt_X7_place : GoodIn wsX7_rowsAt wsX7_place := goodIn_r _ [6, 1, 7, 8, 9, 10, 11, 12, 13, 14, 15, 16, 17, 18] (by decide +kernel) (by decide +kernel)
set_option maxRecDepth 20000 in
theorem gX7_rowsAt_X7_place : GoodIn wsX7_rowsAt (wsV RX7 40 RX7 yX7_place wsX7_place) := goodIn_app (goodIn_of _ (by decide +kernel)) ggX7_rowsAt_X7_place
theorem dX7_rowsAt_0 : decode cX7_rowsAt 0 = .ok (.iconst 0, 1) := by decide +kernel
theorem dX7_rowsAt_1 : decode cX7_rowsAt 1 = .ok (.istore_n 2, 1) := by decide +kernel
theorem dX7_rowsAt_2 : decode cX7_rowsAt 2 = .ok (.iconst 0, 1) := by decide +kernel
theorem dX7_rowsAt_3 : decode cX7_rowsAt 3 = .ok (.istore_n 3, 1) := by decide +kernel
theorem dX7_rowsAt_4 : decode cX7_rowsAt 4 = .ok (.iload_n 3, 1) := by decide +kernel
theorem dX7_rowsAt_5 : decode cX7_rowsAt 5 = .ok (.aload_n 0, 1) := by decide +kernel
theorem dX7_rowsAt_6 : decode cX7_rowsAt 6 = .ok (.getfield 7, 3) := by decide +kernel
theorem dX7_rowsAt_9 : decode cX7_rowsAt 9 = .ok (.iconst 3, 1) := by decide +kernel
theorem dX7_rowsAt_10 : decode cX7_rowsAt 10 = .ok (.iaload, 1) := by decide +kernel
theorem dX7_rowsAt_11 : decode cX7_rowsAt 11 = .ok (.if_icmp .ge 26, 3) := by decide +kernel
theorem dX7_rowsAt_14 : decode cX7_rowsAt 14 = .ok (.iload_n 2, 1) := by decide +kernel
theorem dX7_rowsAt_15 : decode cX7_rowsAt 15 = .ok (.aload_n 0, 1) := by decide +kernel
theorem dX7_rowsAt_16 : decode cX7_rowsAt 16 = .ok (.iload_n 3, 1) := by decide +kernel
theorem dX7_rowsAt_17 : decode cX7_rowsAt 17 = .ok (.invokevirtual 40, 3) := by decide +kernel
theorem dX7_rowsAt_20 : decode cX7_rowsAt 20 = .ok (.iload_n 1, 1) := by decide +kernel
theorem dX7_rowsAt_21 : decode cX7_rowsAt 21 = .ok (.if_icmp .ne 7, 3) := by decide +kernel
theorem dX7_rowsAt_24 : decode cX7_rowsAt 24 = .ok (.iconst 1, 1) := by decide +kernel
theorem dX7_rowsAt_25 : decode cX7_rowsAt 25 = .ok (.goto 4, 3) := by decide +kernel
theorem dX7_rowsAt_28 : decode cX7_rowsAt 28 = .ok (.iconst 0, 1) := by decide +kernel
theorem dX7_rowsAt_29 : decode cX7_rowsAt 29 = .ok (.iadd, 1) := by decide +kernel
theorem dX7_rowsAt_30 : decode cX7_rowsAt 30 = .ok (.istore_n 2, 1) := by decide +kernel
theorem dX7_rowsAt_31 : decode cX7_rowsAt 31 = .ok (.iinc 3 1, 3) := by decide +kernel
theorem dX7_rowsAt_34 : decode cX7_rowsAt 34 = .ok (.goto (-30), 3) := by decide +kernel
theorem dX7_rowsAt_37 : decode cX7_rowsAt 37 = .ok (.iload_n 2, 1) := by decide +kernel
theorem dX7_rowsAt_38 : decode cX7_rowsAt 38 = .ok (.ireturn, 1) := by decide +kernel
set_option maxRecDepth 20000 in
theorem ggX7_isRun_X7_in : GoodIn wsX7_isRun wsX7_in := goodIn_r _ [5] (by decide +kernel) (by decide +kernel)
set_option maxRecDepth 20000 in
theorem gX7_isRun_X7_in : GoodIn wsX7_isRun (va_wsS RX7 44 yX7_in wsX7_in) := goodIn_app (goodIn_of _ (by decide +kernel)) ggX7_isRun_X7_in
set_option maxRecDepth 20000 in
theorem ggX7_isRun_X7_rowsAt : GoodIn wsX7_isRun wsX7_rowsAt := goodIn_r _ [9, 1, 10, 11, 12, 4, 13, 14, 15, 16, 17, 18, 19, 20, 21, 22, 23, 24, 25] (by decide +kernel) (by decide +kernel)
set_option maxRecDepth 20000 in
theorem gX7_isRun_X7_rowsAt : GoodIn wsX7_isRun (wsV RX7 48 RX7 yX7_rowsAt wsX7_rowsAt) := goodIn_app (goodIn_of _ (by decide +kernel)) ggX7_isRun_X7_rowsAt
theorem dX7_isRun_0 : decode cX7_isRun 0 = .ok (.iload_n 1, 1) := by decide +kernel
theorem dX7_isRun_1 : decode cX7_isRun 1 = .ok (.iconst 0, 1) := by decide +kernel
theorem dX7_isRun_2 : decode cX7_isRun 2 = .ok (.aload_n 0, 1) := by decide +kernel
theorem dX7_isRun_3 : decode cX7_isRun 3 = .ok (.getfield 7, 3) := by decide +kernel
theorem dX7_isRun_6 : decode cX7_isRun 6 = .ok (.iconst 4, 1) := by decide +kernel
theorem dX7_isRun_7 : decode cX7_isRun 7 = .ok (.iaload, 1) := by decide +kernel
theorem dX7_isRun_8 : decode cX7_isRun 8 = .ok (.iconst 1, 1) := by decide +kernel
theorem dX7_isRun_9 : decode cX7_isRun 9 = .ok (.isub, 1) := by decide +kernel
theorem dX7_isRun_10 : decode cX7_isRun 10 = .ok (.invokestatic 44, 3) := by decide +kernel
theorem dX7_isRun_13 : decode cX7_isRun 13 = .ok (.ifCond .eq 20, 3) := by decide +kernel
theorem dX7_isRun_16 : decode cX7_isRun 16 = .ok (.aload_n 0, 1) := by decide +kernel
theorem dX7_isRun_17 : decode cX7_isRun 17 = .ok (.bipush 10, 2) := by decide +kernel
theorem dX7_isRun_19 : decode cX7_isRun 19 = .ok (.iconst 2, 1) := by decide +kernel
theorem dX7_isRun_20 : decode cX7_isRun 20 = .ok (.iload_n 1, 1) := by decide +kernel
theorem dX7_isRun_21 : decode cX7_isRun 21 = .ok (.imul, 1) := by decide +kernel
theorem dX7_isRun_22 : decode cX7_isRun 22 = .ok (.iadd, 1) := by decide +kernel
theorem dX7_isRun_23 : decode cX7_isRun 23 = .ok (.invokevirtual 48, 3) := by decide +kernel
theorem dX7_isRun_26 : decode cX7_isRun 26 = .ok (.ifCond .le 7, 3) := by decide +kernel
theorem dX7_isRun_29 : decode cX7_isRun 29 = .ok (.iconst 1, 1) := by decide +kernel
theorem dX7_isRun_30 : decode cX7_isRun 30 = .ok (.goto 4, 3) := by decide +kernel
theorem dX7_isRun_33 : decode cX7_isRun 33 = .ok (.iconst 0, 1) := by decide +kernel
theorem dX7_isRun_34 : decode cX7_isRun 34 = .ok (.ireturn, 1) := by decide +kernel
set_option maxRecDepth 20000 in
theorem ggX7_nextPlace_X7_place : GoodIn wsX7_nextPlace wsX7_place := goodIn_r _ [6, 1, 7, 8, 9, 10, 11, 12, 13, 14, 15, 16, 17, 18] (by decide +kernel) (by decide +kernel)
set_option maxRecDepth 20000 in
theorem gX7_nextPlace_X7_place : GoodIn wsX7_nextPlace (wsV RX7 40 RX7 yX7_place wsX7_place) := goodIn_app (goodIn_of _ (by decide +kernel)) ggX7_nextPlace_X7_place
theorem dX7_nextPlace_0 : decode cX7_nextPlace 0 = .ok (.bipush (-6), 2) := by decide +kernel
theorem dX7_nextPlace_2 : decode cX7_nextPlace 2 = .ok (.istore_n 3, 1) := by decide +kernel
theorem dX7_nextPlace_3 : decode cX7_nextPlace 3 = .ok (.iconst 0, 1) := by decide +kernel
theorem dX7_nextPlace_4 : decode cX7_nextPlace 4 = .ok (.istore 4, 2) := by decide +kernel
theorem dX7_nextPlace_6 : decode cX7_nextPlace 6 = .ok (.iload 4, 2) := by decide +kernel
theorem dX7_nextPlace_8 : decode cX7_nextPlace 8 = .ok (.aload_n 0, 1) := by decide +kernel
theorem dX7_nextPlace_9 : decode cX7_nextPlace 9 = .ok (.getfield 7, 3) := by decide +kernel
theorem dX7_nextPlace_12 : decode cX7_nextPlace 12 = .ok (.iconst 3, 1) := by decide +kernel
theorem dX7_nextPlace_13 : decode cX7_nextPlace 13 = .ok (.iaload, 1) := by decide +kernel
theorem dX7_nextPlace_14 : decode cX7_nextPlace 14 = .ok (.if_icmp .ge 57, 3) := by decide +kernel
theorem dX7_nextPlace_17 : decode cX7_nextPlace 17 = .ok (.aload_n 0, 1) := by decide +kernel
theorem dX7_nextPlace_18 : decode cX7_nextPlace 18 = .ok (.iload 4, 2) := by decide +kernel
theorem dX7_nextPlace_20 : decode cX7_nextPlace 20 = .ok (.invokevirtual 40, 3) := by decide +kernel
theorem dX7_nextPlace_23 : decode cX7_nextPlace 23 = .ok (.istore 5, 2) := by decide +kernel
theorem dX7_nextPlace_25 : decode cX7_nextPlace 25 = .ok (.iload 5, 2) := by decide +kernel
theorem dX7_nextPlace_27 : decode cX7_nextPlace 27 = .ok (.bipush 10, 2) := by decide +kernel
theorem dX7_nextPlace_29 : decode cX7_nextPlace 29 = .ok (.if_icmp .lt 34, 3) := by decide +kernel
theorem dX7_nextPlace_32 : decode cX7_nextPlace 32 = .ok (.iload 5, 2) := by decide +kernel
theorem dX7_nextPlace_34 : decode cX7_nextPlace 34 = .ok (.iload_n 1, 1) := by decide +kernel
theorem dX7_nextPlace_35 : decode cX7_nextPlace 35 = .ok (.if_icmp .le 28, 3) := by decide +kernel
theorem dX7_nextPlace_38 : decode cX7_nextPlace 38 = .ok (.iload 5, 2) := by decide +kernel
theorem dX7_nextPlace_40 : decode cX7_nextPlace 40 = .ok (.iconst 2, 1) := by decide +kernel
theorem dX7_nextPlace_41 : decode cX7_nextPlace 41 = .ok (.irem, 1) := by decide +kernel
theorem dX7_nextPlace_42 : decode cX7_nextPlace 42 = .ok (.iload_n 2, 1) := by decide +kernel
theorem dX7_nextPlace_43 : decode cX7_nextPlace 43 = .ok (.if_icmp .ne 20, 3) := by decide +kernel
theorem dX7_nextPlace_46 : decode cX7_nextPlace 46 = .ok (.iload_n 3, 1) := by decide +kernel
theorem dX7_nextPlace_47 : decode cX7_nextPlace 47 = .ok (.bipush (-6), 2) := by decide +kernel
theorem dX7_nextPlace_49 : decode cX7_nextPlace 49 = .ok (.if_icmp .eq 9, 3) := by decide +kernel
theorem dX7_nextPlace_52 : decode cX7_nextPlace 52 = .ok (.iload 5, 2) := by decide +kernel
theorem dX7_nextPlace_54 : decode cX7_nextPlace 54 = .ok (.iload_n 3, 1) := by decide +kernel
theorem dX7_nextPlace_55 : decode cX7_nextPlace 55 = .ok (.if_icmp .ge 8, 3) := by decide +kernel
theorem dX7_nextPlace_58 : decode cX7_nextPlace 58 = .ok (.iload 5, 2) := by decide +kernel
theorem dX7_nextPlace_60 : decode cX7_nextPlace 60 = .ok (.goto 4, 3) := by decide +kernel
theorem dX7_nextPlace_63 : decode cX7_nextPlace 63 = .ok (.iload_n 3, 1) := by decide +kernel
theorem dX7_nextPlace_64 : decode cX7_nextPlace 64 = .ok (.istore_n 3, 1) := by decide +kernel
theorem dX7_nextPlace_65 : decode cX7_nextPlace 65 = .ok (.iinc 4 1, 3) := by decide +kernel
theorem dX7_nextPlace_68 : decode cX7_nextPlace 68 = .ok (.goto (-62), 3) := by decide +kernel
theorem dX7_nextPlace_71 : decode cX7_nextPlace 71 = .ok (.iload_n 3, 1) := by decide +kernel
theorem dX7_nextPlace_72 : decode cX7_nextPlace 72 = .ok (.ireturn, 1) := by decide +kernel
set_option maxRecDepth 20000 in
theorem ggX7_many_X7_nextPlace : GoodIn wsX7_many wsX7_nextPlace := goodIn_r _ [5, 6, 7, 8, 9, 4, 10, 11, 12, 13, 14, 15, 16, 17, 18, 19, 20, 21, 22] (by decide +kernel) (by decide +kernel)
set_option maxRecDepth 20000 in
theorem gX7_many_X7_nextPlace : GoodIn wsX7_many (wsV RX7 51 RX7 yX7_nextPlace wsX7_nextPlace) := goodIn_app (goodIn_of _ (by decide +kernel)) ggX7_many_X7_nextPlace
theorem dX7_many_0 : decode cX7_many 0 = .ok (.iconst 0, 1) := by decide +kernel
theorem dX7_many_1 : decode cX7_many 1 = .ok (.istore_n 2, 1) := by decide +kernel
theorem dX7_many_2 : decode cX7_many 2 = .ok (.aload_n 0, 1) := by decide +kernel
theorem dX7_many_3 : decode cX7_many 3 = .ok (.iconst 0, 1) := by decide +kernel
theorem dX7_many_4 : decode cX7_many 4 = .ok (.iload_n 1, 1) := by decide +kernel
theorem dX7_many_5 : decode cX7_many 5 = .ok (.invokevirtual 51, 3) := by decide +kernel
theorem dX7_many_8 : decode cX7_many 8 = .ok (.istore_n 3, 1) := by decide +kernel
theorem dX7_many_9 : decode cX7_many 9 = .ok (.iload_n 3, 1) := by decide +kernel
theorem dX7_many_10 : decode cX7_many 10 = .ok (.bipush (-6), 2) := by decide +kernel
theorem dX7_many_12 : decode cX7_many 12 = .ok (.if_icmp .eq 16, 3) := by decide +kernel
theorem dX7_many_15 : decode cX7_many 15 = .ok (.iinc 2 1, 3) := by decide +kernel
theorem dX7_many_18 : decode cX7_many 18 = .ok (.aload_n 0, 1) := by decide +kernel
theorem dX7_many_19 : decode cX7_many 19 = .ok (.iload_n 3, 1) := by decide +kernel
theorem dX7_many_20 : decode cX7_many 20 = .ok (.iload_n 1, 1) := by decide +kernel
theorem dX7_many_21 : decode cX7_many 21 = .ok (.invokevirtual 51, 3) := by decide +kernel
theorem dX7_many_24 : decode cX7_many 24 = .ok (.istore_n 3, 1) := by decide +kernel
theorem dX7_many_25 : decode cX7_many 25 = .ok (.goto (-16), 3) := by decide +kernel
theorem dX7_many_28 : decode cX7_many 28 = .ok (.iload_n 2, 1) := by decide +kernel
theorem dX7_many_29 : decode cX7_many 29 = .ok (.ireturn, 1) := by decide +kernel
set_option maxRecDepth 20000 in
theorem ggX7_runMany_X7_many : GoodIn wsX7_runMany wsX7_many := goodIn_r _ [5, 6, 7, 8, 4, 9, 10, 11, 12, 13, 14, 15, 16, 17, 18, 19, 20, 21, 22, 23, 24, 25, 26] (by decide +kernel) (by decide +kernel)
set_option maxRecDepth 20000 in
theorem gX7_runMany_X7_many : GoodIn wsX7_runMany (wsV RX7 55 RX7 yX7_many wsX7_many) := goodIn_app (goodIn_of _ (by decide +kernel)) ggX7_runMany_X7_many
theorem dX7_runMany_0 : decode cX7_runMany 0 = .ok (.aload_n 0, 1) := by decide +kernel
theorem dX7_runMany_1 : decode cX7_runMany 1 = .ok (.iconst 0, 1) := by decide +kernel
theorem dX7_runMany_2 : decode cX7_runMany 2 = .ok (.invokevirtual 55, 3) := by decide +kernel
theorem dX7_runMany_5 : decode cX7_runMany 5 = .ok (.ireturn, 1) := by decide +kernel
set_option maxRecDepth 20000 in
theorem ggX7_becomesRun_X7_place : GoodIn wsX7_becomesRun wsX7_place := goodIn_r _ [6, 1, 7, 8, 9, 10, 11, 12, 13, 14, 15, 16, 17, 18] (by decide +kernel) (by decide +kernel)
set_option maxRecDepth 20000 in
theorem gX7_becomesRun_X7_place : GoodIn wsX7_becomesRun (wsV RX7 40 RX7 yX7_place wsX7_place) := goodIn_app (goodIn_of _ (by decide +kernel)) ggX7_becomesRun_X7_place
theorem dX7_becomesRun_0 : decode cX7_becomesRun 0 = .ok (.iconst 0, 1) := by decide +kernel
theorem dX7_becomesRun_1 : decode cX7_becomesRun 1 = .ok (.istore_n 2, 1) := by decide +kernel
theorem dX7_becomesRun_2 : decode cX7_becomesRun 2 = .ok (.iload_n 2, 1) := by decide +kernel
theorem dX7_becomesRun_3 : decode cX7_becomesRun 3 = .ok (.aload_n 0, 1) := by decide +kernel
theorem dX7_becomesRun_4 : decode cX7_becomesRun 4 = .ok (.getfield 7, 3) := by decide +kernel
theorem dX7_becomesRun_7 : decode cX7_becomesRun 7 = .ok (.iconst 3, 1) := by decide +kernel
theorem dX7_becomesRun_8 : decode cX7_becomesRun 8 = .ok (.iaload, 1) := by decide +kernel
theorem dX7_becomesRun_9 : decode cX7_becomesRun 9 = .ok (.if_icmp .ge 47, 3) := by decide +kernel
theorem dX7_becomesRun_12 : decode cX7_becomesRun 12 = .ok (.aload_n 0, 1) := by decide +kernel
theorem dX7_becomesRun_13 : decode cX7_becomesRun 13 = .ok (.getfield 7, 3) := by decide +kernel
theorem dX7_becomesRun_16 : decode cX7_becomesRun 16 = .ok (.sipush 250, 3) := by decide +kernel
theorem dX7_becomesRun_19 : decode cX7_becomesRun 19 = .ok (.iload_n 2, 1) := by decide +kernel
theorem dX7_becomesRun_20 : decode cX7_becomesRun 20 = .ok (.iadd, 1) := by decide +kernel
theorem dX7_becomesRun_21 : decode cX7_becomesRun 21 = .ok (.aload_n 0, 1) := by decide +kernel
theorem dX7_becomesRun_22 : decode cX7_becomesRun 22 = .ok (.iload_n 2, 1) := by decide +kernel
theorem dX7_becomesRun_23 : decode cX7_becomesRun 23 = .ok (.invokevirtual 40, 3) := by decide +kernel
theorem dX7_becomesRun_26 : decode cX7_becomesRun 26 = .ok (.iload_n 1, 1) := by decide +kernel
theorem dX7_becomesRun_27 : decode cX7_becomesRun 27 = .ok (.if_icmp .ne 17, 3) := by decide +kernel
theorem dX7_becomesRun_30 : decode cX7_becomesRun 30 = .ok (.bipush 10, 2) := by decide +kernel
theorem dX7_becomesRun_32 : decode cX7_becomesRun 32 = .ok (.iconst 2, 1) := by decide +kernel
theorem dX7_becomesRun_33 : decode cX7_becomesRun 33 = .ok (.aload_n 0, 1) := by decide +kernel
theorem dX7_becomesRun_34 : decode cX7_becomesRun 34 = .ok (.getfield 7, 3) := by decide +kernel
theorem dX7_becomesRun_37 : decode cX7_becomesRun 37 = .ok (.iconst 4, 1) := by decide +kernel
theorem dX7_becomesRun_38 : decode cX7_becomesRun 38 = .ok (.iaload, 1) := by decide +kernel
theorem dX7_becomesRun_39 : decode cX7_becomesRun 39 = .ok (.imul, 1) := by decide +kernel
theorem dX7_becomesRun_40 : decode cX7_becomesRun 40 = .ok (.iadd, 1) := by decide +kernel
theorem dX7_becomesRun_41 : decode cX7_becomesRun 41 = .ok (.goto 8, 3) := by decide +kernel
theorem dX7_becomesRun_44 : decode cX7_becomesRun 44 = .ok (.aload_n 0, 1) := by decide +kernel
theorem dX7_becomesRun_45 : decode cX7_becomesRun 45 = .ok (.iload_n 2, 1) := by decide +kernel
theorem dX7_becomesRun_46 : decode cX7_becomesRun 46 = .ok (.invokevirtual 40, 3) := by decide +kernel
theorem dX7_becomesRun_49 : decode cX7_becomesRun 49 = .ok (.iastore, 1) := by decide +kernel
theorem dX7_becomesRun_50 : decode cX7_becomesRun 50 = .ok (.iinc 2 1, 3) := by decide +kernel
theorem dX7_becomesRun_53 : decode cX7_becomesRun 53 = .ok (.goto (-51), 3) := by decide +kernel
theorem dX7_becomesRun_56 : decode cX7_becomesRun 56 = .ok (.aload_n 0, 1) := by decide +kernel
theorem dX7_becomesRun_57 : decode cX7_becomesRun 57 = .ok (.getfield 7, 3) := by decide +kernel
theorem dX7_becomesRun_60 : decode cX7_becomesRun 60 = .ok (.iconst 4, 1) := by decide +kernel
theorem dX7_becomesRun_61 : decode cX7_becomesRun 61 = .ok (.dup2, 1) := by decide +kernel
theorem dX7_becomesRun_62 : decode cX7_becomesRun 62 = .ok (.iaload, 1) := by decide +kernel
theorem dX7_becomesRun_63 : decode cX7_becomesRun 63 = .ok (.iconst 1, 1) := by decide +kernel
theorem dX7_becomesRun_64 : decode cX7_becomesRun 64 = .ok (.iadd, 1) := by decide +kernel
theorem dX7_becomesRun_65 : decode cX7_becomesRun 65 = .ok (.iastore, 1) := by decide +kernel
theorem dX7_becomesRun_66 : decode cX7_becomesRun 66 = .ok (.aload_n 0, 1) := by decide +kernel
theorem dX7_becomesRun_67 : decode cX7_becomesRun 67 = .ok (.getfield 7, 3) := by decide +kernel
theorem dX7_becomesRun_70 : decode cX7_becomesRun 70 = .ok (.iconst 4, 1) := by decide +kernel
theorem dX7_becomesRun_71 : decode cX7_becomesRun 71 = .ok (.iaload, 1) := by decide +kernel
theorem dX7_becomesRun_72 : decode cX7_becomesRun 72 = .ok (.iconst 1, 1) := by decide +kernel
theorem dX7_becomesRun_73 : decode cX7_becomesRun 73 = .ok (.isub, 1) := by decide +kernel
theorem dX7_becomesRun_74 : decode cX7_becomesRun 74 = .ok (.ireturn, 1) := by decide +kernel
set_option maxRecDepth 20000 in
theorem ggX7_writes_X7_rowsAt : GoodIn wsX7_writes wsX7_rowsAt := goodIn_r _ [6, 1, 7, 8, 9, 5, 10, 15, 16, 17, 18, 19, 20, 21, 22, 23, 24, 25, 26] (by decide +kernel) (by decide +kernel)
set_option maxRecDepth 20000 in
theorem gX7_writes_X7_rowsAt : GoodIn wsX7_writes (wsV RX7 48 RX7 yX7_rowsAt wsX7_rowsAt) := goodIn_app (goodIn_of _ (by decide +kernel)) ggX7_writes_X7_rowsAt
set_option maxRecDepth 20000 in
theorem ggX7_writes_X7_becomesRun : GoodIn wsX7_writes wsX7_becomesRun := goodIn_r _ [14, 1, 7, 8, 9, 5, 10, 15, 16, 17, 18, 19, 20, 21, 22, 23, 24, 25, 26] (by decide +kernel) (by decide +kernel)
set_option maxRecDepth 20000 in
theorem gX7_writes_X7_becomesRun : GoodIn wsX7_writes (wsV RX7 58 RX7 yX7_becomesRun wsX7_becomesRun) := goodIn_app (goodIn_of _ (by decide +kernel)) ggX7_writes_X7_becomesRun
theorem dX7_writes_0 : decode cX7_writes 0 = .ok (.aload_n 0, 1) := by decide +kernel
theorem dX7_writes_1 : decode cX7_writes 1 = .ok (.iconst 1, 1) := by decide +kernel
theorem dX7_writes_2 : decode cX7_writes 2 = .ok (.invokevirtual 48, 3) := by decide +kernel
theorem dX7_writes_5 : decode cX7_writes 5 = .ok (.istore_n 1, 1) := by decide +kernel
theorem dX7_writes_6 : decode cX7_writes 6 = .ok (.iload_n 1, 1) := by decide +kernel
theorem dX7_writes_7 : decode cX7_writes 7 = .ok (.ifCond .ne 6, 3) := by decide +kernel
theorem dX7_writes_10 : decode cX7_writes 10 = .ok (.bipush (-6), 2) := by decide +kernel
theorem dX7_writes_12 : decode cX7_writes 12 = .ok (.ireturn, 1) := by decide +kernel
theorem dX7_writes_13 : decode cX7_writes 13 = .ok (.aload_n 0, 1) := by decide +kernel
theorem dX7_writes_14 : decode cX7_writes 14 = .ok (.getfield 7, 3) := by decide +kernel
theorem dX7_writes_17 : decode cX7_writes 17 = .ok (.bipush 7, 2) := by decide +kernel
theorem dX7_writes_19 : decode cX7_writes 19 = .ok (.dup2, 1) := by decide +kernel
theorem dX7_writes_20 : decode cX7_writes 20 = .ok (.iaload, 1) := by decide +kernel
theorem dX7_writes_21 : decode cX7_writes 21 = .ok (.iload_n 1, 1) := by decide +kernel
theorem dX7_writes_22 : decode cX7_writes 22 = .ok (.iadd, 1) := by decide +kernel
theorem dX7_writes_23 : decode cX7_writes 23 = .ok (.iastore, 1) := by decide +kernel
theorem dX7_writes_24 : decode cX7_writes 24 = .ok (.aload_n 0, 1) := by decide +kernel
theorem dX7_writes_25 : decode cX7_writes 25 = .ok (.iconst 1, 1) := by decide +kernel
theorem dX7_writes_26 : decode cX7_writes 26 = .ok (.invokevirtual 58, 3) := by decide +kernel
theorem dX7_writes_29 : decode cX7_writes 29 = .ok (.ireturn, 1) := by decide +kernel
set_option maxRecDepth 20000 in
theorem ggX7_sameInMemory_X7_place : GoodIn wsX7_sameInMemory wsX7_place := goodIn_r _ [6, 1, 7, 8, 9, 10, 11, 12, 13, 14, 15, 16, 17, 18] (by decide +kernel) (by decide +kernel)
set_option maxRecDepth 20000 in
theorem gX7_sameInMemory_X7_place : GoodIn wsX7_sameInMemory (wsV RX7 40 RX7 yX7_place wsX7_place) := goodIn_app (goodIn_of _ (by decide +kernel)) ggX7_sameInMemory_X7_place
theorem dX7_sameInMemory_0 : decode cX7_sameInMemory 0 = .ok (.bipush (-6), 2) := by decide +kernel
theorem dX7_sameInMemory_2 : decode cX7_sameInMemory 2 = .ok (.istore_n 2, 1) := by decide +kernel
theorem dX7_sameInMemory_3 : decode cX7_sameInMemory 3 = .ok (.iconst 0, 1) := by decide +kernel
theorem dX7_sameInMemory_4 : decode cX7_sameInMemory 4 = .ok (.istore_n 3, 1) := by decide +kernel
theorem dX7_sameInMemory_5 : decode cX7_sameInMemory 5 = .ok (.iload_n 3, 1) := by decide +kernel
theorem dX7_sameInMemory_6 : decode cX7_sameInMemory 6 = .ok (.aload_n 0, 1) := by decide +kernel
theorem dX7_sameInMemory_7 : decode cX7_sameInMemory 7 = .ok (.getfield 7, 3) := by decide +kernel
theorem dX7_sameInMemory_10 : decode cX7_sameInMemory 10 = .ok (.iconst 3, 1) := by decide +kernel
theorem dX7_sameInMemory_11 : decode cX7_sameInMemory 11 = .ok (.iaload, 1) := by decide +kernel
theorem dX7_sameInMemory_12 : decode cX7_sameInMemory 12 = .ok (.if_icmp .ge 37, 3) := by decide +kernel
theorem dX7_sameInMemory_15 : decode cX7_sameInMemory 15 = .ok (.aload_n 0, 1) := by decide +kernel
theorem dX7_sameInMemory_16 : decode cX7_sameInMemory 16 = .ok (.iload_n 3, 1) := by decide +kernel
theorem dX7_sameInMemory_17 : decode cX7_sameInMemory 17 = .ok (.invokevirtual 40, 3) := by decide +kernel
theorem dX7_sameInMemory_20 : decode cX7_sameInMemory 20 = .ok (.iconst 1, 1) := by decide +kernel
theorem dX7_sameInMemory_21 : decode cX7_sameInMemory 21 = .ok (.if_icmp .ne 20, 3) := by decide +kernel
theorem dX7_sameInMemory_24 : decode cX7_sameInMemory 24 = .ok (.aload_n 0, 1) := by decide +kernel
theorem dX7_sameInMemory_25 : decode cX7_sameInMemory 25 = .ok (.getfield 7, 3) := by decide +kernel
theorem dX7_sameInMemory_28 : decode cX7_sameInMemory 28 = .ok (.bipush 10, 2) := by decide +kernel
theorem dX7_sameInMemory_30 : decode cX7_sameInMemory 30 = .ok (.iload_n 3, 1) := by decide +kernel
theorem dX7_sameInMemory_31 : decode cX7_sameInMemory 31 = .ok (.iadd, 1) := by decide +kernel
theorem dX7_sameInMemory_32 : decode cX7_sameInMemory 32 = .ok (.iaload, 1) := by decide +kernel
theorem dX7_sameInMemory_33 : decode cX7_sameInMemory 33 = .ok (.iload_n 1, 1) := by decide +kernel
theorem dX7_sameInMemory_34 : decode cX7_sameInMemory 34 = .ok (.if_icmp .ne 7, 3) := by decide +kernel
theorem dX7_sameInMemory_37 : decode cX7_sameInMemory 37 = .ok (.iload_n 3, 1) := by decide +kernel
theorem dX7_sameInMemory_38 : decode cX7_sameInMemory 38 = .ok (.goto 4, 3) := by decide +kernel
theorem dX7_sameInMemory_41 : decode cX7_sameInMemory 41 = .ok (.iload_n 2, 1) := by decide +kernel
theorem dX7_sameInMemory_42 : decode cX7_sameInMemory 42 = .ok (.istore_n 2, 1) := by decide +kernel
theorem dX7_sameInMemory_43 : decode cX7_sameInMemory 43 = .ok (.iinc 3 1, 3) := by decide +kernel
theorem dX7_sameInMemory_46 : decode cX7_sameInMemory 46 = .ok (.goto (-41), 3) := by decide +kernel
theorem dX7_sameInMemory_49 : decode cX7_sameInMemory 49 = .ok (.iload_n 2, 1) := by decide +kernel
theorem dX7_sameInMemory_50 : decode cX7_sameInMemory 50 = .ok (.ireturn, 1) := by decide +kernel
set_option maxRecDepth 20000 in
theorem ggX7_adds_X7_sameInMemory : GoodIn wsX7_adds wsX7_sameInMemory := goodIn_r _ [6, 1, 7, 8, 9, 5, 10, 23, 24, 25, 26, 27, 28, 29, 30, 31, 32, 33, 34] (by decide +kernel) (by decide +kernel)
set_option maxRecDepth 20000 in
theorem gX7_adds_X7_sameInMemory : GoodIn wsX7_adds (wsV RX7 61 RX7 yX7_sameInMemory wsX7_sameInMemory) := goodIn_app (goodIn_of _ (by decide +kernel)) ggX7_adds_X7_sameInMemory
set_option maxRecDepth 20000 in
theorem ggX7_adds_X7_rowsAt : GoodIn wsX7_adds wsX7_rowsAt := goodIn_r _ [14, 1, 7, 8, 9, 5, 10, 23, 24, 25, 26, 27, 28, 29, 30, 31, 32, 33, 34] (by decide +kernel) (by decide +kernel)
set_option maxRecDepth 20000 in
theorem gX7_adds_X7_rowsAt : GoodIn wsX7_adds (wsV RX7 48 RX7 yX7_rowsAt wsX7_rowsAt) := goodIn_app (goodIn_of _ (by decide +kernel)) ggX7_adds_X7_rowsAt
set_option maxRecDepth 20000 in
theorem ggX7_adds_X7_writes : GoodIn wsX7_adds wsX7_writes := goodIn_r _ [18, 1, 11, 12, 13, 5, 14, 7, 8, 9, 10, 19, 20, 21, 22, 23, 24, 25, 26, 27, 28, 29, 30, 31, 32, 33, 34] (by decide +kernel) (by decide +kernel)
set_option maxRecDepth 20000 in
theorem gX7_adds_X7_writes : GoodIn wsX7_adds (wsV RX7 64 RX7 yX7_writes wsX7_writes) := goodIn_app (goodIn_of _ (by decide +kernel)) ggX7_adds_X7_writes
theorem dX7_adds_0 : decode cX7_adds 0 = .ok (.aload_n 0, 1) := by decide +kernel
theorem dX7_adds_1 : decode cX7_adds 1 = .ok (.getfield 7, 3) := by decide +kernel
theorem dX7_adds_4 : decode cX7_adds 4 = .ok (.iconst 1, 1) := by decide +kernel
theorem dX7_adds_5 : decode cX7_adds 5 = .ok (.iaload, 1) := by decide +kernel
theorem dX7_adds_6 : decode cX7_adds 6 = .ok (.iconst 1, 1) := by decide +kernel
theorem dX7_adds_7 : decode cX7_adds 7 = .ok (.if_icmp .ne 11, 3) := by decide +kernel
theorem dX7_adds_10 : decode cX7_adds 10 = .ok (.aload_n 0, 1) := by decide +kernel
theorem dX7_adds_11 : decode cX7_adds 11 = .ok (.iload_n 1, 1) := by decide +kernel
theorem dX7_adds_12 : decode cX7_adds 12 = .ok (.invokevirtual 61, 3) := by decide +kernel
theorem dX7_adds_15 : decode cX7_adds 15 = .ok (.goto 5, 3) := by decide +kernel
theorem dX7_adds_18 : decode cX7_adds 18 = .ok (.bipush (-6), 2) := by decide +kernel
theorem dX7_adds_20 : decode cX7_adds 20 = .ok (.istore_n 2, 1) := by decide +kernel
theorem dX7_adds_21 : decode cX7_adds 21 = .ok (.aload_n 0, 1) := by decide +kernel
theorem dX7_adds_22 : decode cX7_adds 22 = .ok (.getfield 7, 3) := by decide +kernel
theorem dX7_adds_25 : decode cX7_adds 25 = .ok (.iconst 3, 1) := by decide +kernel
theorem dX7_adds_26 : decode cX7_adds 26 = .ok (.iaload, 1) := by decide +kernel
theorem dX7_adds_27 : decode cX7_adds 27 = .ok (.istore_n 3, 1) := by decide +kernel
theorem dX7_adds_28 : decode cX7_adds 28 = .ok (.iload_n 2, 1) := by decide +kernel
theorem dX7_adds_29 : decode cX7_adds 29 = .ok (.bipush (-6), 2) := by decide +kernel
theorem dX7_adds_31 : decode cX7_adds 31 = .ok (.if_icmp .ne 22, 3) := by decide +kernel
theorem dX7_adds_34 : decode cX7_adds 34 = .ok (.aload_n 0, 1) := by decide +kernel
theorem dX7_adds_35 : decode cX7_adds 35 = .ok (.iconst 1, 1) := by decide +kernel
theorem dX7_adds_36 : decode cX7_adds 36 = .ok (.invokevirtual 48, 3) := by decide +kernel
theorem dX7_adds_39 : decode cX7_adds 39 = .ok (.aload_n 0, 1) := by decide +kernel
theorem dX7_adds_40 : decode cX7_adds 40 = .ok (.getfield 7, 3) := by decide +kernel
theorem dX7_adds_43 : decode cX7_adds 43 = .ok (.iconst 0, 1) := by decide +kernel
theorem dX7_adds_44 : decode cX7_adds 44 = .ok (.iaload, 1) := by decide +kernel
theorem dX7_adds_45 : decode cX7_adds 45 = .ok (.if_icmp .ne 8, 3) := by decide +kernel
theorem dX7_adds_48 : decode cX7_adds 48 = .ok (.aload_n 0, 1) := by decide +kernel
theorem dX7_adds_49 : decode cX7_adds 49 = .ok (.invokevirtual 64, 3) := by decide +kernel
theorem dX7_adds_52 : decode cX7_adds 52 = .ok (.pop, 1) := by decide +kernel
theorem dX7_adds_53 : decode cX7_adds 53 = .ok (.aload_n 0, 1) := by decide +kernel
theorem dX7_adds_54 : decode cX7_adds 54 = .ok (.getfield 7, 3) := by decide +kernel
theorem dX7_adds_57 : decode cX7_adds 57 = .ok (.iconst 3, 1) := by decide +kernel
theorem dX7_adds_58 : decode cX7_adds 58 = .ok (.dup2, 1) := by decide +kernel
theorem dX7_adds_59 : decode cX7_adds 59 = .ok (.iaload, 1) := by decide +kernel
theorem dX7_adds_60 : decode cX7_adds 60 = .ok (.iconst 1, 1) := by decide +kernel
theorem dX7_adds_61 : decode cX7_adds 61 = .ok (.iadd, 1) := by decide +kernel
theorem dX7_adds_62 : decode cX7_adds 62 = .ok (.iastore, 1) := by decide +kernel
theorem dX7_adds_63 : decode cX7_adds 63 = .ok (.aload_n 0, 1) := by decide +kernel
theorem dX7_adds_64 : decode cX7_adds 64 = .ok (.getfield 7, 3) := by decide +kernel
theorem dX7_adds_67 : decode cX7_adds 67 = .ok (.bipush 10, 2) := by decide +kernel
theorem dX7_adds_69 : decode cX7_adds 69 = .ok (.iload_n 3, 1) := by decide +kernel
theorem dX7_adds_70 : decode cX7_adds 70 = .ok (.iadd, 1) := by decide +kernel
theorem dX7_adds_71 : decode cX7_adds 71 = .ok (.iload_n 1, 1) := by decide +kernel
theorem dX7_adds_72 : decode cX7_adds 72 = .ok (.iastore, 1) := by decide +kernel
theorem dX7_adds_73 : decode cX7_adds 73 = .ok (.aload_n 0, 1) := by decide +kernel
theorem dX7_adds_74 : decode cX7_adds 74 = .ok (.getfield 7, 3) := by decide +kernel
theorem dX7_adds_77 : decode cX7_adds 77 = .ok (.sipush 130, 3) := by decide +kernel
theorem dX7_adds_80 : decode cX7_adds 80 = .ok (.iload_n 3, 1) := by decide +kernel
theorem dX7_adds_81 : decode cX7_adds 81 = .ok (.iadd, 1) := by decide +kernel
theorem dX7_adds_82 : decode cX7_adds 82 = .ok (.iload_n 2, 1) := by decide +kernel
theorem dX7_adds_83 : decode cX7_adds 83 = .ok (.bipush (-6), 2) := by decide +kernel
theorem dX7_adds_85 : decode cX7_adds 85 = .ok (.if_icmp .ne 7, 3) := by decide +kernel
theorem dX7_adds_88 : decode cX7_adds 88 = .ok (.iconst 1, 1) := by decide +kernel
theorem dX7_adds_89 : decode cX7_adds 89 = .ok (.goto 4, 3) := by decide +kernel
theorem dX7_adds_92 : decode cX7_adds 92 = .ok (.iconst 0, 1) := by decide +kernel
theorem dX7_adds_93 : decode cX7_adds 93 = .ok (.iastore, 1) := by decide +kernel
theorem dX7_adds_94 : decode cX7_adds 94 = .ok (.aload_n 0, 1) := by decide +kernel
theorem dX7_adds_95 : decode cX7_adds 95 = .ok (.getfield 7, 3) := by decide +kernel
theorem dX7_adds_98 : decode cX7_adds 98 = .ok (.sipush 250, 3) := by decide +kernel
theorem dX7_adds_101 : decode cX7_adds 101 = .ok (.iload_n 3, 1) := by decide +kernel
theorem dX7_adds_102 : decode cX7_adds 102 = .ok (.iadd, 1) := by decide +kernel
theorem dX7_adds_103 : decode cX7_adds 103 = .ok (.iload_n 2, 1) := by decide +kernel
theorem dX7_adds_104 : decode cX7_adds 104 = .ok (.bipush (-6), 2) := by decide +kernel
theorem dX7_adds_106 : decode cX7_adds 106 = .ok (.if_icmp .ne 7, 3) := by decide +kernel
theorem dX7_adds_109 : decode cX7_adds 109 = .ok (.iconst 1, 1) := by decide +kernel
theorem dX7_adds_110 : decode cX7_adds 110 = .ok (.goto 4, 3) := by decide +kernel
theorem dX7_adds_113 : decode cX7_adds 113 = .ok (.iconst 0, 1) := by decide +kernel
theorem dX7_adds_114 : decode cX7_adds 114 = .ok (.iastore, 1) := by decide +kernel
theorem dX7_adds_115 : decode cX7_adds 115 = .ok (.iload_n 2, 1) := by decide +kernel
theorem dX7_adds_116 : decode cX7_adds 116 = .ok (.bipush (-6), 2) := by decide +kernel
theorem dX7_adds_118 : decode cX7_adds 118 = .ok (.if_icmp .eq 17, 3) := by decide +kernel
theorem dX7_adds_121 : decode cX7_adds 121 = .ok (.aload_n 0, 1) := by decide +kernel
theorem dX7_adds_122 : decode cX7_adds 122 = .ok (.getfield 7, 3) := by decide +kernel
theorem dX7_adds_125 : decode cX7_adds 125 = .ok (.sipush 130, 3) := by decide +kernel
theorem dX7_adds_128 : decode cX7_adds 128 = .ok (.iload_n 2, 1) := by decide +kernel
theorem dX7_adds_129 : decode cX7_adds 129 = .ok (.iadd, 1) := by decide +kernel
theorem dX7_adds_130 : decode cX7_adds 130 = .ok (.dup2, 1) := by decide +kernel
theorem dX7_adds_131 : decode cX7_adds 131 = .ok (.iaload, 1) := by decide +kernel
theorem dX7_adds_132 : decode cX7_adds 132 = .ok (.iconst 1, 1) := by decide +kernel
theorem dX7_adds_133 : decode cX7_adds 133 = .ok (.iadd, 1) := by decide +kernel
theorem dX7_adds_134 : decode cX7_adds 134 = .ok (.iastore, 1) := by decide +kernel
theorem dX7_adds_135 : decode cX7_adds 135 = .ok (.iload_n 3, 1) := by decide +kernel
theorem dX7_adds_136 : decode cX7_adds 136 = .ok (.ireturn, 1) := by decide +kernel
set_option maxRecDepth 20000 in
theorem ggX7_add_X7_in : GoodIn wsX7_add wsX7_in := goodIn_r _ [5] (by decide +kernel) (by decide +kernel)
set_option maxRecDepth 20000 in
theorem gX7_add_X7_in : GoodIn wsX7_add (va_wsS RX7 44 yX7_in wsX7_in) := goodIn_app (goodIn_of _ (by decide +kernel)) ggX7_add_X7_in
set_option maxRecDepth 20000 in
theorem ggX7_add_X7_record : GoodIn wsX7_add wsX7_record := goodIn_r _ [9, 10, 11, 1, 36, 37, 38, 39, 40, 41, 42, 43, 44, 45, 46, 47] (by decide +kernel) (by decide +kernel)
set_option maxRecDepth 20000 in
theorem gX7_add_X7_record : GoodIn wsX7_add (wsV RX7 37 RX7 yX7_record wsX7_record) := goodIn_app (goodIn_of _ (by decide +kernel)) ggX7_add_X7_record
set_option maxRecDepth 20000 in
theorem ggX7_add_X7_adds : GoodIn wsX7_add wsX7_adds := goodIn_r _ [15, 1, 16, 17, 18, 4, 19, 20, 21, 22, 23, 24, 25, 26, 27, 28, 29, 30, 31, 32, 33, 34, 35, 36, 37, 38, 39, 40, 41, 42, 43, 44, 45, 46, 47] (by decide +kernel) (by decide +kernel)
set_option maxRecDepth 20000 in
theorem gX7_add_X7_adds : GoodIn wsX7_add (wsV RX7 68 RX7 yX7_adds wsX7_adds) := goodIn_app (goodIn_of _ (by decide +kernel)) ggX7_add_X7_adds
theorem dX7_add_0 : decode cX7_add 0 = .ok (.iload_n 1, 1) := by decide +kernel
theorem dX7_add_1 : decode cX7_add 1 = .ok (.iconst 0, 1) := by decide +kernel
theorem dX7_add_2 : decode cX7_add 2 = .ok (.sipush 999, 3) := by decide +kernel
theorem dX7_add_5 : decode cX7_add 5 = .ok (.invokestatic 44, 3) := by decide +kernel
theorem dX7_add_8 : decode cX7_add 8 = .ok (.ifCond .ne 6, 3) := by decide +kernel
theorem dX7_add_11 : decode cX7_add 11 = .ok (.bipush (-2), 2) := by decide +kernel
theorem dX7_add_13 : decode cX7_add 13 = .ok (.ireturn, 1) := by decide +kernel
theorem dX7_add_14 : decode cX7_add 14 = .ok (.aload_n 0, 1) := by decide +kernel
theorem dX7_add_15 : decode cX7_add 15 = .ok (.getfield 7, 3) := by decide +kernel
theorem dX7_add_18 : decode cX7_add 18 = .ok (.iconst 2, 1) := by decide +kernel
theorem dX7_add_19 : decode cX7_add 19 = .ok (.iaload, 1) := by decide +kernel
theorem dX7_add_20 : decode cX7_add 20 = .ok (.ifCond .ne 6, 3) := by decide +kernel
theorem dX7_add_23 : decode cX7_add 23 = .ok (.bipush (-3), 2) := by decide +kernel
theorem dX7_add_25 : decode cX7_add 25 = .ok (.ireturn, 1) := by decide +kernel
theorem dX7_add_26 : decode cX7_add 26 = .ok (.aload_n 0, 1) := by decide +kernel
theorem dX7_add_27 : decode cX7_add 27 = .ok (.getfield 7, 3) := by decide +kernel
theorem dX7_add_30 : decode cX7_add 30 = .ok (.iconst 3, 1) := by decide +kernel
theorem dX7_add_31 : decode cX7_add 31 = .ok (.iaload, 1) := by decide +kernel
theorem dX7_add_32 : decode cX7_add 32 = .ok (.bipush 120, 2) := by decide +kernel
theorem dX7_add_34 : decode cX7_add 34 = .ok (.if_icmp .ne 6, 3) := by decide +kernel
theorem dX7_add_37 : decode cX7_add 37 = .ok (.bipush (-4), 2) := by decide +kernel
theorem dX7_add_39 : decode cX7_add 39 = .ok (.ireturn, 1) := by decide +kernel
theorem dX7_add_40 : decode cX7_add 40 = .ok (.aload_n 0, 1) := by decide +kernel
theorem dX7_add_41 : decode cX7_add 41 = .ok (.invokevirtual 37, 3) := by decide +kernel
theorem dX7_add_44 : decode cX7_add 44 = .ok (.aload_n 0, 1) := by decide +kernel
theorem dX7_add_45 : decode cX7_add 45 = .ok (.iload_n 1, 1) := by decide +kernel
theorem dX7_add_46 : decode cX7_add 46 = .ok (.invokevirtual 68, 3) := by decide +kernel
theorem dX7_add_49 : decode cX7_add 49 = .ok (.ireturn, 1) := by decide +kernel
set_option maxRecDepth 20000 in
theorem ggX7_combine_X7_record : GoodIn wsX7_combine wsX7_record := goodIn_r _ [6, 7, 8, 1, 9, 10, 11, 12, 13, 14, 15, 16, 17, 18, 19, 20] (by decide +kernel) (by decide +kernel)
set_option maxRecDepth 20000 in
theorem gX7_combine_X7_record : GoodIn wsX7_combine (wsV RX7 37 RX7 yX7_record wsX7_record) := goodIn_app (goodIn_of _ (by decide +kernel)) ggX7_combine_X7_record
theorem dX7_combine_0 : decode cX7_combine 0 = .ok (.aload_n 0, 1) := by decide +kernel
theorem dX7_combine_1 : decode cX7_combine 1 = .ok (.getfield 7, 3) := by decide +kernel
theorem dX7_combine_4 : decode cX7_combine 4 = .ok (.iconst 3, 1) := by decide +kernel
theorem dX7_combine_5 : decode cX7_combine 5 = .ok (.iaload, 1) := by decide +kernel
theorem dX7_combine_6 : decode cX7_combine 6 = .ok (.ifCond .le 6, 3) := by decide +kernel
theorem dX7_combine_9 : decode cX7_combine 9 = .ok (.bipush (-3), 2) := by decide +kernel
theorem dX7_combine_11 : decode cX7_combine 11 = .ok (.ireturn, 1) := by decide +kernel
theorem dX7_combine_12 : decode cX7_combine 12 = .ok (.aload_n 0, 1) := by decide +kernel
theorem dX7_combine_13 : decode cX7_combine 13 = .ok (.invokevirtual 37, 3) := by decide +kernel
theorem dX7_combine_16 : decode cX7_combine 16 = .ok (.aload_n 0, 1) := by decide +kernel
theorem dX7_combine_17 : decode cX7_combine 17 = .ok (.getfield 7, 3) := by decide +kernel
theorem dX7_combine_20 : decode cX7_combine 20 = .ok (.iconst 1, 1) := by decide +kernel
theorem dX7_combine_21 : decode cX7_combine 21 = .ok (.iaload, 1) := by decide +kernel
theorem dX7_combine_22 : decode cX7_combine 22 = .ok (.istore_n 2, 1) := by decide +kernel
theorem dX7_combine_23 : decode cX7_combine 23 = .ok (.aload_n 0, 1) := by decide +kernel
theorem dX7_combine_24 : decode cX7_combine 24 = .ok (.getfield 7, 3) := by decide +kernel
theorem dX7_combine_27 : decode cX7_combine 27 = .ok (.iconst 1, 1) := by decide +kernel
theorem dX7_combine_28 : decode cX7_combine 28 = .ok (.iload_n 1, 1) := by decide +kernel
theorem dX7_combine_29 : decode cX7_combine 29 = .ok (.ifCond .eq 7, 3) := by decide +kernel
theorem dX7_combine_32 : decode cX7_combine 32 = .ok (.iconst 1, 1) := by decide +kernel
theorem dX7_combine_33 : decode cX7_combine 33 = .ok (.goto 4, 3) := by decide +kernel
theorem dX7_combine_36 : decode cX7_combine 36 = .ok (.iconst 0, 1) := by decide +kernel
theorem dX7_combine_37 : decode cX7_combine 37 = .ok (.iastore, 1) := by decide +kernel
theorem dX7_combine_38 : decode cX7_combine 38 = .ok (.iload_n 2, 1) := by decide +kernel
theorem dX7_combine_39 : decode cX7_combine 39 = .ok (.ireturn, 1) := by decide +kernel
set_option maxRecDepth 20000 in
theorem ggX7_flush_X7_record : GoodIn wsX7_flush wsX7_record := goodIn_r _ [6, 7, 8, 1, 25, 26, 27, 28, 29, 30, 31, 32, 33, 34, 35, 36] (by decide +kernel) (by decide +kernel)
set_option maxRecDepth 20000 in
theorem gX7_flush_X7_record : GoodIn wsX7_flush (wsV RX7 37 RX7 yX7_record wsX7_record) := goodIn_app (goodIn_of _ (by decide +kernel)) ggX7_flush_X7_record
set_option maxRecDepth 20000 in
theorem ggX7_flush_X7_writes : GoodIn wsX7_flush wsX7_writes := goodIn_r _ [12, 1, 13, 14, 15, 5, 16, 17, 18, 19, 20, 21, 22, 23, 24, 25, 26, 27, 28, 29, 30, 31, 32, 33, 34, 35, 36] (by decide +kernel) (by decide +kernel)
set_option maxRecDepth 20000 in
theorem gX7_flush_X7_writes : GoodIn wsX7_flush (wsV RX7 64 RX7 yX7_writes wsX7_writes) := goodIn_app (goodIn_of _ (by decide +kernel)) ggX7_flush_X7_writes
theorem dX7_flush_0 : decode cX7_flush 0 = .ok (.aload_n 0, 1) := by decide +kernel
theorem dX7_flush_1 : decode cX7_flush 1 = .ok (.getfield 7, 3) := by decide +kernel
theorem dX7_flush_4 : decode cX7_flush 4 = .ok (.iconst 2, 1) := by decide +kernel
theorem dX7_flush_5 : decode cX7_flush 5 = .ok (.iaload, 1) := by decide +kernel
theorem dX7_flush_6 : decode cX7_flush 6 = .ok (.ifCond .ne 6, 3) := by decide +kernel
theorem dX7_flush_9 : decode cX7_flush 9 = .ok (.bipush (-3), 2) := by decide +kernel
theorem dX7_flush_11 : decode cX7_flush 11 = .ok (.ireturn, 1) := by decide +kernel
theorem dX7_flush_12 : decode cX7_flush 12 = .ok (.aload_n 0, 1) := by decide +kernel
theorem dX7_flush_13 : decode cX7_flush 13 = .ok (.invokevirtual 37, 3) := by decide +kernel
theorem dX7_flush_16 : decode cX7_flush 16 = .ok (.aload_n 0, 1) := by decide +kernel
theorem dX7_flush_17 : decode cX7_flush 17 = .ok (.invokevirtual 64, 3) := by decide +kernel
theorem dX7_flush_20 : decode cX7_flush 20 = .ok (.ireturn, 1) := by decide +kernel
set_option maxRecDepth 20000 in
theorem ggX7_finishes_X7_writes : GoodIn wsX7_finishes wsX7_writes := goodIn_r _ [6, 1, 7, 8, 9, 5, 10, 11, 12, 13, 14, 15, 16, 17, 18, 19, 20, 21, 22, 23, 24, 25, 26, 27, 28, 29, 30] (by decide +kernel) (by decide +kernel)
set_option maxRecDepth 20000 in
theorem gX7_finishes_X7_writes : GoodIn wsX7_finishes (wsV RX7 64 RX7 yX7_writes wsX7_writes) := goodIn_app (goodIn_of _ (by decide +kernel)) ggX7_finishes_X7_writes
theorem dX7_finishes_0 : decode cX7_finishes 0 = .ok (.aload_n 0, 1) := by decide +kernel
theorem dX7_finishes_1 : decode cX7_finishes 1 = .ok (.invokevirtual 64, 3) := by decide +kernel
theorem dX7_finishes_4 : decode cX7_finishes 4 = .ok (.pop, 1) := by decide +kernel
theorem dX7_finishes_5 : decode cX7_finishes 5 = .ok (.aload_n 0, 1) := by decide +kernel
theorem dX7_finishes_6 : decode cX7_finishes 6 = .ok (.getfield 7, 3) := by decide +kernel
theorem dX7_finishes_9 : decode cX7_finishes 9 = .ok (.iconst 2, 1) := by decide +kernel
theorem dX7_finishes_10 : decode cX7_finishes 10 = .ok (.iconst 0, 1) := by decide +kernel
theorem dX7_finishes_11 : decode cX7_finishes 11 = .ok (.iastore, 1) := by decide +kernel
theorem dX7_finishes_12 : decode cX7_finishes 12 = .ok (.return_, 1) := by decide +kernel
set_option maxRecDepth 20000 in
theorem ggX7_finish_X7_record : GoodIn wsX7_finish wsX7_record := goodIn_r _ [6, 7, 8, 1, 41, 42, 43, 44, 45, 46, 47, 48, 49, 50, 51, 52] (by decide +kernel) (by decide +kernel)
set_option maxRecDepth 20000 in
theorem gX7_finish_X7_record : GoodIn wsX7_finish (wsV RX7 37 RX7 yX7_record wsX7_record) := goodIn_app (goodIn_of _ (by decide +kernel)) ggX7_finish_X7_record
set_option maxRecDepth 20000 in
theorem ggX7_finish_X7_finishes : GoodIn wsX7_finish wsX7_finishes := goodIn_r _ [12, 1, 13, 14, 15, 5, 16, 17, 18, 19, 20, 21, 22, 23, 24, 25, 26, 27, 28, 41, 42, 43, 44, 45, 46, 47, 48, 49, 50, 51, 52] (by decide +kernel) (by decide +kernel)
set_option maxRecDepth 20000 in
theorem gX7_finish_X7_finishes : GoodIn wsX7_finish (wsV RX7 71 RX7 yX7_finishes wsX7_finishes) := goodIn_app (goodIn_of _ (by decide +kernel)) ggX7_finish_X7_finishes
set_option maxRecDepth 20000 in
theorem ggX7_finish_X7_runMany : GoodIn wsX7_finish wsX7_runMany := goodIn_r _ [32, 33, 34, 35, 5, 36, 37, 38, 39, 40, 1, 21, 22, 23, 24, 41, 42, 43, 44, 45, 46, 47, 48, 49, 50, 51, 52] (by decide +kernel) (by decide +kernel)
set_option maxRecDepth 20000 in
theorem gX7_finish_X7_runMany : GoodIn wsX7_finish (wsV RX7 74 RX7 yX7_runMany wsX7_runMany) := goodIn_app (goodIn_of _ (by decide +kernel)) ggX7_finish_X7_runMany
theorem dX7_finish_0 : decode cX7_finish 0 = .ok (.aload_n 0, 1) := by decide +kernel
theorem dX7_finish_1 : decode cX7_finish 1 = .ok (.getfield 7, 3) := by decide +kernel
theorem dX7_finish_4 : decode cX7_finish 4 = .ok (.iconst 2, 1) := by decide +kernel
theorem dX7_finish_5 : decode cX7_finish 5 = .ok (.iaload, 1) := by decide +kernel
theorem dX7_finish_6 : decode cX7_finish 6 = .ok (.ifCond .ne 6, 3) := by decide +kernel
theorem dX7_finish_9 : decode cX7_finish 9 = .ok (.bipush (-3), 2) := by decide +kernel
theorem dX7_finish_11 : decode cX7_finish 11 = .ok (.ireturn, 1) := by decide +kernel
theorem dX7_finish_12 : decode cX7_finish 12 = .ok (.aload_n 0, 1) := by decide +kernel
theorem dX7_finish_13 : decode cX7_finish 13 = .ok (.invokevirtual 37, 3) := by decide +kernel
theorem dX7_finish_16 : decode cX7_finish 16 = .ok (.aload_n 0, 1) := by decide +kernel
theorem dX7_finish_17 : decode cX7_finish 17 = .ok (.invokevirtual 71, 3) := by decide +kernel
theorem dX7_finish_20 : decode cX7_finish 20 = .ok (.aload_n 0, 1) := by decide +kernel
theorem dX7_finish_21 : decode cX7_finish 21 = .ok (.invokevirtual 74, 3) := by decide +kernel
theorem dX7_finish_24 : decode cX7_finish 24 = .ok (.ireturn, 1) := by decide +kernel
theorem dX7_isCollecting_0 : decode cX7_isCollecting 0 = .ok (.aload_n 0, 1) := by decide +kernel
theorem dX7_isCollecting_1 : decode cX7_isCollecting 1 = .ok (.getfield 7, 3) := by decide +kernel
theorem dX7_isCollecting_4 : decode cX7_isCollecting 4 = .ok (.iconst 2, 1) := by decide +kernel
theorem dX7_isCollecting_5 : decode cX7_isCollecting 5 = .ok (.iaload, 1) := by decide +kernel
theorem dX7_isCollecting_6 : decode cX7_isCollecting 6 = .ok (.ireturn, 1) := by decide +kernel
theorem dX7_waysOf_0 : decode cX7_waysOf 0 = .ok (.iload_n 0, 1) := by decide +kernel
theorem dX7_waysOf_1 : decode cX7_waysOf 1 = .ok (.iconst 1, 1) := by decide +kernel
theorem dX7_waysOf_2 : decode cX7_waysOf 2 = .ok (.isub, 1) := by decide +kernel
theorem dX7_waysOf_3 : decode cX7_waysOf 3 = .ok (.bipush 8, 2) := by decide +kernel
theorem dX7_waysOf_5 : decode cX7_waysOf 5 = .ok (.if_icmp .ge 9, 3) := by decide +kernel
theorem dX7_waysOf_8 : decode cX7_waysOf 8 = .ok (.iload_n 0, 1) := by decide +kernel
theorem dX7_waysOf_9 : decode cX7_waysOf 9 = .ok (.iconst 1, 1) := by decide +kernel
theorem dX7_waysOf_10 : decode cX7_waysOf 10 = .ok (.isub, 1) := by decide +kernel
theorem dX7_waysOf_11 : decode cX7_waysOf 11 = .ok (.goto 5, 3) := by decide +kernel
theorem dX7_waysOf_14 : decode cX7_waysOf 14 = .ok (.bipush 8, 2) := by decide +kernel
theorem dX7_waysOf_16 : decode cX7_waysOf 16 = .ok (.ireturn, 1) := by decide +kernel
set_option maxRecDepth 20000 in
theorem ggX7_inputsLeft_X7_many : GoodIn wsX7_inputsLeft wsX7_many := goodIn_r _ [5, 6, 7, 8, 4, 9, 10, 11, 12, 13, 14, 15, 16, 17, 18, 19, 20, 21, 22, 23, 24, 25, 26] (by decide +kernel) (by decide +kernel)
set_option maxRecDepth 20000 in
theorem gX7_inputsLeft_X7_many : GoodIn wsX7_inputsLeft (wsV RX7 55 RX7 yX7_many wsX7_many) := goodIn_app (goodIn_of _ (by decide +kernel)) ggX7_inputsLeft_X7_many
theorem dX7_inputsLeft_0 : decode cX7_inputsLeft 0 = .ok (.aload_n 0, 1) := by decide +kernel
theorem dX7_inputsLeft_1 : decode cX7_inputsLeft 1 = .ok (.iconst 1, 1) := by decide +kernel
theorem dX7_inputsLeft_2 : decode cX7_inputsLeft 2 = .ok (.invokevirtual 55, 3) := by decide +kernel
theorem dX7_inputsLeft_5 : decode cX7_inputsLeft 5 = .ok (.ireturn, 1) := by decide +kernel
set_option maxRecDepth 20000 in
theorem ggX7_cut_X7_rowsAt : GoodIn wsX7_cut wsX7_rowsAt := goodIn_r _ [6, 1, 7, 8, 9, 5, 10, 19, 20, 21, 22, 23, 24, 25, 26, 27, 28, 29, 30] (by decide +kernel) (by decide +kernel)
set_option maxRecDepth 20000 in
theorem gX7_cut_X7_rowsAt : GoodIn wsX7_cut (wsV RX7 48 RX7 yX7_rowsAt wsX7_rowsAt) := goodIn_app (goodIn_of _ (by decide +kernel)) ggX7_cut_X7_rowsAt
set_option maxRecDepth 20000 in
theorem ggX7_cut_X7_becomesRun : GoodIn wsX7_cut wsX7_becomesRun := goodIn_r _ [14, 1, 7, 8, 9, 5, 10, 19, 20, 21, 22, 23, 24, 25, 26, 27, 28, 29, 30] (by decide +kernel) (by decide +kernel)
set_option maxRecDepth 20000 in
theorem gX7_cut_X7_becomesRun : GoodIn wsX7_cut (wsV RX7 58 RX7 yX7_becomesRun wsX7_becomesRun) := goodIn_app (goodIn_of _ (by decide +kernel)) ggX7_cut_X7_becomesRun
set_option maxRecDepth 20000 in
theorem ggX7_cut_X7_nextPlace : GoodIn wsX7_cut wsX7_nextPlace := goodIn_r _ [18, 1, 7, 8, 9, 5, 10, 19, 20, 21, 22, 23, 24, 25, 26, 27, 28, 29, 30] (by decide +kernel) (by decide +kernel)
set_option maxRecDepth 20000 in
theorem gX7_cut_X7_nextPlace : GoodIn wsX7_cut (wsV RX7 51 RX7 yX7_nextPlace wsX7_nextPlace) := goodIn_app (goodIn_of _ (by decide +kernel)) ggX7_cut_X7_nextPlace
theorem dX7_cut_0 : decode cX7_cut 0 = .ok (.aload_n 0, 1) := by decide +kernel
theorem dX7_cut_1 : decode cX7_cut 1 = .ok (.getfield 7, 3) := by decide +kernel
theorem dX7_cut_4 : decode cX7_cut 4 = .ok (.iconst 4, 1) := by decide +kernel
theorem dX7_cut_5 : decode cX7_cut 5 = .ok (.iaload, 1) := by decide +kernel
theorem dX7_cut_6 : decode cX7_cut 6 = .ok (.istore_n 1, 1) := by decide +kernel
theorem dX7_cut_7 : decode cX7_cut 7 = .ok (.aload_n 0, 1) := by decide +kernel
theorem dX7_cut_8 : decode cX7_cut 8 = .ok (.iconst 2, 1) := by decide +kernel
theorem dX7_cut_9 : decode cX7_cut 9 = .ok (.invokevirtual 48, 3) := by decide +kernel
theorem dX7_cut_12 : decode cX7_cut 12 = .ok (.ifCond .le 9, 3) := by decide +kernel
theorem dX7_cut_15 : decode cX7_cut 15 = .ok (.aload_n 0, 1) := by decide +kernel
theorem dX7_cut_16 : decode cX7_cut 16 = .ok (.iconst 2, 1) := by decide +kernel
theorem dX7_cut_17 : decode cX7_cut 17 = .ok (.invokevirtual 58, 3) := by decide +kernel
theorem dX7_cut_20 : decode cX7_cut 20 = .ok (.pop, 1) := by decide +kernel
theorem dX7_cut_21 : decode cX7_cut 21 = .ok (.aload_n 0, 1) := by decide +kernel
theorem dX7_cut_22 : decode cX7_cut 22 = .ok (.iconst 0, 1) := by decide +kernel
theorem dX7_cut_23 : decode cX7_cut 23 = .ok (.iconst 1, 1) := by decide +kernel
theorem dX7_cut_24 : decode cX7_cut 24 = .ok (.invokevirtual 51, 3) := by decide +kernel
theorem dX7_cut_27 : decode cX7_cut 27 = .ok (.istore_n 2, 1) := by decide +kernel
theorem dX7_cut_28 : decode cX7_cut 28 = .ok (.iload_n 2, 1) := by decide +kernel
theorem dX7_cut_29 : decode cX7_cut 29 = .ok (.bipush (-6), 2) := by decide +kernel
theorem dX7_cut_31 : decode cX7_cut 31 = .ok (.if_icmp .eq 19, 3) := by decide +kernel
theorem dX7_cut_34 : decode cX7_cut 34 = .ok (.aload_n 0, 1) := by decide +kernel
theorem dX7_cut_35 : decode cX7_cut 35 = .ok (.iload_n 2, 1) := by decide +kernel
theorem dX7_cut_36 : decode cX7_cut 36 = .ok (.invokevirtual 58, 3) := by decide +kernel
theorem dX7_cut_39 : decode cX7_cut 39 = .ok (.pop, 1) := by decide +kernel
theorem dX7_cut_40 : decode cX7_cut 40 = .ok (.aload_n 0, 1) := by decide +kernel
theorem dX7_cut_41 : decode cX7_cut 41 = .ok (.iload_n 2, 1) := by decide +kernel
theorem dX7_cut_42 : decode cX7_cut 42 = .ok (.iconst 1, 1) := by decide +kernel
theorem dX7_cut_43 : decode cX7_cut 43 = .ok (.invokevirtual 51, 3) := by decide +kernel
theorem dX7_cut_46 : decode cX7_cut 46 = .ok (.istore_n 2, 1) := by decide +kernel
theorem dX7_cut_47 : decode cX7_cut 47 = .ok (.goto (-19), 3) := by decide +kernel
theorem dX7_cut_50 : decode cX7_cut 50 = .ok (.aload_n 0, 1) := by decide +kernel
theorem dX7_cut_51 : decode cX7_cut 51 = .ok (.getfield 7, 3) := by decide +kernel
theorem dX7_cut_54 : decode cX7_cut 54 = .ok (.iconst 5, 1) := by decide +kernel
theorem dX7_cut_55 : decode cX7_cut 55 = .ok (.iconst 0, 1) := by decide +kernel
theorem dX7_cut_56 : decode cX7_cut 56 = .ok (.iastore, 1) := by decide +kernel
theorem dX7_cut_57 : decode cX7_cut 57 = .ok (.aload_n 0, 1) := by decide +kernel
theorem dX7_cut_58 : decode cX7_cut 58 = .ok (.getfield 7, 3) := by decide +kernel
theorem dX7_cut_61 : decode cX7_cut 61 = .ok (.bipush 9, 2) := by decide +kernel
theorem dX7_cut_63 : decode cX7_cut 63 = .ok (.dup2, 1) := by decide +kernel
theorem dX7_cut_64 : decode cX7_cut 64 = .ok (.iaload, 1) := by decide +kernel
theorem dX7_cut_65 : decode cX7_cut 65 = .ok (.iconst 1, 1) := by decide +kernel
theorem dX7_cut_66 : decode cX7_cut 66 = .ok (.iadd, 1) := by decide +kernel
theorem dX7_cut_67 : decode cX7_cut 67 = .ok (.iastore, 1) := by decide +kernel
theorem dX7_cut_68 : decode cX7_cut 68 = .ok (.aload_n 0, 1) := by decide +kernel
theorem dX7_cut_69 : decode cX7_cut 69 = .ok (.getfield 7, 3) := by decide +kernel
theorem dX7_cut_72 : decode cX7_cut 72 = .ok (.iconst 4, 1) := by decide +kernel
theorem dX7_cut_73 : decode cX7_cut 73 = .ok (.iaload, 1) := by decide +kernel
theorem dX7_cut_74 : decode cX7_cut 74 = .ok (.iload_n 1, 1) := by decide +kernel
theorem dX7_cut_75 : decode cX7_cut 75 = .ok (.isub, 1) := by decide +kernel
theorem dX7_cut_76 : decode cX7_cut 76 = .ok (.ireturn, 1) := by decide +kernel
set_option maxRecDepth 20000 in
theorem ggX7_grants_X7_rowsAt : GoodIn wsX7_grants wsX7_rowsAt := goodIn_r _ [6, 1, 7, 8, 9, 5, 10, 38, 39, 40, 41, 42, 43, 44, 45, 46, 47, 48, 49] (by decide +kernel) (by decide +kernel)
set_option maxRecDepth 20000 in
theorem gX7_grants_X7_rowsAt : GoodIn wsX7_grants (wsV RX7 48 RX7 yX7_rowsAt wsX7_rowsAt) := goodIn_app (goodIn_of _ (by decide +kernel)) ggX7_grants_X7_rowsAt
set_option maxRecDepth 20000 in
theorem ggX7_grants_X7_writes : GoodIn wsX7_grants wsX7_writes := goodIn_r _ [14, 1, 2, 3, 4, 5, 6, 7, 8, 9, 10, 15, 16, 17, 18, 38, 39, 40, 41, 42, 43, 44, 45, 46, 47, 48, 49] (by decide +kernel) (by decide +kernel)
set_option maxRecDepth 20000 in
theorem gX7_grants_X7_writes : GoodIn wsX7_grants (wsV RX7 64 RX7 yX7_writes wsX7_writes) := goodIn_app (goodIn_of _ (by decide +kernel)) ggX7_grants_X7_writes
set_option maxRecDepth 20000 in
theorem ggX7_grants_X7_inputsLeft : GoodIn wsX7_grants wsX7_inputsLeft := goodIn_r _ [22, 23, 24, 25, 5, 26, 27, 28, 29, 30, 1, 7, 8, 9, 10, 38, 39, 40, 41, 42, 43, 44, 45, 46, 47, 48, 49] (by decide +kernel) (by decide +kernel)
set_option maxRecDepth 20000 in
theorem gX7_grants_X7_inputsLeft : GoodIn wsX7_grants (wsV RX7 77 RX7 yX7_inputsLeft wsX7_inputsLeft) := goodIn_app (goodIn_of _ (by decide +kernel)) ggX7_grants_X7_inputsLeft
set_option maxRecDepth 20000 in
theorem ggX7_grants_X7_waysOf : GoodIn wsX7_grants wsX7_waysOf := goodIn_r _ [33] (by decide +kernel) (by decide +kernel)
set_option maxRecDepth 20000 in
theorem gX7_grants_X7_waysOf : GoodIn wsX7_grants (va_wsS RX7 80 yX7_waysOf wsX7_waysOf) := goodIn_app (goodIn_of _ (by decide +kernel)) ggX7_grants_X7_waysOf
set_option maxRecDepth 20000 in
theorem ggX7_grants_X7_cut : GoodIn wsX7_grants wsX7_cut := goodIn_r _ [37, 1, 2, 3, 4, 5, 6, 7, 8, 9, 10, 15, 16, 17, 18, 27, 28, 29, 30, 38, 39, 40, 41, 42, 43, 44, 45, 46, 47, 48, 49] (by decide +kernel) (by decide +kernel)
set_option maxRecDepth 20000 in
theorem gX7_grants_X7_cut : GoodIn wsX7_grants (wsV RX7 83 RX7 yX7_cut wsX7_cut) := goodIn_app (goodIn_of _ (by decide +kernel)) ggX7_grants_X7_cut
theorem dX7_grants_0 : decode cX7_grants 0 = .ok (.aload_n 0, 1) := by decide +kernel
theorem dX7_grants_1 : decode cX7_grants 1 = .ok (.getfield 7, 3) := by decide +kernel
theorem dX7_grants_4 : decode cX7_grants 4 = .ok (.iconst 0, 1) := by decide +kernel
theorem dX7_grants_5 : decode cX7_grants 5 = .ok (.iload_n 1, 1) := by decide +kernel
theorem dX7_grants_6 : decode cX7_grants 6 = .ok (.iastore, 1) := by decide +kernel
theorem dX7_grants_7 : decode cX7_grants 7 = .ok (.aload_n 0, 1) := by decide +kernel
theorem dX7_grants_8 : decode cX7_grants 8 = .ok (.getfield 7, 3) := by decide +kernel
theorem dX7_grants_11 : decode cX7_grants 11 = .ok (.iconst 2, 1) := by decide +kernel
theorem dX7_grants_12 : decode cX7_grants 12 = .ok (.iaload, 1) := by decide +kernel
theorem dX7_grants_13 : decode cX7_grants 13 = .ok (.iconst 1, 1) := by decide +kernel
theorem dX7_grants_14 : decode cX7_grants 14 = .ok (.if_icmp .ne 19, 3) := by decide +kernel
theorem dX7_grants_17 : decode cX7_grants 17 = .ok (.aload_n 0, 1) := by decide +kernel
theorem dX7_grants_18 : decode cX7_grants 18 = .ok (.iconst 1, 1) := by decide +kernel
theorem dX7_grants_19 : decode cX7_grants 19 = .ok (.invokevirtual 48, 3) := by decide +kernel
theorem dX7_grants_22 : decode cX7_grants 22 = .ok (.iload_n 1, 1) := by decide +kernel
theorem dX7_grants_23 : decode cX7_grants 23 = .ok (.if_icmp .le 10, 3) := by decide +kernel
theorem dX7_grants_26 : decode cX7_grants 26 = .ok (.aload_n 0, 1) := by decide +kernel
theorem dX7_grants_27 : decode cX7_grants 27 = .ok (.invokevirtual 64, 3) := by decide +kernel
theorem dX7_grants_30 : decode cX7_grants 30 = .ok (.pop, 1) := by decide +kernel
theorem dX7_grants_31 : decode cX7_grants 31 = .ok (.iconst 1, 1) := by decide +kernel
theorem dX7_grants_32 : decode cX7_grants 32 = .ok (.ireturn, 1) := by decide +kernel
theorem dX7_grants_33 : decode cX7_grants 33 = .ok (.aload_n 0, 1) := by decide +kernel
theorem dX7_grants_34 : decode cX7_grants 34 = .ok (.getfield 7, 3) := by decide +kernel
theorem dX7_grants_37 : decode cX7_grants 37 = .ok (.iconst 5, 1) := by decide +kernel
theorem dX7_grants_38 : decode cX7_grants 38 = .ok (.iaload, 1) := by decide +kernel
theorem dX7_grants_39 : decode cX7_grants 39 = .ok (.iconst 1, 1) := by decide +kernel
theorem dX7_grants_40 : decode cX7_grants 40 = .ok (.if_icmp .ne 21, 3) := by decide +kernel
theorem dX7_grants_43 : decode cX7_grants 43 = .ok (.aload_n 0, 1) := by decide +kernel
theorem dX7_grants_44 : decode cX7_grants 44 = .ok (.invokevirtual 77, 3) := by decide +kernel
theorem dX7_grants_47 : decode cX7_grants 47 = .ok (.iload_n 1, 1) := by decide +kernel
theorem dX7_grants_48 : decode cX7_grants 48 = .ok (.invokestatic 80, 3) := by decide +kernel
theorem dX7_grants_51 : decode cX7_grants 51 = .ok (.if_icmp .le 10, 3) := by decide +kernel
theorem dX7_grants_54 : decode cX7_grants 54 = .ok (.aload_n 0, 1) := by decide +kernel
theorem dX7_grants_55 : decode cX7_grants 55 = .ok (.invokevirtual 83, 3) := by decide +kernel
theorem dX7_grants_58 : decode cX7_grants 58 = .ok (.goto 4, 3) := by decide +kernel
theorem dX7_grants_61 : decode cX7_grants 61 = .ok (.iconst 0, 1) := by decide +kernel
theorem dX7_grants_62 : decode cX7_grants 62 = .ok (.ireturn, 1) := by decide +kernel
set_option maxRecDepth 20000 in
theorem ggX7_isSize_X7_in : GoodIn wsX7_isSize wsX7_in := goodIn_r _ [4] (by decide +kernel) (by decide +kernel)
set_option maxRecDepth 20000 in
theorem gX7_isSize_X7_in : GoodIn wsX7_isSize (va_wsS RX7 44 yX7_in wsX7_in) := goodIn_app (goodIn_of _ (by decide +kernel)) ggX7_isSize_X7_in
theorem dX7_isSize_0 : decode cX7_isSize 0 = .ok (.iload_n 0, 1) := by decide +kernel
theorem dX7_isSize_1 : decode cX7_isSize 1 = .ok (.iconst 2, 1) := by decide +kernel
theorem dX7_isSize_2 : decode cX7_isSize 2 = .ok (.bipush 20, 2) := by decide +kernel
theorem dX7_isSize_4 : decode cX7_isSize 4 = .ok (.invokestatic 44, 3) := by decide +kernel
theorem dX7_isSize_7 : decode cX7_isSize 7 = .ok (.ireturn, 1) := by decide +kernel
set_option maxRecDepth 20000 in
theorem ggX7_grant_X7_isSize : GoodIn wsX7_grant wsX7_isSize := goodIn_r _ [4, 5, 6, 3, 7] (by decide +kernel) (by decide +kernel)
set_option maxRecDepth 20000 in
theorem gX7_grant_X7_isSize : GoodIn wsX7_grant (va_wsS RX7 86 yX7_isSize wsX7_isSize) := goodIn_app (goodIn_of _ (by decide +kernel)) ggX7_grant_X7_isSize
set_option maxRecDepth 20000 in
theorem ggX7_grant_X7_record : GoodIn wsX7_grant wsX7_record := goodIn_r _ [11, 12, 13, 14, 54, 55, 56, 57, 58, 59, 60, 61, 62, 63, 64, 65] (by decide +kernel) (by decide +kernel)
set_option maxRecDepth 20000 in
theorem gX7_grant_X7_record : GoodIn wsX7_grant (wsV RX7 37 RX7 yX7_record wsX7_record) := goodIn_app (goodIn_of _ (by decide +kernel)) ggX7_grant_X7_record
set_option maxRecDepth 20000 in
theorem ggX7_grant_X7_grants : GoodIn wsX7_grant wsX7_grants := goodIn_r _ [18, 14, 19, 20, 21, 3, 22, 23, 24, 25, 26, 27, 28, 29, 30, 31, 32, 33, 34, 35, 36, 37, 38, 39, 40, 41, 42, 43, 44, 45, 46, 47, 48, 49, 50, 51, 52, 53, 54, 55, 56, 57, 58, 59, 60, 61, 62, 63, 64, 65] (by decide +kernel) (by decide +kernel)
set_option maxRecDepth 20000 in
theorem gX7_grant_X7_grants : GoodIn wsX7_grant (wsV RX7 90 RX7 yX7_grants wsX7_grants) := goodIn_app (goodIn_of _ (by decide +kernel)) ggX7_grant_X7_grants
theorem dX7_grant_0 : decode cX7_grant 0 = .ok (.iload_n 1, 1) := by decide +kernel
theorem dX7_grant_1 : decode cX7_grant 1 = .ok (.invokestatic 86, 3) := by decide +kernel
theorem dX7_grant_4 : decode cX7_grant 4 = .ok (.ifCond .ne 6, 3) := by decide +kernel
theorem dX7_grant_7 : decode cX7_grant 7 = .ok (.bipush (-2), 2) := by decide +kernel
theorem dX7_grant_9 : decode cX7_grant 9 = .ok (.ireturn, 1) := by decide +kernel
theorem dX7_grant_10 : decode cX7_grant 10 = .ok (.aload_n 0, 1) := by decide +kernel
theorem dX7_grant_11 : decode cX7_grant 11 = .ok (.invokevirtual 37, 3) := by decide +kernel
theorem dX7_grant_14 : decode cX7_grant 14 = .ok (.aload_n 0, 1) := by decide +kernel
theorem dX7_grant_15 : decode cX7_grant 15 = .ok (.iload_n 1, 1) := by decide +kernel
theorem dX7_grant_16 : decode cX7_grant 16 = .ok (.invokevirtual 90, 3) := by decide +kernel
theorem dX7_grant_19 : decode cX7_grant 19 = .ok (.ireturn, 1) := by decide +kernel
set_option maxRecDepth 20000 in
theorem ggX7_memory_X7_rowsAt : GoodIn wsX7_memory wsX7_rowsAt := goodIn_r _ [6, 1, 7, 8, 9, 5, 10, 26, 27, 28, 29, 30, 31, 32, 33, 34, 35, 36, 37] (by decide +kernel) (by decide +kernel)
set_option maxRecDepth 20000 in
theorem gX7_memory_X7_rowsAt : GoodIn wsX7_memory (wsV RX7 48 RX7 yX7_rowsAt wsX7_rowsAt) := goodIn_app (goodIn_of _ (by decide +kernel)) ggX7_memory_X7_rowsAt
set_option maxRecDepth 20000 in
theorem ggX7_memory_X7_inputsLeft : GoodIn wsX7_memory wsX7_inputsLeft := goodIn_r _ [14, 15, 16, 17, 5, 18, 19, 20, 21, 22, 1, 7, 8, 9, 10, 26, 27, 28, 29, 30, 31, 32, 33, 34, 35, 36, 37] (by decide +kernel) (by decide +kernel)
set_option maxRecDepth 20000 in
theorem gX7_memory_X7_inputsLeft : GoodIn wsX7_memory (wsV RX7 77 RX7 yX7_inputsLeft wsX7_inputsLeft) := goodIn_app (goodIn_of _ (by decide +kernel)) ggX7_memory_X7_inputsLeft
set_option maxRecDepth 20000 in
theorem ggX7_memory_X7_waysOf : GoodIn wsX7_memory wsX7_waysOf := goodIn_r _ [25] (by decide +kernel) (by decide +kernel)
set_option maxRecDepth 20000 in
theorem gX7_memory_X7_waysOf : GoodIn wsX7_memory (va_wsS RX7 80 yX7_waysOf wsX7_waysOf) := goodIn_app (goodIn_of _ (by decide +kernel)) ggX7_memory_X7_waysOf
theorem dX7_memory_0 : decode cX7_memory 0 = .ok (.iload_n 1, 1) := by decide +kernel
theorem dX7_memory_1 : decode cX7_memory 1 = .ok (.tableswitch 83 0 2 #[27, 34, 73], 27) := by decide +kernel
theorem dX7_memory_28 : decode cX7_memory 28 = .ok (.aload_n 0, 1) := by decide +kernel
theorem dX7_memory_29 : decode cX7_memory 29 = .ok (.getfield 7, 3) := by decide +kernel
theorem dX7_memory_32 : decode cX7_memory 32 = .ok (.iconst 0, 1) := by decide +kernel
theorem dX7_memory_33 : decode cX7_memory 33 = .ok (.iaload, 1) := by decide +kernel
theorem dX7_memory_34 : decode cX7_memory 34 = .ok (.ireturn, 1) := by decide +kernel
theorem dX7_memory_35 : decode cX7_memory 35 = .ok (.aload_n 0, 1) := by decide +kernel
theorem dX7_memory_36 : decode cX7_memory 36 = .ok (.getfield 7, 3) := by decide +kernel
theorem dX7_memory_39 : decode cX7_memory 39 = .ok (.iconst 2, 1) := by decide +kernel
theorem dX7_memory_40 : decode cX7_memory 40 = .ok (.iaload, 1) := by decide +kernel
theorem dX7_memory_41 : decode cX7_memory 41 = .ok (.iconst 1, 1) := by decide +kernel
theorem dX7_memory_42 : decode cX7_memory 42 = .ok (.if_icmp .ne 11, 3) := by decide +kernel
theorem dX7_memory_45 : decode cX7_memory 45 = .ok (.aload_n 0, 1) := by decide +kernel
theorem dX7_memory_46 : decode cX7_memory 46 = .ok (.iconst 1, 1) := by decide +kernel
theorem dX7_memory_47 : decode cX7_memory 47 = .ok (.invokevirtual 48, 3) := by decide +kernel
theorem dX7_memory_50 : decode cX7_memory 50 = .ok (.goto 23, 3) := by decide +kernel
theorem dX7_memory_53 : decode cX7_memory 53 = .ok (.aload_n 0, 1) := by decide +kernel
theorem dX7_memory_54 : decode cX7_memory 54 = .ok (.getfield 7, 3) := by decide +kernel
theorem dX7_memory_57 : decode cX7_memory 57 = .ok (.iconst 5, 1) := by decide +kernel
theorem dX7_memory_58 : decode cX7_memory 58 = .ok (.iaload, 1) := by decide +kernel
theorem dX7_memory_59 : decode cX7_memory 59 = .ok (.iconst 1, 1) := by decide +kernel
theorem dX7_memory_60 : decode cX7_memory 60 = .ok (.if_icmp .ne 12, 3) := by decide +kernel
theorem dX7_memory_63 : decode cX7_memory 63 = .ok (.aload_n 0, 1) := by decide +kernel
theorem dX7_memory_64 : decode cX7_memory 64 = .ok (.invokevirtual 77, 3) := by decide +kernel
theorem dX7_memory_67 : decode cX7_memory 67 = .ok (.iconst 1, 1) := by decide +kernel
theorem dX7_memory_68 : decode cX7_memory 68 = .ok (.iadd, 1) := by decide +kernel
theorem dX7_memory_69 : decode cX7_memory 69 = .ok (.goto 4, 3) := by decide +kernel
theorem dX7_memory_72 : decode cX7_memory 72 = .ok (.iconst 0, 1) := by decide +kernel
theorem dX7_memory_73 : decode cX7_memory 73 = .ok (.ireturn, 1) := by decide +kernel
theorem dX7_memory_74 : decode cX7_memory 74 = .ok (.aload_n 0, 1) := by decide +kernel
theorem dX7_memory_75 : decode cX7_memory 75 = .ok (.getfield 7, 3) := by decide +kernel
theorem dX7_memory_78 : decode cX7_memory 78 = .ok (.iconst 0, 1) := by decide +kernel
theorem dX7_memory_79 : decode cX7_memory 79 = .ok (.iaload, 1) := by decide +kernel
theorem dX7_memory_80 : decode cX7_memory 80 = .ok (.invokestatic 80, 3) := by decide +kernel
theorem dX7_memory_83 : decode cX7_memory 83 = .ok (.ireturn, 1) := by decide +kernel
theorem dX7_memory_84 : decode cX7_memory 84 = .ok (.bipush (-2), 2) := by decide +kernel
theorem dX7_memory_86 : decode cX7_memory 86 = .ok (.ireturn, 1) := by decide +kernel
set_option maxRecDepth 20000 in
theorem ggX7_inMemory_X7_place : GoodIn wsX7_inMemory wsX7_place := goodIn_r _ [6, 1, 7, 8, 9, 10, 11, 12, 13, 14, 15, 16, 17, 18] (by decide +kernel) (by decide +kernel)
set_option maxRecDepth 20000 in
theorem gX7_inMemory_X7_place : GoodIn wsX7_inMemory (wsV RX7 40 RX7 yX7_place wsX7_place) := goodIn_app (goodIn_of _ (by decide +kernel)) ggX7_inMemory_X7_place
theorem dX7_inMemory_0 : decode cX7_inMemory 0 = .ok (.iload_n 1, 1) := by decide +kernel
theorem dX7_inMemory_1 : decode cX7_inMemory 1 = .ok (.istore_n 2, 1) := by decide +kernel
theorem dX7_inMemory_2 : decode cX7_inMemory 2 = .ok (.iconst 0, 1) := by decide +kernel
theorem dX7_inMemory_3 : decode cX7_inMemory 3 = .ok (.istore_n 3, 1) := by decide +kernel
theorem dX7_inMemory_4 : decode cX7_inMemory 4 = .ok (.iload_n 3, 1) := by decide +kernel
theorem dX7_inMemory_5 : decode cX7_inMemory 5 = .ok (.aload_n 0, 1) := by decide +kernel
theorem dX7_inMemory_6 : decode cX7_inMemory 6 = .ok (.getfield 7, 3) := by decide +kernel
theorem dX7_inMemory_9 : decode cX7_inMemory 9 = .ok (.iconst 3, 1) := by decide +kernel
theorem dX7_inMemory_10 : decode cX7_inMemory 10 = .ok (.iaload, 1) := by decide +kernel
theorem dX7_inMemory_11 : decode cX7_inMemory 11 = .ok (.if_icmp .ge 39, 3) := by decide +kernel
theorem dX7_inMemory_14 : decode cX7_inMemory 14 = .ok (.iload_n 1, 1) := by decide +kernel
theorem dX7_inMemory_15 : decode cX7_inMemory 15 = .ok (.ifCond .lt 35, 3) := by decide +kernel
theorem dX7_inMemory_18 : decode cX7_inMemory 18 = .ok (.aload_n 0, 1) := by decide +kernel
theorem dX7_inMemory_19 : decode cX7_inMemory 19 = .ok (.iload_n 3, 1) := by decide +kernel
theorem dX7_inMemory_20 : decode cX7_inMemory 20 = .ok (.invokevirtual 40, 3) := by decide +kernel
theorem dX7_inMemory_23 : decode cX7_inMemory 23 = .ok (.iconst 1, 1) := by decide +kernel
theorem dX7_inMemory_24 : decode cX7_inMemory 24 = .ok (.if_icmp .ne 20, 3) := by decide +kernel
theorem dX7_inMemory_27 : decode cX7_inMemory 27 = .ok (.iload_n 2, 1) := by decide +kernel
theorem dX7_inMemory_28 : decode cX7_inMemory 28 = .ok (.ifCond .ne 13, 3) := by decide +kernel
theorem dX7_inMemory_31 : decode cX7_inMemory 31 = .ok (.aload_n 0, 1) := by decide +kernel
theorem dX7_inMemory_32 : decode cX7_inMemory 32 = .ok (.getfield 7, 3) := by decide +kernel
theorem dX7_inMemory_35 : decode cX7_inMemory 35 = .ok (.bipush 10, 2) := by decide +kernel
theorem dX7_inMemory_37 : decode cX7_inMemory 37 = .ok (.iload_n 3, 1) := by decide +kernel
theorem dX7_inMemory_38 : decode cX7_inMemory 38 = .ok (.iadd, 1) := by decide +kernel
theorem dX7_inMemory_39 : decode cX7_inMemory 39 = .ok (.iaload, 1) := by decide +kernel
theorem dX7_inMemory_40 : decode cX7_inMemory 40 = .ok (.ireturn, 1) := by decide +kernel
theorem dX7_inMemory_41 : decode cX7_inMemory 41 = .ok (.iinc 2 (-1), 3) := by decide +kernel
theorem dX7_inMemory_44 : decode cX7_inMemory 44 = .ok (.iinc 3 1, 3) := by decide +kernel
theorem dX7_inMemory_47 : decode cX7_inMemory 47 = .ok (.goto (-43), 3) := by decide +kernel
theorem dX7_inMemory_50 : decode cX7_inMemory 50 = .ok (.iconst (-1), 1) := by decide +kernel
theorem dX7_inMemory_51 : decode cX7_inMemory 51 = .ok (.ireturn, 1) := by decide +kernel
set_option maxRecDepth 20000 in
theorem ggX7_smallest_X7_nextPlace : GoodIn wsX7_smallest wsX7_nextPlace := goodIn_r _ [5, 6, 7, 8, 9, 4, 10, 15, 16, 17, 18, 19, 20, 21, 22, 23, 24, 25, 26] (by decide +kernel) (by decide +kernel)
set_option maxRecDepth 20000 in
theorem gX7_smallest_X7_nextPlace : GoodIn wsX7_smallest (wsV RX7 51 RX7 yX7_nextPlace wsX7_nextPlace) := goodIn_app (goodIn_of _ (by decide +kernel)) ggX7_smallest_X7_nextPlace
set_option maxRecDepth 20000 in
theorem ggX7_smallest_X7_rowsAt : GoodIn wsX7_smallest wsX7_rowsAt := goodIn_r _ [14, 6, 7, 8, 9, 4, 10, 15, 16, 17, 18, 19, 20, 21, 22, 23, 24, 25, 26] (by decide +kernel) (by decide +kernel)
set_option maxRecDepth 20000 in
theorem gX7_smallest_X7_rowsAt : GoodIn wsX7_smallest (wsV RX7 48 RX7 yX7_rowsAt wsX7_rowsAt) := goodIn_app (goodIn_of _ (by decide +kernel)) ggX7_smallest_X7_rowsAt
theorem dX7_smallest_0 : decode cX7_smallest 0 = .ok (.bipush (-6), 2) := by decide +kernel
theorem dX7_smallest_2 : decode cX7_smallest 2 = .ok (.istore_n 1, 1) := by decide +kernel
theorem dX7_smallest_3 : decode cX7_smallest 3 = .ok (.iconst 0, 1) := by decide +kernel
theorem dX7_smallest_4 : decode cX7_smallest 4 = .ok (.istore_n 2, 1) := by decide +kernel
theorem dX7_smallest_5 : decode cX7_smallest 5 = .ok (.aload_n 0, 1) := by decide +kernel
theorem dX7_smallest_6 : decode cX7_smallest 6 = .ok (.iconst 0, 1) := by decide +kernel
theorem dX7_smallest_7 : decode cX7_smallest 7 = .ok (.iconst 0, 1) := by decide +kernel
theorem dX7_smallest_8 : decode cX7_smallest 8 = .ok (.invokevirtual 51, 3) := by decide +kernel
theorem dX7_smallest_11 : decode cX7_smallest 11 = .ok (.istore_n 3, 1) := by decide +kernel
theorem dX7_smallest_12 : decode cX7_smallest 12 = .ok (.iload_n 3, 1) := by decide +kernel
theorem dX7_smallest_13 : decode cX7_smallest 13 = .ok (.bipush (-6), 2) := by decide +kernel
theorem dX7_smallest_15 : decode cX7_smallest 15 = .ok (.if_icmp .eq 62, 3) := by decide +kernel
theorem dX7_smallest_18 : decode cX7_smallest 18 = .ok (.aload_n 0, 1) := by decide +kernel
theorem dX7_smallest_19 : decode cX7_smallest 19 = .ok (.iload_n 3, 1) := by decide +kernel
theorem dX7_smallest_20 : decode cX7_smallest 20 = .ok (.invokevirtual 48, 3) := by decide +kernel
theorem dX7_smallest_23 : decode cX7_smallest 23 = .ok (.istore 4, 2) := by decide +kernel
theorem dX7_smallest_25 : decode cX7_smallest 25 = .ok (.iload_n 1, 1) := by decide +kernel
theorem dX7_smallest_26 : decode cX7_smallest 26 = .ok (.bipush (-6), 2) := by decide +kernel
theorem dX7_smallest_28 : decode cX7_smallest 28 = .ok (.if_icmp .eq 9, 3) := by decide +kernel
theorem dX7_smallest_31 : decode cX7_smallest 31 = .ok (.iload 4, 2) := by decide +kernel
theorem dX7_smallest_33 : decode cX7_smallest 33 = .ok (.iload_n 2, 1) := by decide +kernel
theorem dX7_smallest_34 : decode cX7_smallest 34 = .ok (.if_icmp .ge 7, 3) := by decide +kernel
theorem dX7_smallest_37 : decode cX7_smallest 37 = .ok (.iconst 1, 1) := by decide +kernel
theorem dX7_smallest_38 : decode cX7_smallest 38 = .ok (.goto 4, 3) := by decide +kernel
theorem dX7_smallest_41 : decode cX7_smallest 41 = .ok (.iconst 0, 1) := by decide +kernel
theorem dX7_smallest_42 : decode cX7_smallest 42 = .ok (.istore 5, 2) := by decide +kernel
theorem dX7_smallest_44 : decode cX7_smallest 44 = .ok (.iload 5, 2) := by decide +kernel
theorem dX7_smallest_46 : decode cX7_smallest 46 = .ok (.ifCond .eq 7, 3) := by decide +kernel
theorem dX7_smallest_49 : decode cX7_smallest 49 = .ok (.iload_n 3, 1) := by decide +kernel
theorem dX7_smallest_50 : decode cX7_smallest 50 = .ok (.goto 4, 3) := by decide +kernel
theorem dX7_smallest_53 : decode cX7_smallest 53 = .ok (.iload_n 1, 1) := by decide +kernel
theorem dX7_smallest_54 : decode cX7_smallest 54 = .ok (.istore_n 1, 1) := by decide +kernel
theorem dX7_smallest_55 : decode cX7_smallest 55 = .ok (.iload 5, 2) := by decide +kernel
theorem dX7_smallest_57 : decode cX7_smallest 57 = .ok (.ifCond .eq 8, 3) := by decide +kernel
theorem dX7_smallest_60 : decode cX7_smallest 60 = .ok (.iload 4, 2) := by decide +kernel
theorem dX7_smallest_62 : decode cX7_smallest 62 = .ok (.goto 4, 3) := by decide +kernel
theorem dX7_smallest_65 : decode cX7_smallest 65 = .ok (.iload_n 2, 1) := by decide +kernel
theorem dX7_smallest_66 : decode cX7_smallest 66 = .ok (.istore_n 2, 1) := by decide +kernel
theorem dX7_smallest_67 : decode cX7_smallest 67 = .ok (.aload_n 0, 1) := by decide +kernel
theorem dX7_smallest_68 : decode cX7_smallest 68 = .ok (.iload_n 3, 1) := by decide +kernel
theorem dX7_smallest_69 : decode cX7_smallest 69 = .ok (.iconst 0, 1) := by decide +kernel
theorem dX7_smallest_70 : decode cX7_smallest 70 = .ok (.invokevirtual 51, 3) := by decide +kernel
theorem dX7_smallest_73 : decode cX7_smallest 73 = .ok (.istore_n 3, 1) := by decide +kernel
theorem dX7_smallest_74 : decode cX7_smallest 74 = .ok (.goto (-62), 3) := by decide +kernel
theorem dX7_smallest_77 : decode cX7_smallest 77 = .ok (.iload_n 1, 1) := by decide +kernel
theorem dX7_smallest_78 : decode cX7_smallest 78 = .ok (.ireturn, 1) := by decide +kernel
set_option maxRecDepth 20000 in
theorem ggX7_begins_X7_runMany : GoodIn wsX7_begins wsX7_runMany := goodIn_r _ [6, 7, 8, 9, 5, 10, 11, 12, 13, 14, 1, 15, 16, 17, 18, 30, 31, 32, 33, 34, 35, 36, 37, 38, 39, 40, 41] (by decide +kernel) (by decide +kernel)
set_option maxRecDepth 20000 in
theorem gX7_begins_X7_runMany : GoodIn wsX7_begins (wsV RX7 74 RX7 yX7_runMany wsX7_runMany) := goodIn_app (goodIn_of _ (by decide +kernel)) ggX7_begins_X7_runMany
set_option maxRecDepth 20000 in
theorem ggX7_begins_X7_waysOf : GoodIn wsX7_begins wsX7_waysOf := goodIn_r _ [21] (by decide +kernel) (by decide +kernel)
set_option maxRecDepth 20000 in
theorem gX7_begins_X7_waysOf : GoodIn wsX7_begins (va_wsS RX7 80 yX7_waysOf wsX7_waysOf) := goodIn_app (goodIn_of _ (by decide +kernel)) ggX7_begins_X7_waysOf
set_option maxRecDepth 20000 in
theorem ggX7_begins_X7_smallest : GoodIn wsX7_begins wsX7_smallest := goodIn_r _ [25, 11, 12, 13, 5, 14, 1, 15, 16, 17, 18, 26, 27, 28, 29, 30, 31, 32, 33, 34, 35, 36, 37, 38, 39, 40, 41] (by decide +kernel) (by decide +kernel)
set_option maxRecDepth 20000 in
theorem gX7_begins_X7_smallest : GoodIn wsX7_begins (wsV RX7 93 RX7 yX7_smallest wsX7_smallest) := goodIn_app (goodIn_of _ (by decide +kernel)) ggX7_begins_X7_smallest
set_option maxRecDepth 20000 in
theorem ggX7_begins_X7_place : GoodIn wsX7_begins wsX7_place := goodIn_r _ [18, 1, 30, 31, 32, 33, 34, 35, 36, 37, 38, 39, 40, 41] (by decide +kernel) (by decide +kernel)
set_option maxRecDepth 20000 in
theorem gX7_begins_X7_place : GoodIn wsX7_begins (wsV RX7 40 RX7 yX7_place wsX7_place) := goodIn_app (goodIn_of _ (by decide +kernel)) ggX7_begins_X7_place
theorem dX7_begins_0 : decode cX7_begins 0 = .ok (.aload_n 0, 1) := by decide +kernel
theorem dX7_begins_1 : decode cX7_begins 1 = .ok (.invokevirtual 74, 3) := by decide +kernel
theorem dX7_begins_4 : decode cX7_begins 4 = .ok (.istore_n 1, 1) := by decide +kernel
theorem dX7_begins_5 : decode cX7_begins 5 = .ok (.aload_n 0, 1) := by decide +kernel
theorem dX7_begins_6 : decode cX7_begins 6 = .ok (.getfield 7, 3) := by decide +kernel
theorem dX7_begins_9 : decode cX7_begins 9 = .ok (.iconst 0, 1) := by decide +kernel
theorem dX7_begins_10 : decode cX7_begins 10 = .ok (.iaload, 1) := by decide +kernel
theorem dX7_begins_11 : decode cX7_begins 11 = .ok (.invokestatic 80, 3) := by decide +kernel
theorem dX7_begins_14 : decode cX7_begins 14 = .ok (.istore_n 2, 1) := by decide +kernel
theorem dX7_begins_15 : decode cX7_begins 15 = .ok (.aload_n 0, 1) := by decide +kernel
theorem dX7_begins_16 : decode cX7_begins 16 = .ok (.getfield 7, 3) := by decide +kernel
theorem dX7_begins_19 : decode cX7_begins 19 = .ok (.bipush 6, 2) := by decide +kernel
theorem dX7_begins_21 : decode cX7_begins 21 = .ok (.iload_n 1, 1) := by decide +kernel
theorem dX7_begins_22 : decode cX7_begins 22 = .ok (.iload_n 2, 1) := by decide +kernel
theorem dX7_begins_23 : decode cX7_begins 23 = .ok (.if_icmp .ge 7, 3) := by decide +kernel
theorem dX7_begins_26 : decode cX7_begins 26 = .ok (.iload_n 1, 1) := by decide +kernel
theorem dX7_begins_27 : decode cX7_begins 27 = .ok (.goto 4, 3) := by decide +kernel
theorem dX7_begins_30 : decode cX7_begins 30 = .ok (.iload_n 2, 1) := by decide +kernel
theorem dX7_begins_31 : decode cX7_begins 31 = .ok (.iastore, 1) := by decide +kernel
theorem dX7_begins_32 : decode cX7_begins 32 = .ok (.iconst 0, 1) := by decide +kernel
theorem dX7_begins_33 : decode cX7_begins 33 = .ok (.istore_n 3, 1) := by decide +kernel
theorem dX7_begins_34 : decode cX7_begins 34 = .ok (.iload_n 3, 1) := by decide +kernel
theorem dX7_begins_35 : decode cX7_begins 35 = .ok (.aload_n 0, 1) := by decide +kernel
theorem dX7_begins_36 : decode cX7_begins 36 = .ok (.getfield 7, 3) := by decide +kernel
theorem dX7_begins_39 : decode cX7_begins 39 = .ok (.bipush 6, 2) := by decide +kernel
theorem dX7_begins_41 : decode cX7_begins 41 = .ok (.iaload, 1) := by decide +kernel
theorem dX7_begins_42 : decode cX7_begins 42 = .ok (.if_icmp .ge 70, 3) := by decide +kernel
theorem dX7_begins_45 : decode cX7_begins 45 = .ok (.aload_n 0, 1) := by decide +kernel
theorem dX7_begins_46 : decode cX7_begins 46 = .ok (.invokevirtual 93, 3) := by decide +kernel
theorem dX7_begins_49 : decode cX7_begins 49 = .ok (.istore 4, 2) := by decide +kernel
theorem dX7_begins_51 : decode cX7_begins 51 = .ok (.iconst 0, 1) := by decide +kernel
theorem dX7_begins_52 : decode cX7_begins 52 = .ok (.istore 5, 2) := by decide +kernel
theorem dX7_begins_54 : decode cX7_begins 54 = .ok (.iload 5, 2) := by decide +kernel
theorem dX7_begins_56 : decode cX7_begins 56 = .ok (.aload_n 0, 1) := by decide +kernel
theorem dX7_begins_57 : decode cX7_begins 57 = .ok (.getfield 7, 3) := by decide +kernel
theorem dX7_begins_60 : decode cX7_begins 60 = .ok (.iconst 3, 1) := by decide +kernel
theorem dX7_begins_61 : decode cX7_begins 61 = .ok (.iaload, 1) := by decide +kernel
theorem dX7_begins_62 : decode cX7_begins 62 = .ok (.if_icmp .ge 44, 3) := by decide +kernel
theorem dX7_begins_65 : decode cX7_begins 65 = .ok (.aload_n 0, 1) := by decide +kernel
theorem dX7_begins_66 : decode cX7_begins 66 = .ok (.getfield 7, 3) := by decide +kernel
theorem dX7_begins_69 : decode cX7_begins 69 = .ok (.sipush 250, 3) := by decide +kernel
theorem dX7_begins_72 : decode cX7_begins 72 = .ok (.iload 5, 2) := by decide +kernel
theorem dX7_begins_74 : decode cX7_begins 74 = .ok (.iadd, 1) := by decide +kernel
theorem dX7_begins_75 : decode cX7_begins 75 = .ok (.aload_n 0, 1) := by decide +kernel
theorem dX7_begins_76 : decode cX7_begins 76 = .ok (.iload 5, 2) := by decide +kernel
theorem dX7_begins_78 : decode cX7_begins 78 = .ok (.invokevirtual 40, 3) := by decide +kernel
theorem dX7_begins_81 : decode cX7_begins 81 = .ok (.iload 4, 2) := by decide +kernel
theorem dX7_begins_83 : decode cX7_begins 83 = .ok (.if_icmp .ne 10, 3) := by decide +kernel
theorem dX7_begins_86 : decode cX7_begins 86 = .ok (.iload 4, 2) := by decide +kernel
theorem dX7_begins_88 : decode cX7_begins 88 = .ok (.iconst 1, 1) := by decide +kernel
theorem dX7_begins_89 : decode cX7_begins 89 = .ok (.iadd, 1) := by decide +kernel
theorem dX7_begins_90 : decode cX7_begins 90 = .ok (.goto 9, 3) := by decide +kernel
theorem dX7_begins_93 : decode cX7_begins 93 = .ok (.aload_n 0, 1) := by decide +kernel
theorem dX7_begins_94 : decode cX7_begins 94 = .ok (.iload 5, 2) := by decide +kernel
theorem dX7_begins_96 : decode cX7_begins 96 = .ok (.invokevirtual 40, 3) := by decide +kernel
theorem dX7_begins_99 : decode cX7_begins 99 = .ok (.iastore, 1) := by decide +kernel
theorem dX7_begins_100 : decode cX7_begins 100 = .ok (.iinc 5 1, 3) := by decide +kernel
theorem dX7_begins_103 : decode cX7_begins 103 = .ok (.goto (-49), 3) := by decide +kernel
theorem dX7_begins_106 : decode cX7_begins 106 = .ok (.iinc 3 1, 3) := by decide +kernel
theorem dX7_begins_109 : decode cX7_begins 109 = .ok (.goto (-75), 3) := by decide +kernel
theorem dX7_begins_112 : decode cX7_begins 112 = .ok (.aload_n 0, 1) := by decide +kernel
theorem dX7_begins_113 : decode cX7_begins 113 = .ok (.getfield 7, 3) := by decide +kernel
theorem dX7_begins_116 : decode cX7_begins 116 = .ok (.iconst 5, 1) := by decide +kernel
theorem dX7_begins_117 : decode cX7_begins 117 = .ok (.iconst 1, 1) := by decide +kernel
theorem dX7_begins_118 : decode cX7_begins 118 = .ok (.iastore, 1) := by decide +kernel
theorem dX7_begins_119 : decode cX7_begins 119 = .ok (.aload_n 0, 1) := by decide +kernel
theorem dX7_begins_120 : decode cX7_begins 120 = .ok (.getfield 7, 3) := by decide +kernel
theorem dX7_begins_123 : decode cX7_begins 123 = .ok (.bipush 8, 2) := by decide +kernel
theorem dX7_begins_125 : decode cX7_begins 125 = .ok (.dup2, 1) := by decide +kernel
theorem dX7_begins_126 : decode cX7_begins 126 = .ok (.iaload, 1) := by decide +kernel
theorem dX7_begins_127 : decode cX7_begins 127 = .ok (.iconst 1, 1) := by decide +kernel
theorem dX7_begins_128 : decode cX7_begins 128 = .ok (.iadd, 1) := by decide +kernel
theorem dX7_begins_129 : decode cX7_begins 129 = .ok (.iastore, 1) := by decide +kernel
theorem dX7_begins_130 : decode cX7_begins 130 = .ok (.return_, 1) := by decide +kernel
set_option maxRecDepth 20000 in
theorem ggX7_merge_X7_runMany : GoodIn wsX7_merge wsX7_runMany := goodIn_r _ [6, 7, 8, 9, 5, 10, 11, 12, 13, 14, 1, 15, 16, 17, 18, 40, 41, 42, 43, 44, 45, 46, 47, 48, 49, 50, 51] (by decide +kernel) (by decide +kernel)
set_option maxRecDepth 20000 in
theorem gX7_merge_X7_runMany : GoodIn wsX7_merge (wsV RX7 74 RX7 yX7_runMany wsX7_runMany) := goodIn_app (goodIn_of _ (by decide +kernel)) ggX7_merge_X7_runMany
set_option maxRecDepth 20000 in
theorem ggX7_merge_X7_waysOf : GoodIn wsX7_merge wsX7_waysOf := goodIn_r _ [21] (by decide +kernel) (by decide +kernel)
set_option maxRecDepth 20000 in
theorem gX7_merge_X7_waysOf : GoodIn wsX7_merge (va_wsS RX7 80 yX7_waysOf wsX7_waysOf) := goodIn_app (goodIn_of _ (by decide +kernel)) ggX7_merge_X7_waysOf
set_option maxRecDepth 20000 in
theorem ggX7_merge_X7_record : GoodIn wsX7_merge wsX7_record := goodIn_r _ [25, 26, 27, 1, 40, 41, 42, 43, 44, 45, 46, 47, 48, 49, 50, 51] (by decide +kernel) (by decide +kernel)
set_option maxRecDepth 20000 in
theorem gX7_merge_X7_record : GoodIn wsX7_merge (wsV RX7 37 RX7 yX7_record wsX7_record) := goodIn_app (goodIn_of _ (by decide +kernel)) ggX7_merge_X7_record
set_option maxRecDepth 20000 in
theorem ggX7_merge_X7_begins : GoodIn wsX7_merge wsX7_begins := goodIn_r _ [31, 1, 2, 3, 4, 5, 6, 7, 8, 9, 10, 11, 12, 13, 14, 15, 16, 17, 18, 19, 20, 21, 32, 33, 34, 35, 36, 37, 38, 39, 40, 41, 42, 43, 44, 45, 46, 47, 48, 49, 50, 51] (by decide +kernel) (by decide +kernel)
set_option maxRecDepth 20000 in
theorem gX7_merge_X7_begins : GoodIn wsX7_merge (wsV RX7 96 RX7 yX7_begins wsX7_begins) := goodIn_app (goodIn_of _ (by decide +kernel)) ggX7_merge_X7_begins
theorem dX7_merge_0 : decode cX7_merge 0 = .ok (.aload_n 0, 1) := by decide +kernel
theorem dX7_merge_1 : decode cX7_merge 1 = .ok (.getfield 7, 3) := by decide +kernel
theorem dX7_merge_4 : decode cX7_merge 4 = .ok (.iconst 2, 1) := by decide +kernel
theorem dX7_merge_5 : decode cX7_merge 5 = .ok (.iaload, 1) := by decide +kernel
theorem dX7_merge_6 : decode cX7_merge 6 = .ok (.iconst 1, 1) := by decide +kernel
theorem dX7_merge_7 : decode cX7_merge 7 = .ok (.if_icmp .eq 34, 3) := by decide +kernel
theorem dX7_merge_10 : decode cX7_merge 10 = .ok (.aload_n 0, 1) := by decide +kernel
theorem dX7_merge_11 : decode cX7_merge 11 = .ok (.getfield 7, 3) := by decide +kernel
theorem dX7_merge_14 : decode cX7_merge 14 = .ok (.iconst 5, 1) := by decide +kernel
theorem dX7_merge_15 : decode cX7_merge 15 = .ok (.iaload, 1) := by decide +kernel
theorem dX7_merge_16 : decode cX7_merge 16 = .ok (.iconst 1, 1) := by decide +kernel
theorem dX7_merge_17 : decode cX7_merge 17 = .ok (.if_icmp .eq 24, 3) := by decide +kernel
theorem dX7_merge_20 : decode cX7_merge 20 = .ok (.aload_n 0, 1) := by decide +kernel
theorem dX7_merge_21 : decode cX7_merge 21 = .ok (.invokevirtual 74, 3) := by decide +kernel
theorem dX7_merge_24 : decode cX7_merge 24 = .ok (.iconst 2, 1) := by decide +kernel
theorem dX7_merge_25 : decode cX7_merge 25 = .ok (.if_icmp .lt 16, 3) := by decide +kernel
theorem dX7_merge_28 : decode cX7_merge 28 = .ok (.aload_n 0, 1) := by decide +kernel
theorem dX7_merge_29 : decode cX7_merge 29 = .ok (.getfield 7, 3) := by decide +kernel
theorem dX7_merge_32 : decode cX7_merge 32 = .ok (.iconst 0, 1) := by decide +kernel
theorem dX7_merge_33 : decode cX7_merge 33 = .ok (.iaload, 1) := by decide +kernel
theorem dX7_merge_34 : decode cX7_merge 34 = .ok (.invokestatic 80, 3) := by decide +kernel
theorem dX7_merge_37 : decode cX7_merge 37 = .ok (.iconst 2, 1) := by decide +kernel
theorem dX7_merge_38 : decode cX7_merge 38 = .ok (.if_icmp .ge 6, 3) := by decide +kernel
theorem dX7_merge_41 : decode cX7_merge 41 = .ok (.bipush (-3), 2) := by decide +kernel
theorem dX7_merge_43 : decode cX7_merge 43 = .ok (.ireturn, 1) := by decide +kernel
theorem dX7_merge_44 : decode cX7_merge 44 = .ok (.aload_n 0, 1) := by decide +kernel
theorem dX7_merge_45 : decode cX7_merge 45 = .ok (.invokevirtual 37, 3) := by decide +kernel
theorem dX7_merge_48 : decode cX7_merge 48 = .ok (.aload_n 0, 1) := by decide +kernel
theorem dX7_merge_49 : decode cX7_merge 49 = .ok (.invokevirtual 96, 3) := by decide +kernel
theorem dX7_merge_52 : decode cX7_merge 52 = .ok (.aload_n 0, 1) := by decide +kernel
theorem dX7_merge_53 : decode cX7_merge 53 = .ok (.getfield 7, 3) := by decide +kernel
theorem dX7_merge_56 : decode cX7_merge 56 = .ok (.bipush 6, 2) := by decide +kernel
theorem dX7_merge_58 : decode cX7_merge 58 = .ok (.iaload, 1) := by decide +kernel
theorem dX7_merge_59 : decode cX7_merge 59 = .ok (.ireturn, 1) := by decide +kernel
set_option maxRecDepth 20000 in
theorem ggX7_liesInInput_X7_place : GoodIn wsX7_liesInInput wsX7_place := goodIn_r _ [5, 6, 7, 8, 9, 10, 11, 12, 13, 14, 15, 16, 17, 18] (by decide +kernel) (by decide +kernel)
set_option maxRecDepth 20000 in
theorem gX7_liesInInput_X7_place : GoodIn wsX7_liesInInput (wsV RX7 40 RX7 yX7_place wsX7_place) := goodIn_app (goodIn_of _ (by decide +kernel)) ggX7_liesInInput_X7_place
theorem dX7_liesInInput_0 : decode cX7_liesInInput 0 = .ok (.aload_n 0, 1) := by decide +kernel
theorem dX7_liesInInput_1 : decode cX7_liesInInput 1 = .ok (.iload_n 1, 1) := by decide +kernel
theorem dX7_liesInInput_2 : decode cX7_liesInInput 2 = .ok (.invokevirtual 40, 3) := by decide +kernel
theorem dX7_liesInInput_5 : decode cX7_liesInInput 5 = .ok (.bipush 11, 2) := by decide +kernel
theorem dX7_liesInInput_7 : decode cX7_liesInInput 7 = .ok (.if_icmp .lt 18, 3) := by decide +kernel
theorem dX7_liesInInput_10 : decode cX7_liesInInput 10 = .ok (.aload_n 0, 1) := by decide +kernel
theorem dX7_liesInInput_11 : decode cX7_liesInInput 11 = .ok (.iload_n 1, 1) := by decide +kernel
theorem dX7_liesInInput_12 : decode cX7_liesInInput 12 = .ok (.invokevirtual 40, 3) := by decide +kernel
theorem dX7_liesInInput_15 : decode cX7_liesInInput 15 = .ok (.iconst 2, 1) := by decide +kernel
theorem dX7_liesInInput_16 : decode cX7_liesInInput 16 = .ok (.irem, 1) := by decide +kernel
theorem dX7_liesInInput_17 : decode cX7_liesInInput 17 = .ok (.iconst 1, 1) := by decide +kernel
theorem dX7_liesInInput_18 : decode cX7_liesInInput 18 = .ok (.if_icmp .ne 7, 3) := by decide +kernel
theorem dX7_liesInInput_21 : decode cX7_liesInInput 21 = .ok (.iconst 1, 1) := by decide +kernel
theorem dX7_liesInInput_22 : decode cX7_liesInInput 22 = .ok (.goto 4, 3) := by decide +kernel
theorem dX7_liesInInput_25 : decode cX7_liesInInput 25 = .ok (.iconst 0, 1) := by decide +kernel
theorem dX7_liesInInput_26 : decode cX7_liesInInput 26 = .ok (.ireturn, 1) := by decide +kernel
set_option maxRecDepth 20000 in
theorem ggX7_rowsInInputs_X7_liesInInput : GoodIn wsX7_rowsInInputs wsX7_liesInInput := goodIn_r _ [6, 7, 8, 9, 5, 10, 1, 11, 12, 13, 14, 15, 16, 17, 18, 19, 20, 21, 22] (by decide +kernel) (by decide +kernel)
set_option maxRecDepth 20000 in
theorem gX7_rowsInInputs_X7_liesInInput : GoodIn wsX7_rowsInInputs (wsV RX7 99 RX7 yX7_liesInInput wsX7_liesInInput) := goodIn_app (goodIn_of _ (by decide +kernel)) ggX7_rowsInInputs_X7_liesInInput
theorem dX7_rowsInInputs_0 : decode cX7_rowsInInputs 0 = .ok (.iconst 0, 1) := by decide +kernel
theorem dX7_rowsInInputs_1 : decode cX7_rowsInInputs 1 = .ok (.istore_n 1, 1) := by decide +kernel
theorem dX7_rowsInInputs_2 : decode cX7_rowsInInputs 2 = .ok (.iconst 0, 1) := by decide +kernel
theorem dX7_rowsInInputs_3 : decode cX7_rowsInInputs 3 = .ok (.istore_n 2, 1) := by decide +kernel
theorem dX7_rowsInInputs_4 : decode cX7_rowsInInputs 4 = .ok (.iload_n 2, 1) := by decide +kernel
theorem dX7_rowsInInputs_5 : decode cX7_rowsInInputs 5 = .ok (.aload_n 0, 1) := by decide +kernel
theorem dX7_rowsInInputs_6 : decode cX7_rowsInInputs 6 = .ok (.getfield 7, 3) := by decide +kernel
theorem dX7_rowsInInputs_9 : decode cX7_rowsInInputs 9 = .ok (.iconst 3, 1) := by decide +kernel
theorem dX7_rowsInInputs_10 : decode cX7_rowsInInputs 10 = .ok (.iaload, 1) := by decide +kernel
theorem dX7_rowsInInputs_11 : decode cX7_rowsInInputs 11 = .ok (.if_icmp .ge 25, 3) := by decide +kernel
theorem dX7_rowsInInputs_14 : decode cX7_rowsInInputs 14 = .ok (.iload_n 1, 1) := by decide +kernel
theorem dX7_rowsInInputs_15 : decode cX7_rowsInInputs 15 = .ok (.aload_n 0, 1) := by decide +kernel
theorem dX7_rowsInInputs_16 : decode cX7_rowsInInputs 16 = .ok (.iload_n 2, 1) := by decide +kernel
theorem dX7_rowsInInputs_17 : decode cX7_rowsInInputs 17 = .ok (.invokevirtual 99, 3) := by decide +kernel
theorem dX7_rowsInInputs_20 : decode cX7_rowsInInputs 20 = .ok (.ifCond .eq 7, 3) := by decide +kernel
theorem dX7_rowsInInputs_23 : decode cX7_rowsInInputs 23 = .ok (.iconst 1, 1) := by decide +kernel
theorem dX7_rowsInInputs_24 : decode cX7_rowsInInputs 24 = .ok (.goto 4, 3) := by decide +kernel
theorem dX7_rowsInInputs_27 : decode cX7_rowsInInputs 27 = .ok (.iconst 0, 1) := by decide +kernel
theorem dX7_rowsInInputs_28 : decode cX7_rowsInInputs 28 = .ok (.iadd, 1) := by decide +kernel
theorem dX7_rowsInInputs_29 : decode cX7_rowsInInputs 29 = .ok (.istore_n 1, 1) := by decide +kernel
theorem dX7_rowsInInputs_30 : decode cX7_rowsInInputs 30 = .ok (.iinc 2 1, 3) := by decide +kernel
theorem dX7_rowsInInputs_33 : decode cX7_rowsInInputs 33 = .ok (.goto (-29), 3) := by decide +kernel
theorem dX7_rowsInInputs_36 : decode cX7_rowsInInputs 36 = .ok (.iload_n 1, 1) := by decide +kernel
theorem dX7_rowsInInputs_37 : decode cX7_rowsInInputs 37 = .ok (.ireturn, 1) := by decide +kernel
set_option maxRecDepth 20000 in
theorem ggX7_firstRow_X7_liesInInput : GoodIn wsX7_firstRow wsX7_liesInInput := goodIn_r _ [6, 7, 8, 9, 5, 10, 1, 11, 12, 13, 14, 15, 16, 17, 18, 19, 20, 21, 22] (by decide +kernel) (by decide +kernel)
set_option maxRecDepth 20000 in
theorem gX7_firstRow_X7_liesInInput : GoodIn wsX7_firstRow (wsV RX7 99 RX7 yX7_liesInInput wsX7_liesInInput) := goodIn_app (goodIn_of _ (by decide +kernel)) ggX7_firstRow_X7_liesInInput
theorem dX7_firstRow_0 : decode cX7_firstRow 0 = .ok (.bipush (-6), 2) := by decide +kernel
theorem dX7_firstRow_2 : decode cX7_firstRow 2 = .ok (.istore_n 1, 1) := by decide +kernel
theorem dX7_firstRow_3 : decode cX7_firstRow 3 = .ok (.iconst 0, 1) := by decide +kernel
theorem dX7_firstRow_4 : decode cX7_firstRow 4 = .ok (.istore_n 2, 1) := by decide +kernel
theorem dX7_firstRow_5 : decode cX7_firstRow 5 = .ok (.iload_n 2, 1) := by decide +kernel
theorem dX7_firstRow_6 : decode cX7_firstRow 6 = .ok (.aload_n 0, 1) := by decide +kernel
theorem dX7_firstRow_7 : decode cX7_firstRow 7 = .ok (.getfield 7, 3) := by decide +kernel
theorem dX7_firstRow_10 : decode cX7_firstRow 10 = .ok (.iconst 3, 1) := by decide +kernel
theorem dX7_firstRow_11 : decode cX7_firstRow 11 = .ok (.iaload, 1) := by decide +kernel
theorem dX7_firstRow_12 : decode cX7_firstRow 12 = .ok (.if_icmp .ge 50, 3) := by decide +kernel
theorem dX7_firstRow_15 : decode cX7_firstRow 15 = .ok (.aload_n 0, 1) := by decide +kernel
theorem dX7_firstRow_16 : decode cX7_firstRow 16 = .ok (.iload_n 2, 1) := by decide +kernel
theorem dX7_firstRow_17 : decode cX7_firstRow 17 = .ok (.invokevirtual 99, 3) := by decide +kernel
theorem dX7_firstRow_20 : decode cX7_firstRow 20 = .ok (.ifCond .eq 34, 3) := by decide +kernel
theorem dX7_firstRow_23 : decode cX7_firstRow 23 = .ok (.iload_n 1, 1) := by decide +kernel
theorem dX7_firstRow_24 : decode cX7_firstRow 24 = .ok (.bipush (-6), 2) := by decide +kernel
theorem dX7_firstRow_26 : decode cX7_firstRow 26 = .ok (.if_icmp .eq 24, 3) := by decide +kernel
theorem dX7_firstRow_29 : decode cX7_firstRow 29 = .ok (.aload_n 0, 1) := by decide +kernel
theorem dX7_firstRow_30 : decode cX7_firstRow 30 = .ok (.getfield 7, 3) := by decide +kernel
theorem dX7_firstRow_33 : decode cX7_firstRow 33 = .ok (.bipush 10, 2) := by decide +kernel
theorem dX7_firstRow_35 : decode cX7_firstRow 35 = .ok (.iload_n 2, 1) := by decide +kernel
theorem dX7_firstRow_36 : decode cX7_firstRow 36 = .ok (.iadd, 1) := by decide +kernel
theorem dX7_firstRow_37 : decode cX7_firstRow 37 = .ok (.iaload, 1) := by decide +kernel
theorem dX7_firstRow_38 : decode cX7_firstRow 38 = .ok (.aload_n 0, 1) := by decide +kernel
theorem dX7_firstRow_39 : decode cX7_firstRow 39 = .ok (.getfield 7, 3) := by decide +kernel
theorem dX7_firstRow_42 : decode cX7_firstRow 42 = .ok (.bipush 10, 2) := by decide +kernel
theorem dX7_firstRow_44 : decode cX7_firstRow 44 = .ok (.iload_n 1, 1) := by decide +kernel
theorem dX7_firstRow_45 : decode cX7_firstRow 45 = .ok (.iadd, 1) := by decide +kernel
theorem dX7_firstRow_46 : decode cX7_firstRow 46 = .ok (.iaload, 1) := by decide +kernel
theorem dX7_firstRow_47 : decode cX7_firstRow 47 = .ok (.if_icmp .ge 7, 3) := by decide +kernel
theorem dX7_firstRow_50 : decode cX7_firstRow 50 = .ok (.iload_n 2, 1) := by decide +kernel
theorem dX7_firstRow_51 : decode cX7_firstRow 51 = .ok (.goto 4, 3) := by decide +kernel
theorem dX7_firstRow_54 : decode cX7_firstRow 54 = .ok (.iload_n 1, 1) := by decide +kernel
theorem dX7_firstRow_55 : decode cX7_firstRow 55 = .ok (.istore_n 1, 1) := by decide +kernel
theorem dX7_firstRow_56 : decode cX7_firstRow 56 = .ok (.iinc 2 1, 3) := by decide +kernel
theorem dX7_firstRow_59 : decode cX7_firstRow 59 = .ok (.goto (-54), 3) := by decide +kernel
theorem dX7_firstRow_62 : decode cX7_firstRow 62 = .ok (.iload_n 1, 1) := by decide +kernel
theorem dX7_firstRow_63 : decode cX7_firstRow 63 = .ok (.ireturn, 1) := by decide +kernel
set_option maxRecDepth 20000 in
theorem ggX7_lastOfOutput_X7_place : GoodIn wsX7_lastOfOutput wsX7_place := goodIn_r _ [6, 1, 7, 8, 9, 10, 11, 12, 13, 14, 15, 16, 17, 18] (by decide +kernel) (by decide +kernel)
set_option maxRecDepth 20000 in
theorem gX7_lastOfOutput_X7_place : GoodIn wsX7_lastOfOutput (wsV RX7 40 RX7 yX7_place wsX7_place) := goodIn_app (goodIn_of _ (by decide +kernel)) ggX7_lastOfOutput_X7_place
theorem dX7_lastOfOutput_0 : decode cX7_lastOfOutput 0 = .ok (.bipush (-6), 2) := by decide +kernel
theorem dX7_lastOfOutput_2 : decode cX7_lastOfOutput 2 = .ok (.istore_n 1, 1) := by decide +kernel
theorem dX7_lastOfOutput_3 : decode cX7_lastOfOutput 3 = .ok (.iconst 0, 1) := by decide +kernel
theorem dX7_lastOfOutput_4 : decode cX7_lastOfOutput 4 = .ok (.istore_n 2, 1) := by decide +kernel
theorem dX7_lastOfOutput_5 : decode cX7_lastOfOutput 5 = .ok (.iload_n 2, 1) := by decide +kernel
theorem dX7_lastOfOutput_6 : decode cX7_lastOfOutput 6 = .ok (.aload_n 0, 1) := by decide +kernel
theorem dX7_lastOfOutput_7 : decode cX7_lastOfOutput 7 = .ok (.getfield 7, 3) := by decide +kernel
theorem dX7_lastOfOutput_10 : decode cX7_lastOfOutput 10 = .ok (.iconst 3, 1) := by decide +kernel
theorem dX7_lastOfOutput_11 : decode cX7_lastOfOutput 11 = .ok (.iaload, 1) := by decide +kernel
theorem dX7_lastOfOutput_12 : decode cX7_lastOfOutput 12 = .ok (.if_icmp .ge 51, 3) := by decide +kernel
theorem dX7_lastOfOutput_15 : decode cX7_lastOfOutput 15 = .ok (.aload_n 0, 1) := by decide +kernel
theorem dX7_lastOfOutput_16 : decode cX7_lastOfOutput 16 = .ok (.iload_n 2, 1) := by decide +kernel
theorem dX7_lastOfOutput_17 : decode cX7_lastOfOutput 17 = .ok (.invokevirtual 40, 3) := by decide +kernel
theorem dX7_lastOfOutput_20 : decode cX7_lastOfOutput 20 = .ok (.iconst 2, 1) := by decide +kernel
theorem dX7_lastOfOutput_21 : decode cX7_lastOfOutput 21 = .ok (.if_icmp .ne 34, 3) := by decide +kernel
theorem dX7_lastOfOutput_24 : decode cX7_lastOfOutput 24 = .ok (.iload_n 1, 1) := by decide +kernel
theorem dX7_lastOfOutput_25 : decode cX7_lastOfOutput 25 = .ok (.bipush (-6), 2) := by decide +kernel
theorem dX7_lastOfOutput_27 : decode cX7_lastOfOutput 27 = .ok (.if_icmp .eq 24, 3) := by decide +kernel
theorem dX7_lastOfOutput_30 : decode cX7_lastOfOutput 30 = .ok (.aload_n 0, 1) := by decide +kernel
theorem dX7_lastOfOutput_31 : decode cX7_lastOfOutput 31 = .ok (.getfield 7, 3) := by decide +kernel
theorem dX7_lastOfOutput_34 : decode cX7_lastOfOutput 34 = .ok (.bipush 10, 2) := by decide +kernel
theorem dX7_lastOfOutput_36 : decode cX7_lastOfOutput 36 = .ok (.iload_n 2, 1) := by decide +kernel
theorem dX7_lastOfOutput_37 : decode cX7_lastOfOutput 37 = .ok (.iadd, 1) := by decide +kernel
theorem dX7_lastOfOutput_38 : decode cX7_lastOfOutput 38 = .ok (.iaload, 1) := by decide +kernel
theorem dX7_lastOfOutput_39 : decode cX7_lastOfOutput 39 = .ok (.aload_n 0, 1) := by decide +kernel
theorem dX7_lastOfOutput_40 : decode cX7_lastOfOutput 40 = .ok (.getfield 7, 3) := by decide +kernel
theorem dX7_lastOfOutput_43 : decode cX7_lastOfOutput 43 = .ok (.bipush 10, 2) := by decide +kernel
theorem dX7_lastOfOutput_45 : decode cX7_lastOfOutput 45 = .ok (.iload_n 1, 1) := by decide +kernel
theorem dX7_lastOfOutput_46 : decode cX7_lastOfOutput 46 = .ok (.iadd, 1) := by decide +kernel
theorem dX7_lastOfOutput_47 : decode cX7_lastOfOutput 47 = .ok (.iaload, 1) := by decide +kernel
theorem dX7_lastOfOutput_48 : decode cX7_lastOfOutput 48 = .ok (.if_icmp .lt 7, 3) := by decide +kernel
theorem dX7_lastOfOutput_51 : decode cX7_lastOfOutput 51 = .ok (.iload_n 2, 1) := by decide +kernel
theorem dX7_lastOfOutput_52 : decode cX7_lastOfOutput 52 = .ok (.goto 4, 3) := by decide +kernel
theorem dX7_lastOfOutput_55 : decode cX7_lastOfOutput 55 = .ok (.iload_n 1, 1) := by decide +kernel
theorem dX7_lastOfOutput_56 : decode cX7_lastOfOutput 56 = .ok (.istore_n 1, 1) := by decide +kernel
theorem dX7_lastOfOutput_57 : decode cX7_lastOfOutput 57 = .ok (.iinc 2 1, 3) := by decide +kernel
theorem dX7_lastOfOutput_60 : decode cX7_lastOfOutput 60 = .ok (.goto (-55), 3) := by decide +kernel
theorem dX7_lastOfOutput_63 : decode cX7_lastOfOutput 63 = .ok (.iload_n 1, 1) := by decide +kernel
theorem dX7_lastOfOutput_64 : decode cX7_lastOfOutput 64 = .ok (.ireturn, 1) := by decide +kernel
set_option maxRecDepth 20000 in
theorem ggX7_steps_X7_firstRow : GoodIn wsX7_steps wsX7_firstRow := goodIn_r _ [6, 1, 7, 8, 9, 5, 10, 11, 12, 13, 14, 27, 28, 29, 30, 31, 32, 33, 34, 35, 36, 37, 38] (by decide +kernel) (by decide +kernel)
set_option maxRecDepth 20000 in
theorem gX7_steps_X7_firstRow : GoodIn wsX7_steps (wsV RX7 102 RX7 yX7_firstRow wsX7_firstRow) := goodIn_app (goodIn_of _ (by decide +kernel)) ggX7_steps_X7_firstRow
set_option maxRecDepth 20000 in
theorem ggX7_steps_X7_lastOfOutput : GoodIn wsX7_steps wsX7_lastOfOutput := goodIn_r _ [18, 1, 11, 12, 13, 5, 14, 27, 28, 29, 30, 31, 32, 33, 34, 35, 36, 37, 38] (by decide +kernel) (by decide +kernel)
set_option maxRecDepth 20000 in
theorem gX7_steps_X7_lastOfOutput : GoodIn wsX7_steps (wsV RX7 105 RX7 yX7_lastOfOutput wsX7_lastOfOutput) := goodIn_app (goodIn_of _ (by decide +kernel)) ggX7_steps_X7_lastOfOutput
set_option maxRecDepth 20000 in
theorem ggX7_steps_X7_rowsInInputs : GoodIn wsX7_steps wsX7_rowsInInputs := goodIn_r _ [22, 1, 7, 8, 9, 5, 10, 11, 12, 13, 14, 27, 28, 29, 30, 31, 32, 33, 34, 35, 36, 37, 38] (by decide +kernel) (by decide +kernel)
set_option maxRecDepth 20000 in
theorem gX7_steps_X7_rowsInInputs : GoodIn wsX7_steps (wsV RX7 108 RX7 yX7_rowsInInputs wsX7_rowsInInputs) := goodIn_app (goodIn_of _ (by decide +kernel)) ggX7_steps_X7_rowsInInputs
set_option maxRecDepth 20000 in
theorem ggX7_steps_X7_becomesRun : GoodIn wsX7_steps wsX7_becomesRun := goodIn_r _ [26, 1, 11, 12, 13, 5, 14, 27, 28, 29, 30, 31, 32, 33, 34, 35, 36, 37, 38] (by decide +kernel) (by decide +kernel)
set_option maxRecDepth 20000 in
theorem gX7_steps_X7_becomesRun : GoodIn wsX7_steps (wsV RX7 58 RX7 yX7_becomesRun wsX7_becomesRun) := goodIn_app (goodIn_of _ (by decide +kernel)) ggX7_steps_X7_becomesRun
theorem dX7_steps_0 : decode cX7_steps 0 = .ok (.aload_n 0, 1) := by decide +kernel
theorem dX7_steps_1 : decode cX7_steps 1 = .ok (.invokevirtual 102, 3) := by decide +kernel
theorem dX7_steps_4 : decode cX7_steps 4 = .ok (.istore_n 1, 1) := by decide +kernel
theorem dX7_steps_5 : decode cX7_steps 5 = .ok (.aload_n 0, 1) := by decide +kernel
theorem dX7_steps_6 : decode cX7_steps 6 = .ok (.invokevirtual 105, 3) := by decide +kernel
theorem dX7_steps_9 : decode cX7_steps 9 = .ok (.istore_n 2, 1) := by decide +kernel
theorem dX7_steps_10 : decode cX7_steps 10 = .ok (.aload_n 0, 1) := by decide +kernel
theorem dX7_steps_11 : decode cX7_steps 11 = .ok (.getfield 7, 3) := by decide +kernel
theorem dX7_steps_14 : decode cX7_steps 14 = .ok (.bipush 7, 2) := by decide +kernel
theorem dX7_steps_16 : decode cX7_steps 16 = .ok (.dup2, 1) := by decide +kernel
theorem dX7_steps_17 : decode cX7_steps 17 = .ok (.iaload, 1) := by decide +kernel
theorem dX7_steps_18 : decode cX7_steps 18 = .ok (.iconst 1, 1) := by decide +kernel
theorem dX7_steps_19 : decode cX7_steps 19 = .ok (.iadd, 1) := by decide +kernel
theorem dX7_steps_20 : decode cX7_steps 20 = .ok (.iastore, 1) := by decide +kernel
theorem dX7_steps_21 : decode cX7_steps 21 = .ok (.aload_n 0, 1) := by decide +kernel
theorem dX7_steps_22 : decode cX7_steps 22 = .ok (.getfield 7, 3) := by decide +kernel
theorem dX7_steps_25 : decode cX7_steps 25 = .ok (.iconst 1, 1) := by decide +kernel
theorem dX7_steps_26 : decode cX7_steps 26 = .ok (.iaload, 1) := by decide +kernel
theorem dX7_steps_27 : decode cX7_steps 27 = .ok (.iconst 1, 1) := by decide +kernel
theorem dX7_steps_28 : decode cX7_steps 28 = .ok (.if_icmp .ne 78, 3) := by decide +kernel
theorem dX7_steps_31 : decode cX7_steps 31 = .ok (.iload_n 2, 1) := by decide +kernel
theorem dX7_steps_32 : decode cX7_steps 32 = .ok (.bipush (-6), 2) := by decide +kernel
theorem dX7_steps_34 : decode cX7_steps 34 = .ok (.if_icmp .eq 72, 3) := by decide +kernel
theorem dX7_steps_37 : decode cX7_steps 37 = .ok (.aload_n 0, 1) := by decide +kernel
theorem dX7_steps_38 : decode cX7_steps 38 = .ok (.getfield 7, 3) := by decide +kernel
theorem dX7_steps_41 : decode cX7_steps 41 = .ok (.bipush 10, 2) := by decide +kernel
theorem dX7_steps_43 : decode cX7_steps 43 = .ok (.iload_n 2, 1) := by decide +kernel
theorem dX7_steps_44 : decode cX7_steps 44 = .ok (.iadd, 1) := by decide +kernel
theorem dX7_steps_45 : decode cX7_steps 45 = .ok (.iaload, 1) := by decide +kernel
theorem dX7_steps_46 : decode cX7_steps 46 = .ok (.aload_n 0, 1) := by decide +kernel
theorem dX7_steps_47 : decode cX7_steps 47 = .ok (.getfield 7, 3) := by decide +kernel
theorem dX7_steps_50 : decode cX7_steps 50 = .ok (.bipush 10, 2) := by decide +kernel
theorem dX7_steps_52 : decode cX7_steps 52 = .ok (.iload_n 1, 1) := by decide +kernel
theorem dX7_steps_53 : decode cX7_steps 53 = .ok (.iadd, 1) := by decide +kernel
theorem dX7_steps_54 : decode cX7_steps 54 = .ok (.iaload, 1) := by decide +kernel
theorem dX7_steps_55 : decode cX7_steps 55 = .ok (.if_icmp .ne 51, 3) := by decide +kernel
theorem dX7_steps_58 : decode cX7_steps 58 = .ok (.aload_n 0, 1) := by decide +kernel
theorem dX7_steps_59 : decode cX7_steps 59 = .ok (.getfield 7, 3) := by decide +kernel
theorem dX7_steps_62 : decode cX7_steps 62 = .ok (.sipush 130, 3) := by decide +kernel
theorem dX7_steps_65 : decode cX7_steps 65 = .ok (.iload_n 2, 1) := by decide +kernel
theorem dX7_steps_66 : decode cX7_steps 66 = .ok (.iadd, 1) := by decide +kernel
theorem dX7_steps_67 : decode cX7_steps 67 = .ok (.dup2, 1) := by decide +kernel
theorem dX7_steps_68 : decode cX7_steps 68 = .ok (.iaload, 1) := by decide +kernel
theorem dX7_steps_69 : decode cX7_steps 69 = .ok (.aload_n 0, 1) := by decide +kernel
theorem dX7_steps_70 : decode cX7_steps 70 = .ok (.getfield 7, 3) := by decide +kernel
theorem dX7_steps_73 : decode cX7_steps 73 = .ok (.sipush 130, 3) := by decide +kernel
theorem dX7_steps_76 : decode cX7_steps 76 = .ok (.iload_n 1, 1) := by decide +kernel
theorem dX7_steps_77 : decode cX7_steps 77 = .ok (.iadd, 1) := by decide +kernel
theorem dX7_steps_78 : decode cX7_steps 78 = .ok (.iaload, 1) := by decide +kernel
theorem dX7_steps_79 : decode cX7_steps 79 = .ok (.iadd, 1) := by decide +kernel
theorem dX7_steps_80 : decode cX7_steps 80 = .ok (.iastore, 1) := by decide +kernel
theorem dX7_steps_81 : decode cX7_steps 81 = .ok (.aload_n 0, 1) := by decide +kernel
theorem dX7_steps_82 : decode cX7_steps 82 = .ok (.getfield 7, 3) := by decide +kernel
theorem dX7_steps_85 : decode cX7_steps 85 = .ok (.sipush 130, 3) := by decide +kernel
theorem dX7_steps_88 : decode cX7_steps 88 = .ok (.iload_n 1, 1) := by decide +kernel
theorem dX7_steps_89 : decode cX7_steps 89 = .ok (.iadd, 1) := by decide +kernel
theorem dX7_steps_90 : decode cX7_steps 90 = .ok (.iconst 0, 1) := by decide +kernel
theorem dX7_steps_91 : decode cX7_steps 91 = .ok (.iastore, 1) := by decide +kernel
theorem dX7_steps_92 : decode cX7_steps 92 = .ok (.aload_n 0, 1) := by decide +kernel
theorem dX7_steps_93 : decode cX7_steps 93 = .ok (.getfield 7, 3) := by decide +kernel
theorem dX7_steps_96 : decode cX7_steps 96 = .ok (.sipush 250, 3) := by decide +kernel
theorem dX7_steps_99 : decode cX7_steps 99 = .ok (.iload_n 1, 1) := by decide +kernel
theorem dX7_steps_100 : decode cX7_steps 100 = .ok (.iadd, 1) := by decide +kernel
theorem dX7_steps_101 : decode cX7_steps 101 = .ok (.iconst 0, 1) := by decide +kernel
theorem dX7_steps_102 : decode cX7_steps 102 = .ok (.iastore, 1) := by decide +kernel
theorem dX7_steps_103 : decode cX7_steps 103 = .ok (.goto 25, 3) := by decide +kernel
theorem dX7_steps_106 : decode cX7_steps 106 = .ok (.aload_n 0, 1) := by decide +kernel
theorem dX7_steps_107 : decode cX7_steps 107 = .ok (.getfield 7, 3) := by decide +kernel
theorem dX7_steps_110 : decode cX7_steps 110 = .ok (.sipush 250, 3) := by decide +kernel
theorem dX7_steps_113 : decode cX7_steps 113 = .ok (.iload_n 1, 1) := by decide +kernel
theorem dX7_steps_114 : decode cX7_steps 114 = .ok (.iadd, 1) := by decide +kernel
theorem dX7_steps_115 : decode cX7_steps 115 = .ok (.iconst 2, 1) := by decide +kernel
theorem dX7_steps_116 : decode cX7_steps 116 = .ok (.iastore, 1) := by decide +kernel
theorem dX7_steps_117 : decode cX7_steps 117 = .ok (.aload_n 0, 1) := by decide +kernel
theorem dX7_steps_118 : decode cX7_steps 118 = .ok (.getfield 7, 3) := by decide +kernel
theorem dX7_steps_121 : decode cX7_steps 121 = .ok (.bipush 7, 2) := by decide +kernel
theorem dX7_steps_123 : decode cX7_steps 123 = .ok (.dup2, 1) := by decide +kernel
theorem dX7_steps_124 : decode cX7_steps 124 = .ok (.iaload, 1) := by decide +kernel
theorem dX7_steps_125 : decode cX7_steps 125 = .ok (.iconst 1, 1) := by decide +kernel
theorem dX7_steps_126 : decode cX7_steps 126 = .ok (.iadd, 1) := by decide +kernel
theorem dX7_steps_127 : decode cX7_steps 127 = .ok (.iastore, 1) := by decide +kernel
theorem dX7_steps_128 : decode cX7_steps 128 = .ok (.aload_n 0, 1) := by decide +kernel
theorem dX7_steps_129 : decode cX7_steps 129 = .ok (.invokevirtual 108, 3) := by decide +kernel
theorem dX7_steps_132 : decode cX7_steps 132 = .ok (.ifCond .ne 16, 3) := by decide +kernel
theorem dX7_steps_135 : decode cX7_steps 135 = .ok (.aload_n 0, 1) := by decide +kernel
theorem dX7_steps_136 : decode cX7_steps 136 = .ok (.iconst 2, 1) := by decide +kernel
theorem dX7_steps_137 : decode cX7_steps 137 = .ok (.invokevirtual 58, 3) := by decide +kernel
theorem dX7_steps_140 : decode cX7_steps 140 = .ok (.pop, 1) := by decide +kernel
theorem dX7_steps_141 : decode cX7_steps 141 = .ok (.aload_n 0, 1) := by decide +kernel
theorem dX7_steps_142 : decode cX7_steps 142 = .ok (.getfield 7, 3) := by decide +kernel
theorem dX7_steps_145 : decode cX7_steps 145 = .ok (.iconst 5, 1) := by decide +kernel
theorem dX7_steps_146 : decode cX7_steps 146 = .ok (.iconst 0, 1) := by decide +kernel
theorem dX7_steps_147 : decode cX7_steps 147 = .ok (.iastore, 1) := by decide +kernel
theorem dX7_steps_148 : decode cX7_steps 148 = .ok (.return_, 1) := by decide +kernel
set_option maxRecDepth 20000 in
theorem ggX7_step_X7_in : GoodIn wsX7_step wsX7_in := goodIn_r _ [5] (by decide +kernel) (by decide +kernel)
set_option maxRecDepth 20000 in
theorem gX7_step_X7_in : GoodIn wsX7_step (va_wsS RX7 44 yX7_in wsX7_in) := goodIn_app (goodIn_of _ (by decide +kernel)) ggX7_step_X7_in
set_option maxRecDepth 20000 in
theorem ggX7_step_X7_record : GoodIn wsX7_step wsX7_record := goodIn_r _ [9, 10, 11, 1, 40, 41, 42, 43, 44, 45, 46, 47, 48, 49, 50, 51] (by decide +kernel) (by decide +kernel)
set_option maxRecDepth 20000 in
theorem gX7_step_X7_record : GoodIn wsX7_step (wsV RX7 37 RX7 yX7_record wsX7_record) := goodIn_app (goodIn_of _ (by decide +kernel)) ggX7_step_X7_record
set_option maxRecDepth 20000 in
theorem ggX7_step_X7_steps : GoodIn wsX7_step wsX7_steps := goodIn_r _ [15, 1, 16, 17, 18, 4, 19, 20, 21, 22, 23, 24, 25, 26, 27, 28, 29, 30, 31, 32, 33, 34, 35, 36, 37, 38, 39, 40, 41, 42, 43, 44, 45, 46, 47, 48, 49, 50, 51] (by decide +kernel) (by decide +kernel)
set_option maxRecDepth 20000 in
theorem gX7_step_X7_steps : GoodIn wsX7_step (wsV RX7 111 RX7 yX7_steps wsX7_steps) := goodIn_app (goodIn_of _ (by decide +kernel)) ggX7_step_X7_steps
theorem dX7_step_0 : decode cX7_step 0 = .ok (.iload_n 1, 1) := by decide +kernel
theorem dX7_step_1 : decode cX7_step 1 = .ok (.iconst 1, 1) := by decide +kernel
theorem dX7_step_2 : decode cX7_step 2 = .ok (.sipush 200, 3) := by decide +kernel
theorem dX7_step_5 : decode cX7_step 5 = .ok (.invokestatic 44, 3) := by decide +kernel
theorem dX7_step_8 : decode cX7_step 8 = .ok (.ifCond .ne 6, 3) := by decide +kernel
theorem dX7_step_11 : decode cX7_step 11 = .ok (.bipush (-2), 2) := by decide +kernel
theorem dX7_step_13 : decode cX7_step 13 = .ok (.ireturn, 1) := by decide +kernel
theorem dX7_step_14 : decode cX7_step 14 = .ok (.aload_n 0, 1) := by decide +kernel
theorem dX7_step_15 : decode cX7_step 15 = .ok (.getfield 7, 3) := by decide +kernel
theorem dX7_step_18 : decode cX7_step 18 = .ok (.iconst 5, 1) := by decide +kernel
theorem dX7_step_19 : decode cX7_step 19 = .ok (.iaload, 1) := by decide +kernel
theorem dX7_step_20 : decode cX7_step 20 = .ok (.ifCond .ne 6, 3) := by decide +kernel
theorem dX7_step_23 : decode cX7_step 23 = .ok (.bipush (-3), 2) := by decide +kernel
theorem dX7_step_25 : decode cX7_step 25 = .ok (.ireturn, 1) := by decide +kernel
theorem dX7_step_26 : decode cX7_step 26 = .ok (.aload_n 0, 1) := by decide +kernel
theorem dX7_step_27 : decode cX7_step 27 = .ok (.invokevirtual 37, 3) := by decide +kernel
theorem dX7_step_30 : decode cX7_step 30 = .ok (.iconst 0, 1) := by decide +kernel
theorem dX7_step_31 : decode cX7_step 31 = .ok (.istore_n 2, 1) := by decide +kernel
theorem dX7_step_32 : decode cX7_step 32 = .ok (.iload_n 2, 1) := by decide +kernel
theorem dX7_step_33 : decode cX7_step 33 = .ok (.iload_n 1, 1) := by decide +kernel
theorem dX7_step_34 : decode cX7_step 34 = .ok (.if_icmp .ge 23, 3) := by decide +kernel
theorem dX7_step_37 : decode cX7_step 37 = .ok (.aload_n 0, 1) := by decide +kernel
theorem dX7_step_38 : decode cX7_step 38 = .ok (.getfield 7, 3) := by decide +kernel
theorem dX7_step_41 : decode cX7_step 41 = .ok (.iconst 5, 1) := by decide +kernel
theorem dX7_step_42 : decode cX7_step 42 = .ok (.iaload, 1) := by decide +kernel
theorem dX7_step_43 : decode cX7_step 43 = .ok (.iconst 1, 1) := by decide +kernel
theorem dX7_step_44 : decode cX7_step 44 = .ok (.if_icmp .ne 13, 3) := by decide +kernel
theorem dX7_step_47 : decode cX7_step 47 = .ok (.aload_n 0, 1) := by decide +kernel
theorem dX7_step_48 : decode cX7_step 48 = .ok (.invokevirtual 111, 3) := by decide +kernel
theorem dX7_step_51 : decode cX7_step 51 = .ok (.iinc 2 1, 3) := by decide +kernel
theorem dX7_step_54 : decode cX7_step 54 = .ok (.goto (-22), 3) := by decide +kernel
theorem dX7_step_57 : decode cX7_step 57 = .ok (.iload_n 2, 1) := by decide +kernel
theorem dX7_step_58 : decode cX7_step 58 = .ok (.ireturn, 1) := by decide +kernel
set_option maxRecDepth 20000 in
theorem ggX7_runsToCome_X7_runMany : GoodIn wsX7_runsToCome wsX7_runMany := goodIn_r _ [6, 7, 8, 9, 5, 10, 11, 12, 13, 14, 1, 15, 16, 17, 18, 23, 24, 25, 26, 27, 28, 29, 30, 31, 32, 33, 34] (by decide +kernel) (by decide +kernel)
set_option maxRecDepth 20000 in
theorem gX7_runsToCome_X7_runMany : GoodIn wsX7_runsToCome (wsV RX7 74 RX7 yX7_runMany wsX7_runMany) := goodIn_app (goodIn_of _ (by decide +kernel)) ggX7_runsToCome_X7_runMany
set_option maxRecDepth 20000 in
theorem ggX7_runsToCome_X7_rowsAt : GoodIn wsX7_runsToCome wsX7_rowsAt := goodIn_r _ [22, 1, 15, 16, 17, 5, 18, 23, 24, 25, 26, 27, 28, 29, 30, 31, 32, 33, 34] (by decide +kernel) (by decide +kernel)
set_option maxRecDepth 20000 in
theorem gX7_runsToCome_X7_rowsAt : GoodIn wsX7_runsToCome (wsV RX7 48 RX7 yX7_rowsAt wsX7_rowsAt) := goodIn_app (goodIn_of _ (by decide +kernel)) ggX7_runsToCome_X7_rowsAt
theorem dX7_runsToCome_0 : decode cX7_runsToCome 0 = .ok (.aload_n 0, 1) := by decide +kernel
theorem dX7_runsToCome_1 : decode cX7_runsToCome 1 = .ok (.invokevirtual 74, 3) := by decide +kernel
theorem dX7_runsToCome_4 : decode cX7_runsToCome 4 = .ok (.aload_n 0, 1) := by decide +kernel
theorem dX7_runsToCome_5 : decode cX7_runsToCome 5 = .ok (.getfield 7, 3) := by decide +kernel
theorem dX7_runsToCome_8 : decode cX7_runsToCome 8 = .ok (.iconst 2, 1) := by decide +kernel
theorem dX7_runsToCome_9 : decode cX7_runsToCome 9 = .ok (.iaload, 1) := by decide +kernel
theorem dX7_runsToCome_10 : decode cX7_runsToCome 10 = .ok (.iconst 1, 1) := by decide +kernel
theorem dX7_runsToCome_11 : decode cX7_runsToCome 11 = .ok (.if_icmp .ne 11, 3) := by decide +kernel
theorem dX7_runsToCome_14 : decode cX7_runsToCome 14 = .ok (.aload_n 0, 1) := by decide +kernel
theorem dX7_runsToCome_15 : decode cX7_runsToCome 15 = .ok (.iconst 1, 1) := by decide +kernel
theorem dX7_runsToCome_16 : decode cX7_runsToCome 16 = .ok (.invokevirtual 48, 3) := by decide +kernel
theorem dX7_runsToCome_19 : decode cX7_runsToCome 19 = .ok (.ifCond .gt 13, 3) := by decide +kernel
theorem dX7_runsToCome_22 : decode cX7_runsToCome 22 = .ok (.aload_n 0, 1) := by decide +kernel
theorem dX7_runsToCome_23 : decode cX7_runsToCome 23 = .ok (.getfield 7, 3) := by decide +kernel
theorem dX7_runsToCome_26 : decode cX7_runsToCome 26 = .ok (.iconst 5, 1) := by decide +kernel
theorem dX7_runsToCome_27 : decode cX7_runsToCome 27 = .ok (.iaload, 1) := by decide +kernel
theorem dX7_runsToCome_28 : decode cX7_runsToCome 28 = .ok (.iconst 1, 1) := by decide +kernel
theorem dX7_runsToCome_29 : decode cX7_runsToCome 29 = .ok (.if_icmp .ne 7, 3) := by decide +kernel
theorem dX7_runsToCome_32 : decode cX7_runsToCome 32 = .ok (.iconst 1, 1) := by decide +kernel
theorem dX7_runsToCome_33 : decode cX7_runsToCome 33 = .ok (.goto 4, 3) := by decide +kernel
theorem dX7_runsToCome_36 : decode cX7_runsToCome 36 = .ok (.iconst 0, 1) := by decide +kernel
theorem dX7_runsToCome_37 : decode cX7_runsToCome 37 = .ok (.iadd, 1) := by decide +kernel
theorem dX7_runsToCome_38 : decode cX7_runsToCome 38 = .ok (.ireturn, 1) := by decide +kernel
set_option maxRecDepth 20000 in
theorem ggX7_canRun_X7_runsToCome : GoodIn wsX7_canRun wsX7_runsToCome := goodIn_r _ [6, 1, 7, 8, 9, 5, 10, 11, 12, 13, 14, 15, 16, 17, 18, 19, 20, 21, 22, 23, 24, 25, 26, 30, 31, 32, 33, 34, 35, 36, 37, 38, 39, 40, 41] (by decide +kernel) (by decide +kernel)
set_option maxRecDepth 20000 in
theorem gX7_canRun_X7_runsToCome : GoodIn wsX7_canRun (wsV RX7 114 RX7 yX7_runsToCome wsX7_runsToCome) := goodIn_app (goodIn_of _ (by decide +kernel)) ggX7_canRun_X7_runsToCome
set_option maxRecDepth 20000 in
theorem ggX7_canRun_X7_waysOf : GoodIn wsX7_canRun wsX7_waysOf := goodIn_r _ [29] (by decide +kernel) (by decide +kernel)
set_option maxRecDepth 20000 in
theorem gX7_canRun_X7_waysOf : GoodIn wsX7_canRun (va_wsS RX7 80 yX7_waysOf wsX7_waysOf) := goodIn_app (goodIn_of _ (by decide +kernel)) ggX7_canRun_X7_waysOf
theorem dX7_canRun_0 : decode cX7_canRun 0 = .ok (.aload_n 0, 1) := by decide +kernel
theorem dX7_canRun_1 : decode cX7_canRun 1 = .ok (.invokevirtual 114, 3) := by decide +kernel
theorem dX7_canRun_4 : decode cX7_canRun 4 = .ok (.iconst 2, 1) := by decide +kernel
theorem dX7_canRun_5 : decode cX7_canRun 5 = .ok (.if_icmp .lt 16, 3) := by decide +kernel
theorem dX7_canRun_8 : decode cX7_canRun 8 = .ok (.aload_n 0, 1) := by decide +kernel
theorem dX7_canRun_9 : decode cX7_canRun 9 = .ok (.getfield 7, 3) := by decide +kernel
theorem dX7_canRun_12 : decode cX7_canRun 12 = .ok (.iconst 0, 1) := by decide +kernel
theorem dX7_canRun_13 : decode cX7_canRun 13 = .ok (.iaload, 1) := by decide +kernel
theorem dX7_canRun_14 : decode cX7_canRun 14 = .ok (.invokestatic 80, 3) := by decide +kernel
theorem dX7_canRun_17 : decode cX7_canRun 17 = .ok (.iconst 1, 1) := by decide +kernel
theorem dX7_canRun_18 : decode cX7_canRun 18 = .ok (.if_icmp .le 7, 3) := by decide +kernel
theorem dX7_canRun_21 : decode cX7_canRun 21 = .ok (.iconst 1, 1) := by decide +kernel
theorem dX7_canRun_22 : decode cX7_canRun 22 = .ok (.goto 4, 3) := by decide +kernel
theorem dX7_canRun_25 : decode cX7_canRun 25 = .ok (.iconst 0, 1) := by decide +kernel
theorem dX7_canRun_26 : decode cX7_canRun 26 = .ok (.ireturn, 1) := by decide +kernel
set_option maxRecDepth 20000 in
theorem ggX7_allSteps_X7_finishes : GoodIn wsX7_allSteps wsX7_finishes := goodIn_r _ [6, 1, 7, 8, 9, 5, 10, 11, 12, 13, 14, 15, 16, 17, 18, 19, 20, 21, 22, 66, 67, 68, 69, 70, 71, 72, 73, 74, 75, 76, 77] (by decide +kernel) (by decide +kernel)
set_option maxRecDepth 20000 in
theorem gX7_allSteps_X7_finishes : GoodIn wsX7_allSteps (wsV RX7 71 RX7 yX7_finishes wsX7_finishes) := goodIn_app (goodIn_of _ (by decide +kernel)) ggX7_allSteps_X7_finishes
set_option maxRecDepth 20000 in
theorem ggX7_allSteps_X7_runMany : GoodIn wsX7_allSteps wsX7_runMany := goodIn_r _ [26, 27, 28, 29, 5, 30, 31, 32, 33, 34, 1, 15, 16, 17, 18, 66, 67, 68, 69, 70, 71, 72, 73, 74, 75, 76, 77] (by decide +kernel) (by decide +kernel)
set_option maxRecDepth 20000 in
theorem gX7_allSteps_X7_runMany : GoodIn wsX7_allSteps (wsV RX7 74 RX7 yX7_runMany wsX7_runMany) := goodIn_app (goodIn_of _ (by decide +kernel)) ggX7_allSteps_X7_runMany
set_option maxRecDepth 20000 in
theorem ggX7_allSteps_X7_begins : GoodIn wsX7_allSteps wsX7_begins := goodIn_r _ [38, 1, 23, 24, 25, 5, 26, 27, 28, 29, 30, 31, 32, 33, 34, 15, 16, 17, 18, 39, 40, 41, 42, 43, 44, 45, 11, 12, 13, 14, 66, 67, 68, 69, 70, 71, 72, 73, 74, 75, 76, 77] (by decide +kernel) (by decide +kernel)
set_option maxRecDepth 20000 in
theorem gX7_allSteps_X7_begins : GoodIn wsX7_allSteps (wsV RX7 96 RX7 yX7_begins wsX7_begins) := goodIn_app (goodIn_of _ (by decide +kernel)) ggX7_allSteps_X7_begins
set_option maxRecDepth 20000 in
theorem ggX7_allSteps_X7_steps : GoodIn wsX7_allSteps wsX7_steps := goodIn_r _ [49, 1, 50, 51, 52, 5, 53, 54, 55, 56, 57, 15, 16, 17, 18, 58, 59, 60, 61, 62, 63, 64, 65, 19, 20, 21, 22, 66, 67, 68, 69, 70, 71, 72, 73, 74, 75, 76, 77] (by decide +kernel) (by decide +kernel)
set_option maxRecDepth 20000 in
theorem gX7_allSteps_X7_steps : GoodIn wsX7_allSteps (wsV RX7 111 RX7 yX7_steps wsX7_steps) := goodIn_app (goodIn_of _ (by decide +kernel)) ggX7_allSteps_X7_steps
theorem dX7_allSteps_0 : decode cX7_allSteps 0 = .ok (.aload_n 0, 1) := by decide +kernel
theorem dX7_allSteps_1 : decode cX7_allSteps 1 = .ok (.getfield 7, 3) := by decide +kernel
theorem dX7_allSteps_4 : decode cX7_allSteps 4 = .ok (.iconst 2, 1) := by decide +kernel
theorem dX7_allSteps_5 : decode cX7_allSteps 5 = .ok (.iaload, 1) := by decide +kernel
theorem dX7_allSteps_6 : decode cX7_allSteps 6 = .ok (.iconst 1, 1) := by decide +kernel
theorem dX7_allSteps_7 : decode cX7_allSteps 7 = .ok (.if_icmp .ne 7, 3) := by decide +kernel
theorem dX7_allSteps_10 : decode cX7_allSteps 10 = .ok (.aload_n 0, 1) := by decide +kernel
theorem dX7_allSteps_11 : decode cX7_allSteps 11 = .ok (.invokevirtual 71, 3) := by decide +kernel
theorem dX7_allSteps_14 : decode cX7_allSteps 14 = .ok (.aload_n 0, 1) := by decide +kernel
theorem dX7_allSteps_15 : decode cX7_allSteps 15 = .ok (.getfield 7, 3) := by decide +kernel
theorem dX7_allSteps_18 : decode cX7_allSteps 18 = .ok (.bipush 8, 2) := by decide +kernel
theorem dX7_allSteps_20 : decode cX7_allSteps 20 = .ok (.iaload, 1) := by decide +kernel
theorem dX7_allSteps_21 : decode cX7_allSteps 21 = .ok (.istore_n 1, 1) := by decide +kernel
theorem dX7_allSteps_22 : decode cX7_allSteps 22 = .ok (.aload_n 0, 1) := by decide +kernel
theorem dX7_allSteps_23 : decode cX7_allSteps 23 = .ok (.getfield 7, 3) := by decide +kernel
theorem dX7_allSteps_26 : decode cX7_allSteps 26 = .ok (.iconst 5, 1) := by decide +kernel
theorem dX7_allSteps_27 : decode cX7_allSteps 27 = .ok (.iaload, 1) := by decide +kernel
theorem dX7_allSteps_28 : decode cX7_allSteps 28 = .ok (.iconst 1, 1) := by decide +kernel
theorem dX7_allSteps_29 : decode cX7_allSteps 29 = .ok (.if_icmp .eq 11, 3) := by decide +kernel
theorem dX7_allSteps_32 : decode cX7_allSteps 32 = .ok (.aload_n 0, 1) := by decide +kernel
theorem dX7_allSteps_33 : decode cX7_allSteps 33 = .ok (.invokevirtual 74, 3) := by decide +kernel
theorem dX7_allSteps_36 : decode cX7_allSteps 36 = .ok (.iconst 1, 1) := by decide +kernel
theorem dX7_allSteps_37 : decode cX7_allSteps 37 = .ok (.if_icmp .le 23, 3) := by decide +kernel
theorem dX7_allSteps_40 : decode cX7_allSteps 40 = .ok (.aload_n 0, 1) := by decide +kernel
theorem dX7_allSteps_41 : decode cX7_allSteps 41 = .ok (.getfield 7, 3) := by decide +kernel
theorem dX7_allSteps_44 : decode cX7_allSteps 44 = .ok (.iconst 5, 1) := by decide +kernel
theorem dX7_allSteps_45 : decode cX7_allSteps 45 = .ok (.iaload, 1) := by decide +kernel
theorem dX7_allSteps_46 : decode cX7_allSteps 46 = .ok (.ifCond .ne 7, 3) := by decide +kernel
theorem dX7_allSteps_49 : decode cX7_allSteps 49 = .ok (.aload_n 0, 1) := by decide +kernel
theorem dX7_allSteps_50 : decode cX7_allSteps 50 = .ok (.invokevirtual 96, 3) := by decide +kernel
theorem dX7_allSteps_53 : decode cX7_allSteps 53 = .ok (.aload_n 0, 1) := by decide +kernel
theorem dX7_allSteps_54 : decode cX7_allSteps 54 = .ok (.invokevirtual 111, 3) := by decide +kernel
theorem dX7_allSteps_57 : decode cX7_allSteps 57 = .ok (.goto (-35), 3) := by decide +kernel
theorem dX7_allSteps_60 : decode cX7_allSteps 60 = .ok (.aload_n 0, 1) := by decide +kernel
theorem dX7_allSteps_61 : decode cX7_allSteps 61 = .ok (.getfield 7, 3) := by decide +kernel
theorem dX7_allSteps_64 : decode cX7_allSteps 64 = .ok (.bipush 8, 2) := by decide +kernel
theorem dX7_allSteps_66 : decode cX7_allSteps 66 = .ok (.iaload, 1) := by decide +kernel
theorem dX7_allSteps_67 : decode cX7_allSteps 67 = .ok (.iload_n 1, 1) := by decide +kernel
theorem dX7_allSteps_68 : decode cX7_allSteps 68 = .ok (.isub, 1) := by decide +kernel
theorem dX7_allSteps_69 : decode cX7_allSteps 69 = .ok (.ireturn, 1) := by decide +kernel
set_option maxRecDepth 20000 in
theorem ggX7_run_X7_canRun : GoodIn wsX7_run wsX7_canRun := goodIn_r _ [5, 6, 7, 8, 9, 4, 10, 11, 12, 13, 14, 15, 16, 17, 18, 19, 20, 21, 22, 23, 24, 25, 26, 27, 28, 29, 30, 31, 32, 33, 84, 85, 86, 87, 88, 89, 90, 91, 92, 93, 94, 95] (by decide +kernel) (by decide +kernel)
set_option maxRecDepth 20000 in
theorem gX7_run_X7_canRun : GoodIn wsX7_run (wsV RX7 117 RX7 yX7_canRun wsX7_canRun) := goodIn_app (goodIn_of _ (by decide +kernel)) ggX7_run_X7_canRun
set_option maxRecDepth 20000 in
theorem ggX7_run_X7_record : GoodIn wsX7_run wsX7_record := goodIn_r _ [37, 38, 39, 6, 84, 85, 86, 87, 88, 89, 90, 91, 92, 93, 94, 95] (by decide +kernel) (by decide +kernel)
set_option maxRecDepth 20000 in
theorem gX7_run_X7_record : GoodIn wsX7_run (wsV RX7 37 RX7 yX7_record wsX7_record) := goodIn_app (goodIn_of _ (by decide +kernel)) ggX7_run_X7_record
set_option maxRecDepth 20000 in
theorem ggX7_run_X7_allSteps : GoodIn wsX7_run wsX7_allSteps := goodIn_r _ [43, 6, 44, 45, 46, 4, 47, 48, 49, 50, 51, 27, 28, 29, 30, 23, 24, 25, 26, 52, 53, 54, 55, 11, 12, 13, 14, 15, 16, 17, 18, 19, 20, 21, 22, 56, 57, 58, 59, 31, 32, 33, 60, 61, 62, 63, 64, 65, 66, 67, 68, 69, 70, 71, 72, 73, 74, 75, 76, 77, 78, 79, 80, 81, 82, 83, 84, 85, 86, 87, 88, 89, 90, 91, 92, 93, 94, 95] (by decide +kernel) (by decide +kernel)
set_option maxRecDepth 20000 in
theorem gX7_run_X7_allSteps : GoodIn wsX7_run (wsV RX7 121 RX7 yX7_allSteps wsX7_allSteps) := goodIn_app (goodIn_of _ (by decide +kernel)) ggX7_run_X7_allSteps
theorem dX7_run_0 : decode cX7_run 0 = .ok (.aload_n 0, 1) := by decide +kernel
theorem dX7_run_1 : decode cX7_run 1 = .ok (.invokevirtual 117, 3) := by decide +kernel
theorem dX7_run_4 : decode cX7_run 4 = .ok (.ifCond .ne 6, 3) := by decide +kernel
theorem dX7_run_7 : decode cX7_run 7 = .ok (.bipush (-3), 2) := by decide +kernel
theorem dX7_run_9 : decode cX7_run 9 = .ok (.ireturn, 1) := by decide +kernel
theorem dX7_run_10 : decode cX7_run 10 = .ok (.aload_n 0, 1) := by decide +kernel
theorem dX7_run_11 : decode cX7_run 11 = .ok (.invokevirtual 37, 3) := by decide +kernel
theorem dX7_run_14 : decode cX7_run 14 = .ok (.aload_n 0, 1) := by decide +kernel
theorem dX7_run_15 : decode cX7_run 15 = .ok (.invokevirtual 121, 3) := by decide +kernel
theorem dX7_run_18 : decode cX7_run 18 = .ok (.ireturn, 1) := by decide +kernel
theorem dX7_isMerging_0 : decode cX7_isMerging 0 = .ok (.aload_n 0, 1) := by decide +kernel
theorem dX7_isMerging_1 : decode cX7_isMerging 1 = .ok (.getfield 7, 3) := by decide +kernel
theorem dX7_isMerging_4 : decode cX7_isMerging 4 = .ok (.iconst 5, 1) := by decide +kernel
theorem dX7_isMerging_5 : decode cX7_isMerging 5 = .ok (.iaload, 1) := by decide +kernel
theorem dX7_isMerging_6 : decode cX7_isMerging 6 = .ok (.ireturn, 1) := by decide +kernel
set_option maxRecDepth 20000 in
theorem ggX7_isDone_X7_runMany : GoodIn wsX7_isDone wsX7_runMany := goodIn_r _ [6, 7, 8, 9, 5, 10, 11, 12, 13, 14, 1, 15, 16, 17, 18, 19, 20, 21, 22, 23, 24, 25, 26, 27, 28, 29, 30] (by decide +kernel) (by decide +kernel)
set_option maxRecDepth 20000 in
theorem gX7_isDone_X7_runMany : GoodIn wsX7_isDone (wsV RX7 74 RX7 yX7_runMany wsX7_runMany) := goodIn_app (goodIn_of _ (by decide +kernel)) ggX7_isDone_X7_runMany
theorem dX7_isDone_0 : decode cX7_isDone 0 = .ok (.aload_n 0, 1) := by decide +kernel
theorem dX7_isDone_1 : decode cX7_isDone 1 = .ok (.getfield 7, 3) := by decide +kernel
theorem dX7_isDone_4 : decode cX7_isDone 4 = .ok (.iconst 2, 1) := by decide +kernel
theorem dX7_isDone_5 : decode cX7_isDone 5 = .ok (.iaload, 1) := by decide +kernel
theorem dX7_isDone_6 : decode cX7_isDone 6 = .ok (.ifCond .ne 24, 3) := by decide +kernel
theorem dX7_isDone_9 : decode cX7_isDone 9 = .ok (.aload_n 0, 1) := by decide +kernel
theorem dX7_isDone_10 : decode cX7_isDone 10 = .ok (.getfield 7, 3) := by decide +kernel
theorem dX7_isDone_13 : decode cX7_isDone 13 = .ok (.iconst 5, 1) := by decide +kernel
theorem dX7_isDone_14 : decode cX7_isDone 14 = .ok (.iaload, 1) := by decide +kernel
theorem dX7_isDone_15 : decode cX7_isDone 15 = .ok (.ifCond .ne 15, 3) := by decide +kernel
theorem dX7_isDone_18 : decode cX7_isDone 18 = .ok (.aload_n 0, 1) := by decide +kernel
theorem dX7_isDone_19 : decode cX7_isDone 19 = .ok (.invokevirtual 74, 3) := by decide +kernel
theorem dX7_isDone_22 : decode cX7_isDone 22 = .ok (.iconst 2, 1) := by decide +kernel
theorem dX7_isDone_23 : decode cX7_isDone 23 = .ok (.if_icmp .ge 7, 3) := by decide +kernel
theorem dX7_isDone_26 : decode cX7_isDone 26 = .ok (.iconst 1, 1) := by decide +kernel
theorem dX7_isDone_27 : decode cX7_isDone 27 = .ok (.goto 4, 3) := by decide +kernel
theorem dX7_isDone_30 : decode cX7_isDone 30 = .ok (.iconst 0, 1) := by decide +kernel
theorem dX7_isDone_31 : decode cX7_isDone 31 = .ok (.ireturn, 1) := by decide +kernel
set_option maxRecDepth 20000 in
theorem ggX7_ofMerge_X7_in : GoodIn wsX7_ofMerge wsX7_in := goodIn_r _ [5] (by decide +kernel) (by decide +kernel)
set_option maxRecDepth 20000 in
theorem gX7_ofMerge_X7_in : GoodIn wsX7_ofMerge (va_wsS RX7 44 yX7_in wsX7_in) := goodIn_app (goodIn_of _ (by decide +kernel)) ggX7_ofMerge_X7_in
set_option maxRecDepth 20000 in
theorem ggX7_ofMerge_X7_inputsLeft : GoodIn wsX7_ofMerge wsX7_inputsLeft := goodIn_r _ [9, 10, 11, 12, 4, 13, 14, 15, 16, 17, 1, 18, 19, 20, 21, 34, 35, 36, 37, 38, 39, 40, 41, 42, 43, 44, 45] (by decide +kernel) (by decide +kernel)
set_option maxRecDepth 20000 in
theorem gX7_ofMerge_X7_inputsLeft : GoodIn wsX7_ofMerge (wsV RX7 77 RX7 yX7_inputsLeft wsX7_inputsLeft) := goodIn_app (goodIn_of _ (by decide +kernel)) ggX7_ofMerge_X7_inputsLeft
set_option maxRecDepth 20000 in
theorem ggX7_ofMerge_X7_rowsAt : GoodIn wsX7_ofMerge wsX7_rowsAt := goodIn_r _ [25, 1, 18, 19, 20, 4, 21, 34, 35, 36, 37, 38, 39, 40, 41, 42, 43, 44, 45] (by decide +kernel) (by decide +kernel)
set_option maxRecDepth 20000 in
theorem gX7_ofMerge_X7_rowsAt : GoodIn wsX7_ofMerge (wsV RX7 48 RX7 yX7_rowsAt wsX7_rowsAt) := goodIn_app (goodIn_of _ (by decide +kernel)) ggX7_ofMerge_X7_rowsAt
set_option maxRecDepth 20000 in
theorem ggX7_ofMerge_X7_rowsInInputs : GoodIn wsX7_ofMerge wsX7_rowsInInputs := goodIn_r _ [29, 1, 30, 31, 32, 4, 33, 18, 19, 20, 21, 34, 35, 36, 37, 38, 39, 40, 41, 42, 43, 44, 45] (by decide +kernel) (by decide +kernel)
set_option maxRecDepth 20000 in
theorem gX7_ofMerge_X7_rowsInInputs : GoodIn wsX7_ofMerge (wsV RX7 108 RX7 yX7_rowsInInputs wsX7_rowsInInputs) := goodIn_app (goodIn_of _ (by decide +kernel)) ggX7_ofMerge_X7_rowsInInputs
theorem dX7_ofMerge_0 : decode cX7_ofMerge 0 = .ok (.iload_n 1, 1) := by decide +kernel
theorem dX7_ofMerge_1 : decode cX7_ofMerge 1 = .ok (.iconst 0, 1) := by decide +kernel
theorem dX7_ofMerge_2 : decode cX7_ofMerge 2 = .ok (.iconst 3, 1) := by decide +kernel
theorem dX7_ofMerge_3 : decode cX7_ofMerge 3 = .ok (.invokestatic 44, 3) := by decide +kernel
theorem dX7_ofMerge_6 : decode cX7_ofMerge 6 = .ok (.ifCond .ne 6, 3) := by decide +kernel
theorem dX7_ofMerge_9 : decode cX7_ofMerge 9 = .ok (.bipush (-2), 2) := by decide +kernel
theorem dX7_ofMerge_11 : decode cX7_ofMerge 11 = .ok (.ireturn, 1) := by decide +kernel
theorem dX7_ofMerge_12 : decode cX7_ofMerge 12 = .ok (.aload_n 0, 1) := by decide +kernel
theorem dX7_ofMerge_13 : decode cX7_ofMerge 13 = .ok (.getfield 7, 3) := by decide +kernel
theorem dX7_ofMerge_16 : decode cX7_ofMerge 16 = .ok (.iconst 5, 1) := by decide +kernel
theorem dX7_ofMerge_17 : decode cX7_ofMerge 17 = .ok (.iaload, 1) := by decide +kernel
theorem dX7_ofMerge_18 : decode cX7_ofMerge 18 = .ok (.ifCond .ne 6, 3) := by decide +kernel
theorem dX7_ofMerge_21 : decode cX7_ofMerge 21 = .ok (.bipush (-6), 2) := by decide +kernel
theorem dX7_ofMerge_23 : decode cX7_ofMerge 23 = .ok (.ireturn, 1) := by decide +kernel
theorem dX7_ofMerge_24 : decode cX7_ofMerge 24 = .ok (.iload_n 1, 1) := by decide +kernel
theorem dX7_ofMerge_25 : decode cX7_ofMerge 25 = .ok (.ifCond .ne 13, 3) := by decide +kernel
theorem dX7_ofMerge_28 : decode cX7_ofMerge 28 = .ok (.aload_n 0, 1) := by decide +kernel
theorem dX7_ofMerge_29 : decode cX7_ofMerge 29 = .ok (.getfield 7, 3) := by decide +kernel
theorem dX7_ofMerge_32 : decode cX7_ofMerge 32 = .ok (.bipush 6, 2) := by decide +kernel
theorem dX7_ofMerge_34 : decode cX7_ofMerge 34 = .ok (.iaload, 1) := by decide +kernel
theorem dX7_ofMerge_35 : decode cX7_ofMerge 35 = .ok (.goto 32, 3) := by decide +kernel
theorem dX7_ofMerge_38 : decode cX7_ofMerge 38 = .ok (.iload_n 1, 1) := by decide +kernel
theorem dX7_ofMerge_39 : decode cX7_ofMerge 39 = .ok (.iconst 1, 1) := by decide +kernel
theorem dX7_ofMerge_40 : decode cX7_ofMerge 40 = .ok (.if_icmp .ne 10, 3) := by decide +kernel
theorem dX7_ofMerge_43 : decode cX7_ofMerge 43 = .ok (.aload_n 0, 1) := by decide +kernel
theorem dX7_ofMerge_44 : decode cX7_ofMerge 44 = .ok (.invokevirtual 77, 3) := by decide +kernel
theorem dX7_ofMerge_47 : decode cX7_ofMerge 47 = .ok (.goto 20, 3) := by decide +kernel
theorem dX7_ofMerge_50 : decode cX7_ofMerge 50 = .ok (.iload_n 1, 1) := by decide +kernel
theorem dX7_ofMerge_51 : decode cX7_ofMerge 51 = .ok (.iconst 2, 1) := by decide +kernel
theorem dX7_ofMerge_52 : decode cX7_ofMerge 52 = .ok (.if_icmp .ne 11, 3) := by decide +kernel
theorem dX7_ofMerge_55 : decode cX7_ofMerge 55 = .ok (.aload_n 0, 1) := by decide +kernel
theorem dX7_ofMerge_56 : decode cX7_ofMerge 56 = .ok (.iconst 2, 1) := by decide +kernel
theorem dX7_ofMerge_57 : decode cX7_ofMerge 57 = .ok (.invokevirtual 48, 3) := by decide +kernel
theorem dX7_ofMerge_60 : decode cX7_ofMerge 60 = .ok (.goto 7, 3) := by decide +kernel
theorem dX7_ofMerge_63 : decode cX7_ofMerge 63 = .ok (.aload_n 0, 1) := by decide +kernel
theorem dX7_ofMerge_64 : decode cX7_ofMerge 64 = .ok (.invokevirtual 108, 3) := by decide +kernel
theorem dX7_ofMerge_67 : decode cX7_ofMerge 67 = .ok (.ireturn, 1) := by decide +kernel
set_option maxRecDepth 20000 in
theorem ggX7_runs_X7_runMany : GoodIn wsX7_runs wsX7_runMany := goodIn_r _ [5, 6, 7, 8, 4, 9, 10, 11, 12, 13, 14, 15, 16, 17, 18, 19, 20, 21, 22, 23, 24, 25, 26, 27, 28, 29, 30] (by decide +kernel) (by decide +kernel)
set_option maxRecDepth 20000 in
theorem gX7_runs_X7_runMany : GoodIn wsX7_runs (wsV RX7 74 RX7 yX7_runMany wsX7_runMany) := goodIn_app (goodIn_of _ (by decide +kernel)) ggX7_runs_X7_runMany
theorem dX7_runs_0 : decode cX7_runs 0 = .ok (.aload_n 0, 1) := by decide +kernel
theorem dX7_runs_1 : decode cX7_runs 1 = .ok (.invokevirtual 74, 3) := by decide +kernel
theorem dX7_runs_4 : decode cX7_runs 4 = .ok (.ireturn, 1) := by decide +kernel
set_option maxRecDepth 20000 in
theorem ggX7_runAt_X7_nextPlace : GoodIn wsX7_runAt wsX7_nextPlace := goodIn_r _ [5, 6, 7, 8, 9, 4, 10, 11, 12, 13, 14, 15, 16, 17, 18, 19, 20, 21, 22] (by decide +kernel) (by decide +kernel)
set_option maxRecDepth 20000 in
theorem gX7_runAt_X7_nextPlace : GoodIn wsX7_runAt (wsV RX7 51 RX7 yX7_nextPlace wsX7_nextPlace) := goodIn_app (goodIn_of _ (by decide +kernel)) ggX7_runAt_X7_nextPlace
theorem dX7_runAt_0 : decode cX7_runAt 0 = .ok (.iload_n 1, 1) := by decide +kernel
theorem dX7_runAt_1 : decode cX7_runAt 1 = .ok (.istore_n 2, 1) := by decide +kernel
theorem dX7_runAt_2 : decode cX7_runAt 2 = .ok (.aload_n 0, 1) := by decide +kernel
theorem dX7_runAt_3 : decode cX7_runAt 3 = .ok (.iconst 0, 1) := by decide +kernel
theorem dX7_runAt_4 : decode cX7_runAt 4 = .ok (.iconst 0, 1) := by decide +kernel
theorem dX7_runAt_5 : decode cX7_runAt 5 = .ok (.invokevirtual 51, 3) := by decide +kernel
theorem dX7_runAt_8 : decode cX7_runAt 8 = .ok (.istore_n 3, 1) := by decide +kernel
theorem dX7_runAt_9 : decode cX7_runAt 9 = .ok (.iload_n 3, 1) := by decide +kernel
theorem dX7_runAt_10 : decode cX7_runAt 10 = .ok (.bipush (-6), 2) := by decide +kernel
theorem dX7_runAt_12 : decode cX7_runAt 12 = .ok (.if_icmp .eq 31, 3) := by decide +kernel
theorem dX7_runAt_15 : decode cX7_runAt 15 = .ok (.iload_n 1, 1) := by decide +kernel
theorem dX7_runAt_16 : decode cX7_runAt 16 = .ok (.ifCond .lt 27, 3) := by decide +kernel
theorem dX7_runAt_19 : decode cX7_runAt 19 = .ok (.iload_n 2, 1) := by decide +kernel
theorem dX7_runAt_20 : decode cX7_runAt 20 = .ok (.ifCond .ne 10, 3) := by decide +kernel
theorem dX7_runAt_23 : decode cX7_runAt 23 = .ok (.iload_n 3, 1) := by decide +kernel
theorem dX7_runAt_24 : decode cX7_runAt 24 = .ok (.bipush 10, 2) := by decide +kernel
theorem dX7_runAt_26 : decode cX7_runAt 26 = .ok (.isub, 1) := by decide +kernel
theorem dX7_runAt_27 : decode cX7_runAt 27 = .ok (.iconst 2, 1) := by decide +kernel
theorem dX7_runAt_28 : decode cX7_runAt 28 = .ok (.idiv, 1) := by decide +kernel
theorem dX7_runAt_29 : decode cX7_runAt 29 = .ok (.ireturn, 1) := by decide +kernel
theorem dX7_runAt_30 : decode cX7_runAt 30 = .ok (.iinc 2 (-1), 3) := by decide +kernel
theorem dX7_runAt_33 : decode cX7_runAt 33 = .ok (.aload_n 0, 1) := by decide +kernel
theorem dX7_runAt_34 : decode cX7_runAt 34 = .ok (.iload_n 3, 1) := by decide +kernel
theorem dX7_runAt_35 : decode cX7_runAt 35 = .ok (.iconst 0, 1) := by decide +kernel
theorem dX7_runAt_36 : decode cX7_runAt 36 = .ok (.invokevirtual 51, 3) := by decide +kernel
theorem dX7_runAt_39 : decode cX7_runAt 39 = .ok (.istore_n 3, 1) := by decide +kernel
theorem dX7_runAt_40 : decode cX7_runAt 40 = .ok (.goto (-31), 3) := by decide +kernel
theorem dX7_runAt_43 : decode cX7_runAt 43 = .ok (.iconst (-1), 1) := by decide +kernel
theorem dX7_runAt_44 : decode cX7_runAt 44 = .ok (.ireturn, 1) := by decide +kernel
set_option maxRecDepth 20000 in
theorem ggX7_size_X7_isRun : GoodIn wsX7_size wsX7_isRun := goodIn_r _ [5, 6, 7, 8, 4, 9, 10, 11, 12, 13, 14, 15, 16, 17, 18, 19, 20, 21, 22, 23, 24, 25, 26, 27, 28, 29] (by decide +kernel) (by decide +kernel)
set_option maxRecDepth 20000 in
theorem gX7_size_X7_isRun : GoodIn wsX7_size (wsV RX7 124 RX7 yX7_isRun wsX7_isRun) := goodIn_app (goodIn_of _ (by decide +kernel)) ggX7_size_X7_isRun
set_option maxRecDepth 20000 in
theorem ggX7_size_X7_rowsAt : GoodIn wsX7_size wsX7_rowsAt := goodIn_r _ [13, 6, 14, 15, 16, 4, 17, 18, 19, 20, 21, 22, 23, 24, 25, 26, 27, 28, 29] (by decide +kernel) (by decide +kernel)
set_option maxRecDepth 20000 in
theorem gX7_size_X7_rowsAt : GoodIn wsX7_size (wsV RX7 48 RX7 yX7_rowsAt wsX7_rowsAt) := goodIn_app (goodIn_of _ (by decide +kernel)) ggX7_size_X7_rowsAt
theorem dX7_size_0 : decode cX7_size 0 = .ok (.aload_n 0, 1) := by decide +kernel
theorem dX7_size_1 : decode cX7_size 1 = .ok (.iload_n 1, 1) := by decide +kernel
theorem dX7_size_2 : decode cX7_size 2 = .ok (.invokevirtual 124, 3) := by decide +kernel
theorem dX7_size_5 : decode cX7_size 5 = .ok (.ifCond .eq 16, 3) := by decide +kernel
theorem dX7_size_8 : decode cX7_size 8 = .ok (.aload_n 0, 1) := by decide +kernel
theorem dX7_size_9 : decode cX7_size 9 = .ok (.bipush 10, 2) := by decide +kernel
theorem dX7_size_11 : decode cX7_size 11 = .ok (.iconst 2, 1) := by decide +kernel
theorem dX7_size_12 : decode cX7_size 12 = .ok (.iload_n 1, 1) := by decide +kernel
theorem dX7_size_13 : decode cX7_size 13 = .ok (.imul, 1) := by decide +kernel
theorem dX7_size_14 : decode cX7_size 14 = .ok (.iadd, 1) := by decide +kernel
theorem dX7_size_15 : decode cX7_size 15 = .ok (.invokevirtual 48, 3) := by decide +kernel
theorem dX7_size_18 : decode cX7_size 18 = .ok (.goto 4, 3) := by decide +kernel
theorem dX7_size_21 : decode cX7_size 21 = .ok (.iconst (-1), 1) := by decide +kernel
theorem dX7_size_22 : decode cX7_size 22 = .ok (.ireturn, 1) := by decide +kernel
set_option maxRecDepth 20000 in
theorem ggX7_before_X7_place : GoodIn wsX7_before wsX7_place := goodIn_r _ [6, 1, 7, 8, 9, 10, 11, 12, 13, 14, 15, 16, 17, 18] (by decide +kernel) (by decide +kernel)
set_option maxRecDepth 20000 in
theorem gX7_before_X7_place : GoodIn wsX7_before (wsV RX7 40 RX7 yX7_place wsX7_place) := goodIn_app (goodIn_of _ (by decide +kernel)) ggX7_before_X7_place
theorem dX7_before_0 : decode cX7_before 0 = .ok (.iconst 0, 1) := by decide +kernel
theorem dX7_before_1 : decode cX7_before 1 = .ok (.istore_n 2, 1) := by decide +kernel
theorem dX7_before_2 : decode cX7_before 2 = .ok (.iconst 0, 1) := by decide +kernel
theorem dX7_before_3 : decode cX7_before 3 = .ok (.istore_n 3, 1) := by decide +kernel
theorem dX7_before_4 : decode cX7_before 4 = .ok (.iload_n 3, 1) := by decide +kernel
theorem dX7_before_5 : decode cX7_before 5 = .ok (.aload_n 0, 1) := by decide +kernel
theorem dX7_before_6 : decode cX7_before 6 = .ok (.getfield 7, 3) := by decide +kernel
theorem dX7_before_9 : decode cX7_before 9 = .ok (.iconst 3, 1) := by decide +kernel
theorem dX7_before_10 : decode cX7_before 10 = .ok (.iaload, 1) := by decide +kernel
theorem dX7_before_11 : decode cX7_before 11 = .ok (.if_icmp .ge 89, 3) := by decide +kernel
theorem dX7_before_14 : decode cX7_before 14 = .ok (.aload_n 0, 1) := by decide +kernel
theorem dX7_before_15 : decode cX7_before 15 = .ok (.getfield 7, 3) := by decide +kernel
theorem dX7_before_18 : decode cX7_before 18 = .ok (.bipush 10, 2) := by decide +kernel
theorem dX7_before_20 : decode cX7_before 20 = .ok (.iload_n 3, 1) := by decide +kernel
theorem dX7_before_21 : decode cX7_before 21 = .ok (.iadd, 1) := by decide +kernel
theorem dX7_before_22 : decode cX7_before 22 = .ok (.iaload, 1) := by decide +kernel
theorem dX7_before_23 : decode cX7_before 23 = .ok (.aload_n 0, 1) := by decide +kernel
theorem dX7_before_24 : decode cX7_before 24 = .ok (.getfield 7, 3) := by decide +kernel
theorem dX7_before_27 : decode cX7_before 27 = .ok (.bipush 10, 2) := by decide +kernel
theorem dX7_before_29 : decode cX7_before 29 = .ok (.iload_n 1, 1) := by decide +kernel
theorem dX7_before_30 : decode cX7_before 30 = .ok (.iadd, 1) := by decide +kernel
theorem dX7_before_31 : decode cX7_before 31 = .ok (.iaload, 1) := by decide +kernel
theorem dX7_before_32 : decode cX7_before 32 = .ok (.if_icmp .lt 29, 3) := by decide +kernel
theorem dX7_before_35 : decode cX7_before 35 = .ok (.aload_n 0, 1) := by decide +kernel
theorem dX7_before_36 : decode cX7_before 36 = .ok (.getfield 7, 3) := by decide +kernel
theorem dX7_before_39 : decode cX7_before 39 = .ok (.bipush 10, 2) := by decide +kernel
theorem dX7_before_41 : decode cX7_before 41 = .ok (.iload_n 3, 1) := by decide +kernel
theorem dX7_before_42 : decode cX7_before 42 = .ok (.iadd, 1) := by decide +kernel
theorem dX7_before_43 : decode cX7_before 43 = .ok (.iaload, 1) := by decide +kernel
theorem dX7_before_44 : decode cX7_before 44 = .ok (.aload_n 0, 1) := by decide +kernel
theorem dX7_before_45 : decode cX7_before 45 = .ok (.getfield 7, 3) := by decide +kernel
theorem dX7_before_48 : decode cX7_before 48 = .ok (.bipush 10, 2) := by decide +kernel
theorem dX7_before_50 : decode cX7_before 50 = .ok (.iload_n 1, 1) := by decide +kernel
theorem dX7_before_51 : decode cX7_before 51 = .ok (.iadd, 1) := by decide +kernel
theorem dX7_before_52 : decode cX7_before 52 = .ok (.iaload, 1) := by decide +kernel
theorem dX7_before_53 : decode cX7_before 53 = .ok (.if_icmp .ne 12, 3) := by decide +kernel
theorem dX7_before_56 : decode cX7_before 56 = .ok (.iload_n 3, 1) := by decide +kernel
theorem dX7_before_57 : decode cX7_before 57 = .ok (.iload_n 1, 1) := by decide +kernel
theorem dX7_before_58 : decode cX7_before 58 = .ok (.if_icmp .ge 7, 3) := by decide +kernel
theorem dX7_before_61 : decode cX7_before 61 = .ok (.iconst 1, 1) := by decide +kernel
theorem dX7_before_62 : decode cX7_before 62 = .ok (.goto 4, 3) := by decide +kernel
theorem dX7_before_65 : decode cX7_before 65 = .ok (.iconst 0, 1) := by decide +kernel
theorem dX7_before_66 : decode cX7_before 66 = .ok (.istore 4, 2) := by decide +kernel
theorem dX7_before_68 : decode cX7_before 68 = .ok (.iload_n 2, 1) := by decide +kernel
theorem dX7_before_69 : decode cX7_before 69 = .ok (.aload_n 0, 1) := by decide +kernel
theorem dX7_before_70 : decode cX7_before 70 = .ok (.iload_n 3, 1) := by decide +kernel
theorem dX7_before_71 : decode cX7_before 71 = .ok (.invokevirtual 40, 3) := by decide +kernel
theorem dX7_before_74 : decode cX7_before 74 = .ok (.aload_n 0, 1) := by decide +kernel
theorem dX7_before_75 : decode cX7_before 75 = .ok (.iload_n 1, 1) := by decide +kernel
theorem dX7_before_76 : decode cX7_before 76 = .ok (.invokevirtual 40, 3) := by decide +kernel
theorem dX7_before_79 : decode cX7_before 79 = .ok (.if_icmp .ne 12, 3) := by decide +kernel
theorem dX7_before_82 : decode cX7_before 82 = .ok (.iload 4, 2) := by decide +kernel
theorem dX7_before_84 : decode cX7_before 84 = .ok (.ifCond .eq 7, 3) := by decide +kernel
theorem dX7_before_87 : decode cX7_before 87 = .ok (.iconst 1, 1) := by decide +kernel
theorem dX7_before_88 : decode cX7_before 88 = .ok (.goto 4, 3) := by decide +kernel
theorem dX7_before_91 : decode cX7_before 91 = .ok (.iconst 0, 1) := by decide +kernel
theorem dX7_before_92 : decode cX7_before 92 = .ok (.iadd, 1) := by decide +kernel
theorem dX7_before_93 : decode cX7_before 93 = .ok (.istore_n 2, 1) := by decide +kernel
theorem dX7_before_94 : decode cX7_before 94 = .ok (.iinc 3 1, 3) := by decide +kernel
theorem dX7_before_97 : decode cX7_before 97 = .ok (.goto (-93), 3) := by decide +kernel
theorem dX7_before_100 : decode cX7_before 100 = .ok (.iload_n 2, 1) := by decide +kernel
theorem dX7_before_101 : decode cX7_before 101 = .ok (.ireturn, 1) := by decide +kernel
set_option maxRecDepth 20000 in
theorem ggX7_row_X7_isRun : GoodIn wsX7_row wsX7_isRun := goodIn_r _ [6, 1, 7, 8, 5, 9, 10, 11, 12, 13, 14, 15, 16, 17, 22, 23, 24, 25, 26, 27, 28, 29, 30, 31, 32, 33] (by decide +kernel) (by decide +kernel)
set_option maxRecDepth 20000 in
theorem gX7_row_X7_isRun : GoodIn wsX7_row (wsV RX7 124 RX7 yX7_isRun wsX7_isRun) := goodIn_app (goodIn_of _ (by decide +kernel)) ggX7_row_X7_isRun
set_option maxRecDepth 20000 in
theorem ggX7_row_X7_rowsAt : GoodIn wsX7_row wsX7_rowsAt := goodIn_r _ [13, 1, 14, 15, 16, 5, 17, 22, 23, 24, 25, 26, 27, 28, 29, 30, 31, 32, 33] (by decide +kernel) (by decide +kernel)
set_option maxRecDepth 20000 in
theorem gX7_row_X7_rowsAt : GoodIn wsX7_row (wsV RX7 48 RX7 yX7_rowsAt wsX7_rowsAt) := goodIn_app (goodIn_of _ (by decide +kernel)) ggX7_row_X7_rowsAt
set_option maxRecDepth 20000 in
theorem ggX7_row_X7_in : GoodIn wsX7_row wsX7_in := goodIn_r _ [9] (by decide +kernel) (by decide +kernel)
set_option maxRecDepth 20000 in
theorem gX7_row_X7_in : GoodIn wsX7_row (va_wsS RX7 44 yX7_in wsX7_in) := goodIn_app (goodIn_of _ (by decide +kernel)) ggX7_row_X7_in
set_option maxRecDepth 20000 in
theorem ggX7_row_X7_place : GoodIn wsX7_row wsX7_place := goodIn_r _ [17, 1, 22, 23, 24, 25, 26, 27, 28, 29, 30, 31, 32, 33] (by decide +kernel) (by decide +kernel)
set_option maxRecDepth 20000 in
theorem gX7_row_X7_place : GoodIn wsX7_row (wsV RX7 40 RX7 yX7_place wsX7_place) := goodIn_app (goodIn_of _ (by decide +kernel)) ggX7_row_X7_place
set_option maxRecDepth 20000 in
theorem ggX7_row_X7_before : GoodIn wsX7_row wsX7_before := goodIn_r _ [21, 1, 14, 15, 16, 5, 17, 22, 23, 24, 25, 26, 27, 28, 29, 30, 31, 32, 33] (by decide +kernel) (by decide +kernel)
set_option maxRecDepth 20000 in
theorem gX7_row_X7_before : GoodIn wsX7_row (wsV RX7 127 RX7 yX7_before wsX7_before) := goodIn_app (goodIn_of _ (by decide +kernel)) ggX7_row_X7_before
theorem dX7_row_0 : decode cX7_row 0 = .ok (.aload_n 0, 1) := by decide +kernel
theorem dX7_row_1 : decode cX7_row 1 = .ok (.iload_n 1, 1) := by decide +kernel
theorem dX7_row_2 : decode cX7_row 2 = .ok (.invokevirtual 124, 3) := by decide +kernel
theorem dX7_row_5 : decode cX7_row 5 = .ok (.ifCond .eq 23, 3) := by decide +kernel
theorem dX7_row_8 : decode cX7_row 8 = .ok (.iload_n 2, 1) := by decide +kernel
theorem dX7_row_9 : decode cX7_row 9 = .ok (.iconst 0, 1) := by decide +kernel
theorem dX7_row_10 : decode cX7_row 10 = .ok (.aload_n 0, 1) := by decide +kernel
theorem dX7_row_11 : decode cX7_row 11 = .ok (.bipush 10, 2) := by decide +kernel
theorem dX7_row_13 : decode cX7_row 13 = .ok (.iconst 2, 1) := by decide +kernel
theorem dX7_row_14 : decode cX7_row 14 = .ok (.iload_n 1, 1) := by decide +kernel
theorem dX7_row_15 : decode cX7_row 15 = .ok (.imul, 1) := by decide +kernel
theorem dX7_row_16 : decode cX7_row 16 = .ok (.iadd, 1) := by decide +kernel
theorem dX7_row_17 : decode cX7_row 17 = .ok (.invokevirtual 48, 3) := by decide +kernel
theorem dX7_row_20 : decode cX7_row 20 = .ok (.iconst 1, 1) := by decide +kernel
theorem dX7_row_21 : decode cX7_row 21 = .ok (.isub, 1) := by decide +kernel
theorem dX7_row_22 : decode cX7_row 22 = .ok (.invokestatic 44, 3) := by decide +kernel
theorem dX7_row_25 : decode cX7_row 25 = .ok (.ifCond .ne 5, 3) := by decide +kernel
theorem dX7_row_28 : decode cX7_row 28 = .ok (.iconst (-1), 1) := by decide +kernel
theorem dX7_row_29 : decode cX7_row 29 = .ok (.ireturn, 1) := by decide +kernel
theorem dX7_row_30 : decode cX7_row 30 = .ok (.bipush (-6), 2) := by decide +kernel
theorem dX7_row_32 : decode cX7_row 32 = .ok (.istore 4, 2) := by decide +kernel
theorem dX7_row_34 : decode cX7_row 34 = .ok (.iconst 0, 1) := by decide +kernel
theorem dX7_row_35 : decode cX7_row 35 = .ok (.istore 5, 2) := by decide +kernel
theorem dX7_row_37 : decode cX7_row 37 = .ok (.iload 5, 2) := by decide +kernel
theorem dX7_row_39 : decode cX7_row 39 = .ok (.aload_n 0, 1) := by decide +kernel
theorem dX7_row_40 : decode cX7_row 40 = .ok (.getfield 7, 3) := by decide +kernel
theorem dX7_row_43 : decode cX7_row 43 = .ok (.iconst 3, 1) := by decide +kernel
theorem dX7_row_44 : decode cX7_row 44 = .ok (.iaload, 1) := by decide +kernel
theorem dX7_row_45 : decode cX7_row 45 = .ok (.if_icmp .ge 43, 3) := by decide +kernel
theorem dX7_row_48 : decode cX7_row 48 = .ok (.aload_n 0, 1) := by decide +kernel
theorem dX7_row_49 : decode cX7_row 49 = .ok (.iload 5, 2) := by decide +kernel
theorem dX7_row_51 : decode cX7_row 51 = .ok (.invokevirtual 40, 3) := by decide +kernel
theorem dX7_row_54 : decode cX7_row 54 = .ok (.bipush 10, 2) := by decide +kernel
theorem dX7_row_56 : decode cX7_row 56 = .ok (.iconst 2, 1) := by decide +kernel
theorem dX7_row_57 : decode cX7_row 57 = .ok (.iload_n 1, 1) := by decide +kernel
theorem dX7_row_58 : decode cX7_row 58 = .ok (.imul, 1) := by decide +kernel
theorem dX7_row_59 : decode cX7_row 59 = .ok (.iadd, 1) := by decide +kernel
theorem dX7_row_60 : decode cX7_row 60 = .ok (.if_icmp .ne 18, 3) := by decide +kernel
theorem dX7_row_63 : decode cX7_row 63 = .ok (.aload_n 0, 1) := by decide +kernel
theorem dX7_row_64 : decode cX7_row 64 = .ok (.iload 5, 2) := by decide +kernel
theorem dX7_row_66 : decode cX7_row 66 = .ok (.invokevirtual 127, 3) := by decide +kernel
theorem dX7_row_69 : decode cX7_row 69 = .ok (.iload_n 2, 1) := by decide +kernel
theorem dX7_row_70 : decode cX7_row 70 = .ok (.if_icmp .ne 8, 3) := by decide +kernel
theorem dX7_row_73 : decode cX7_row 73 = .ok (.iload 5, 2) := by decide +kernel
theorem dX7_row_75 : decode cX7_row 75 = .ok (.goto 5, 3) := by decide +kernel
theorem dX7_row_78 : decode cX7_row 78 = .ok (.iload 4, 2) := by decide +kernel
theorem dX7_row_80 : decode cX7_row 80 = .ok (.istore 4, 2) := by decide +kernel
theorem dX7_row_82 : decode cX7_row 82 = .ok (.iinc 5 1, 3) := by decide +kernel
theorem dX7_row_85 : decode cX7_row 85 = .ok (.goto (-48), 3) := by decide +kernel
theorem dX7_row_88 : decode cX7_row 88 = .ok (.iload_n 3, 1) := by decide +kernel
theorem dX7_row_89 : decode cX7_row 89 = .ok (.tableswitch 53 0 2 #[27, 38, 41], 27) := by decide +kernel
theorem dX7_row_116 : decode cX7_row 116 = .ok (.aload_n 0, 1) := by decide +kernel
theorem dX7_row_117 : decode cX7_row 117 = .ok (.getfield 7, 3) := by decide +kernel
theorem dX7_row_120 : decode cX7_row 120 = .ok (.bipush 10, 2) := by decide +kernel
theorem dX7_row_122 : decode cX7_row 122 = .ok (.iload 4, 2) := by decide +kernel
theorem dX7_row_124 : decode cX7_row 124 = .ok (.iadd, 1) := by decide +kernel
theorem dX7_row_125 : decode cX7_row 125 = .ok (.iaload, 1) := by decide +kernel
theorem dX7_row_126 : decode cX7_row 126 = .ok (.ireturn, 1) := by decide +kernel
theorem dX7_row_127 : decode cX7_row 127 = .ok (.iload 4, 2) := by decide +kernel
theorem dX7_row_129 : decode cX7_row 129 = .ok (.ireturn, 1) := by decide +kernel
theorem dX7_row_130 : decode cX7_row 130 = .ok (.aload_n 0, 1) := by decide +kernel
theorem dX7_row_131 : decode cX7_row 131 = .ok (.getfield 7, 3) := by decide +kernel
theorem dX7_row_134 : decode cX7_row 134 = .ok (.sipush 130, 3) := by decide +kernel
theorem dX7_row_137 : decode cX7_row 137 = .ok (.iload 4, 2) := by decide +kernel
theorem dX7_row_139 : decode cX7_row 139 = .ok (.iadd, 1) := by decide +kernel
theorem dX7_row_140 : decode cX7_row 140 = .ok (.iaload, 1) := by decide +kernel
theorem dX7_row_141 : decode cX7_row 141 = .ok (.ireturn, 1) := by decide +kernel
theorem dX7_row_142 : decode cX7_row 142 = .ok (.bipush (-2), 2) := by decide +kernel
theorem dX7_row_144 : decode cX7_row 144 = .ok (.ireturn, 1) := by decide +kernel
set_option maxRecDepth 20000 in
theorem ggX7_rowsThere_X7_place : GoodIn wsX7_rowsThere wsX7_place := goodIn_r _ [6, 1, 7, 8, 9, 10, 11, 12, 13, 14, 15, 16, 17, 18] (by decide +kernel) (by decide +kernel)
set_option maxRecDepth 20000 in
theorem gX7_rowsThere_X7_place : GoodIn wsX7_rowsThere (wsV RX7 40 RX7 yX7_place wsX7_place) := goodIn_app (goodIn_of _ (by decide +kernel)) ggX7_rowsThere_X7_place
theorem dX7_rowsThere_0 : decode cX7_rowsThere 0 = .ok (.iconst 0, 1) := by decide +kernel
theorem dX7_rowsThere_1 : decode cX7_rowsThere 1 = .ok (.istore_n 1, 1) := by decide +kernel
theorem dX7_rowsThere_2 : decode cX7_rowsThere 2 = .ok (.iconst 0, 1) := by decide +kernel
theorem dX7_rowsThere_3 : decode cX7_rowsThere 3 = .ok (.istore_n 2, 1) := by decide +kernel
theorem dX7_rowsThere_4 : decode cX7_rowsThere 4 = .ok (.iload_n 2, 1) := by decide +kernel
theorem dX7_rowsThere_5 : decode cX7_rowsThere 5 = .ok (.aload_n 0, 1) := by decide +kernel
theorem dX7_rowsThere_6 : decode cX7_rowsThere 6 = .ok (.getfield 7, 3) := by decide +kernel
theorem dX7_rowsThere_9 : decode cX7_rowsThere 9 = .ok (.iconst 3, 1) := by decide +kernel
theorem dX7_rowsThere_10 : decode cX7_rowsThere 10 = .ok (.iaload, 1) := by decide +kernel
theorem dX7_rowsThere_11 : decode cX7_rowsThere 11 = .ok (.if_icmp .ge 25, 3) := by decide +kernel
theorem dX7_rowsThere_14 : decode cX7_rowsThere 14 = .ok (.iload_n 1, 1) := by decide +kernel
theorem dX7_rowsThere_15 : decode cX7_rowsThere 15 = .ok (.aload_n 0, 1) := by decide +kernel
theorem dX7_rowsThere_16 : decode cX7_rowsThere 16 = .ok (.iload_n 2, 1) := by decide +kernel
theorem dX7_rowsThere_17 : decode cX7_rowsThere 17 = .ok (.invokevirtual 40, 3) := by decide +kernel
theorem dX7_rowsThere_20 : decode cX7_rowsThere 20 = .ok (.ifCond .le 7, 3) := by decide +kernel
theorem dX7_rowsThere_23 : decode cX7_rowsThere 23 = .ok (.iconst 1, 1) := by decide +kernel
theorem dX7_rowsThere_24 : decode cX7_rowsThere 24 = .ok (.goto 4, 3) := by decide +kernel
theorem dX7_rowsThere_27 : decode cX7_rowsThere 27 = .ok (.iconst 0, 1) := by decide +kernel
theorem dX7_rowsThere_28 : decode cX7_rowsThere 28 = .ok (.iadd, 1) := by decide +kernel
theorem dX7_rowsThere_29 : decode cX7_rowsThere 29 = .ok (.istore_n 1, 1) := by decide +kernel
theorem dX7_rowsThere_30 : decode cX7_rowsThere 30 = .ok (.iinc 2 1, 3) := by decide +kernel
theorem dX7_rowsThere_33 : decode cX7_rowsThere 33 = .ok (.goto (-29), 3) := by decide +kernel
theorem dX7_rowsThere_36 : decode cX7_rowsThere 36 = .ok (.iload_n 1, 1) := by decide +kernel
theorem dX7_rowsThere_37 : decode cX7_rowsThere 37 = .ok (.ireturn, 1) := by decide +kernel
theorem dX7_below_0 : decode cX7_below 0 = .ok (.iconst 0, 1) := by decide +kernel
theorem dX7_below_1 : decode cX7_below 1 = .ok (.istore_n 2, 1) := by decide +kernel
theorem dX7_below_2 : decode cX7_below 2 = .ok (.iconst 0, 1) := by decide +kernel
theorem dX7_below_3 : decode cX7_below 3 = .ok (.istore_n 3, 1) := by decide +kernel
theorem dX7_below_4 : decode cX7_below 4 = .ok (.iload_n 3, 1) := by decide +kernel
theorem dX7_below_5 : decode cX7_below 5 = .ok (.aload_n 0, 1) := by decide +kernel
theorem dX7_below_6 : decode cX7_below 6 = .ok (.getfield 7, 3) := by decide +kernel
theorem dX7_below_9 : decode cX7_below 9 = .ok (.iconst 3, 1) := by decide +kernel
theorem dX7_below_10 : decode cX7_below 10 = .ok (.iaload, 1) := by decide +kernel
theorem dX7_below_11 : decode cX7_below 11 = .ok (.if_icmp .ge 39, 3) := by decide +kernel
theorem dX7_below_14 : decode cX7_below 14 = .ok (.iload_n 2, 1) := by decide +kernel
theorem dX7_below_15 : decode cX7_below 15 = .ok (.aload_n 0, 1) := by decide +kernel
theorem dX7_below_16 : decode cX7_below 16 = .ok (.getfield 7, 3) := by decide +kernel
theorem dX7_below_19 : decode cX7_below 19 = .ok (.bipush 10, 2) := by decide +kernel
theorem dX7_below_21 : decode cX7_below 21 = .ok (.iload_n 3, 1) := by decide +kernel
theorem dX7_below_22 : decode cX7_below 22 = .ok (.iadd, 1) := by decide +kernel
theorem dX7_below_23 : decode cX7_below 23 = .ok (.iaload, 1) := by decide +kernel
theorem dX7_below_24 : decode cX7_below 24 = .ok (.iload_n 1, 1) := by decide +kernel
theorem dX7_below_25 : decode cX7_below 25 = .ok (.if_icmp .ge 16, 3) := by decide +kernel
theorem dX7_below_28 : decode cX7_below 28 = .ok (.aload_n 0, 1) := by decide +kernel
theorem dX7_below_29 : decode cX7_below 29 = .ok (.getfield 7, 3) := by decide +kernel
theorem dX7_below_32 : decode cX7_below 32 = .ok (.sipush 130, 3) := by decide +kernel
theorem dX7_below_35 : decode cX7_below 35 = .ok (.iload_n 3, 1) := by decide +kernel
theorem dX7_below_36 : decode cX7_below 36 = .ok (.iadd, 1) := by decide +kernel
theorem dX7_below_37 : decode cX7_below 37 = .ok (.iaload, 1) := by decide +kernel
theorem dX7_below_38 : decode cX7_below 38 = .ok (.goto 4, 3) := by decide +kernel
theorem dX7_below_41 : decode cX7_below 41 = .ok (.iconst 0, 1) := by decide +kernel
theorem dX7_below_42 : decode cX7_below 42 = .ok (.iadd, 1) := by decide +kernel
theorem dX7_below_43 : decode cX7_below 43 = .ok (.istore_n 2, 1) := by decide +kernel
theorem dX7_below_44 : decode cX7_below 44 = .ok (.iinc 3 1, 3) := by decide +kernel
theorem dX7_below_47 : decode cX7_below 47 = .ok (.goto (-43), 3) := by decide +kernel
theorem dX7_below_50 : decode cX7_below 50 = .ok (.iload_n 2, 1) := by decide +kernel
theorem dX7_below_51 : decode cX7_below 51 = .ok (.ireturn, 1) := by decide +kernel
set_option maxRecDepth 20000 in
theorem ggX7_count_X7_rowsThere : GoodIn wsX7_count wsX7_rowsThere := goodIn_r _ [6, 1, 7, 8, 9, 5, 10, 15, 16, 17, 18, 19, 20, 21, 22, 23, 24, 25, 26] (by decide +kernel) (by decide +kernel)
set_option maxRecDepth 20000 in
theorem gX7_count_X7_rowsThere : GoodIn wsX7_count (wsV RX7 130 RX7 yX7_rowsThere wsX7_rowsThere) := goodIn_app (goodIn_of _ (by decide +kernel)) ggX7_count_X7_rowsThere
set_option maxRecDepth 20000 in
theorem ggX7_count_X7_below : GoodIn wsX7_count wsX7_below := goodIn_r _ [14, 1, 15, 16, 17, 18, 19, 20, 21, 22, 23, 24, 25, 26] (by decide +kernel) (by decide +kernel)
set_option maxRecDepth 20000 in
theorem gX7_count_X7_below : GoodIn wsX7_count (wsV RX7 133 RX7 yX7_below wsX7_below) := goodIn_app (goodIn_of _ (by decide +kernel)) ggX7_count_X7_below
theorem dX7_count_0 : decode cX7_count 0 = .ok (.iload_n 1, 1) := by decide +kernel
theorem dX7_count_1 : decode cX7_count 1 = .ok (.tableswitch 94 0 6 #[43, 50, 55, 63, 71, 79, 87], 43) := by decide +kernel
theorem dX7_count_44 : decode cX7_count 44 = .ok (.aload_n 0, 1) := by decide +kernel
theorem dX7_count_45 : decode cX7_count 45 = .ok (.getfield 7, 3) := by decide +kernel
theorem dX7_count_48 : decode cX7_count 48 = .ok (.iconst 3, 1) := by decide +kernel
theorem dX7_count_49 : decode cX7_count 49 = .ok (.iaload, 1) := by decide +kernel
theorem dX7_count_50 : decode cX7_count 50 = .ok (.ireturn, 1) := by decide +kernel
theorem dX7_count_51 : decode cX7_count 51 = .ok (.aload_n 0, 1) := by decide +kernel
theorem dX7_count_52 : decode cX7_count 52 = .ok (.invokevirtual 130, 3) := by decide +kernel
theorem dX7_count_55 : decode cX7_count 55 = .ok (.ireturn, 1) := by decide +kernel
theorem dX7_count_56 : decode cX7_count 56 = .ok (.aload_n 0, 1) := by decide +kernel
theorem dX7_count_57 : decode cX7_count 57 = .ok (.sipush 1000, 3) := by decide +kernel
theorem dX7_count_60 : decode cX7_count 60 = .ok (.invokevirtual 133, 3) := by decide +kernel
theorem dX7_count_63 : decode cX7_count 63 = .ok (.ireturn, 1) := by decide +kernel
theorem dX7_count_64 : decode cX7_count 64 = .ok (.aload_n 0, 1) := by decide +kernel
theorem dX7_count_65 : decode cX7_count 65 = .ok (.getfield 7, 3) := by decide +kernel
theorem dX7_count_68 : decode cX7_count 68 = .ok (.bipush 7, 2) := by decide +kernel
theorem dX7_count_70 : decode cX7_count 70 = .ok (.iaload, 1) := by decide +kernel
theorem dX7_count_71 : decode cX7_count 71 = .ok (.ireturn, 1) := by decide +kernel
theorem dX7_count_72 : decode cX7_count 72 = .ok (.aload_n 0, 1) := by decide +kernel
theorem dX7_count_73 : decode cX7_count 73 = .ok (.getfield 7, 3) := by decide +kernel
theorem dX7_count_76 : decode cX7_count 76 = .ok (.bipush 8, 2) := by decide +kernel
theorem dX7_count_78 : decode cX7_count 78 = .ok (.iaload, 1) := by decide +kernel
theorem dX7_count_79 : decode cX7_count 79 = .ok (.ireturn, 1) := by decide +kernel
theorem dX7_count_80 : decode cX7_count 80 = .ok (.aload_n 0, 1) := by decide +kernel
theorem dX7_count_81 : decode cX7_count 81 = .ok (.getfield 7, 3) := by decide +kernel
theorem dX7_count_84 : decode cX7_count 84 = .ok (.bipush 9, 2) := by decide +kernel
theorem dX7_count_86 : decode cX7_count 86 = .ok (.iaload, 1) := by decide +kernel
theorem dX7_count_87 : decode cX7_count 87 = .ok (.ireturn, 1) := by decide +kernel
theorem dX7_count_88 : decode cX7_count 88 = .ok (.aload_n 0, 1) := by decide +kernel
theorem dX7_count_89 : decode cX7_count 89 = .ok (.getfield 7, 3) := by decide +kernel
theorem dX7_count_92 : decode cX7_count 92 = .ok (.iconst 4, 1) := by decide +kernel
theorem dX7_count_93 : decode cX7_count 93 = .ok (.iaload, 1) := by decide +kernel
theorem dX7_count_94 : decode cX7_count 94 = .ok (.ireturn, 1) := by decide +kernel
theorem dX7_count_95 : decode cX7_count 95 = .ok (.bipush (-2), 2) := by decide +kernel
theorem dX7_count_97 : decode cX7_count 97 = .ok (.ireturn, 1) := by decide +kernel
set_option maxRecDepth 20000 in
theorem ggX7_rank_X7_in : GoodIn wsX7_rank wsX7_in := goodIn_r _ [4] (by decide +kernel) (by decide +kernel)
set_option maxRecDepth 20000 in
theorem gX7_rank_X7_in : GoodIn wsX7_rank (va_wsS RX7 44 yX7_in wsX7_in) := goodIn_app (goodIn_of _ (by decide +kernel)) ggX7_rank_X7_in
set_option maxRecDepth 20000 in
theorem ggX7_rank_X7_below : GoodIn wsX7_rank wsX7_below := goodIn_r _ [8, 9, 10, 11, 12, 13, 14, 15, 16, 17, 18, 19, 20, 21] (by decide +kernel) (by decide +kernel)
set_option maxRecDepth 20000 in
theorem gX7_rank_X7_below : GoodIn wsX7_rank (wsV RX7 133 RX7 yX7_below wsX7_below) := goodIn_app (goodIn_of _ (by decide +kernel)) ggX7_rank_X7_below
theorem dX7_rank_0 : decode cX7_rank 0 = .ok (.iload_n 1, 1) := by decide +kernel
theorem dX7_rank_1 : decode cX7_rank 1 = .ok (.iconst 0, 1) := by decide +kernel
theorem dX7_rank_2 : decode cX7_rank 2 = .ok (.sipush 999, 3) := by decide +kernel
theorem dX7_rank_5 : decode cX7_rank 5 = .ok (.invokestatic 44, 3) := by decide +kernel
theorem dX7_rank_8 : decode cX7_rank 8 = .ok (.ifCond .eq 11, 3) := by decide +kernel
theorem dX7_rank_11 : decode cX7_rank 11 = .ok (.aload_n 0, 1) := by decide +kernel
theorem dX7_rank_12 : decode cX7_rank 12 = .ok (.iload_n 1, 1) := by decide +kernel
theorem dX7_rank_13 : decode cX7_rank 13 = .ok (.invokevirtual 133, 3) := by decide +kernel
theorem dX7_rank_16 : decode cX7_rank 16 = .ok (.goto 5, 3) := by decide +kernel
theorem dX7_rank_19 : decode cX7_rank 19 = .ok (.bipush (-2), 2) := by decide +kernel
theorem dX7_rank_21 : decode cX7_rank 21 = .ok (.ireturn, 1) := by decide +kernel
set_option maxRecDepth 20000 in
theorem ggX7_grown_X7_grants : GoodIn wsX7_grown wsX7_grants := goodIn_r _ [7, 2, 8, 9, 10, 6, 11, 12, 13, 14, 15, 16, 17, 18, 19, 20, 21, 22, 23, 24, 25, 26, 27, 28, 29, 30, 31, 32, 33, 34, 35, 36, 37, 38, 39, 40, 41, 42, 91, 92, 93, 94, 95, 96, 97, 98, 99, 100, 101, 102] (by decide +kernel) (by decide +kernel)
set_option maxRecDepth 20000 in
theorem gX7_grown_X7_grants : GoodIn wsX7_grown (wsV RX7 90 RX7 yX7_grants wsX7_grants) := goodIn_app (goodIn_of _ (by decide +kernel)) ggX7_grown_X7_grants
set_option maxRecDepth 20000 in
theorem ggX7_grown_X7_canRun : GoodIn wsX7_grown wsX7_canRun := goodIn_r _ [46, 2, 47, 48, 49, 6, 50, 51, 52, 53, 54, 28, 29, 30, 31, 32, 33, 34, 35, 12, 13, 14, 15, 8, 9, 10, 11, 36, 37, 38, 91, 92, 93, 94, 95, 96, 97, 98, 99, 100, 101, 102] (by decide +kernel) (by decide +kernel)
set_option maxRecDepth 20000 in
theorem gX7_grown_X7_canRun : GoodIn wsX7_grown (wsV RX7 117 RX7 yX7_canRun wsX7_canRun) := goodIn_app (goodIn_of _ (by decide +kernel)) ggX7_grown_X7_canRun
set_option maxRecDepth 20000 in
theorem ggX7_grown_X7_allSteps : GoodIn wsX7_grown wsX7_allSteps := goodIn_r _ [58, 2, 59, 60, 61, 6, 62, 16, 17, 18, 19, 8, 9, 10, 11, 12, 13, 14, 15, 20, 21, 22, 23, 51, 52, 53, 54, 28, 29, 30, 31, 32, 33, 34, 35, 63, 64, 65, 66, 36, 37, 38, 67, 68, 69, 70, 71, 72, 73, 74, 75, 76, 77, 78, 79, 80, 81, 82, 83, 84, 85, 86, 87, 88, 89, 90, 91, 92, 93, 94, 95, 96, 97, 98, 99, 100, 101, 102] (by decide +kernel) (by decide +kernel)
set_option maxRecDepth 20000 in
theorem gX7_grown_X7_allSteps : GoodIn wsX7_grown (wsV RX7 121 RX7 yX7_allSteps wsX7_allSteps) := goodIn_app (goodIn_of _ (by decide +kernel)) ggX7_grown_X7_allSteps
theorem dX7_grown_0 : decode cX7_grown 0 = .ok (.iconst 0, 1) := by decide +kernel
theorem dX7_grown_1 : decode cX7_grown 1 = .ok (.istore_n 3, 1) := by decide +kernel
theorem dX7_grown_2 : decode cX7_grown 2 = .ok (.iload_n 3, 1) := by decide +kernel
theorem dX7_grown_3 : decode cX7_grown 3 = .ok (.sipush 370, 3) := by decide +kernel
theorem dX7_grown_6 : decode cX7_grown 6 = .ok (.if_icmp .ge 21, 3) := by decide +kernel
theorem dX7_grown_9 : decode cX7_grown 9 = .ok (.aload_n 0, 1) := by decide +kernel
theorem dX7_grown_10 : decode cX7_grown 10 = .ok (.getfield 19, 3) := by decide +kernel
theorem dX7_grown_13 : decode cX7_grown 13 = .ok (.iload_n 3, 1) := by decide +kernel
theorem dX7_grown_14 : decode cX7_grown 14 = .ok (.aload_n 0, 1) := by decide +kernel
theorem dX7_grown_15 : decode cX7_grown 15 = .ok (.getfield 7, 3) := by decide +kernel
theorem dX7_grown_18 : decode cX7_grown 18 = .ok (.iload_n 3, 1) := by decide +kernel
theorem dX7_grown_19 : decode cX7_grown 19 = .ok (.iaload, 1) := by decide +kernel
theorem dX7_grown_20 : decode cX7_grown 20 = .ok (.iastore, 1) := by decide +kernel
theorem dX7_grown_21 : decode cX7_grown 21 = .ok (.iinc 3 1, 3) := by decide +kernel
theorem dX7_grown_24 : decode cX7_grown 24 = .ok (.goto (-22), 3) := by decide +kernel
theorem dX7_grown_27 : decode cX7_grown 27 = .ok (.aload_n 0, 1) := by decide +kernel
theorem dX7_grown_28 : decode cX7_grown 28 = .ok (.iload_n 1, 1) := by decide +kernel
theorem dX7_grown_29 : decode cX7_grown 29 = .ok (.invokevirtual 90, 3) := by decide +kernel
theorem dX7_grown_32 : decode cX7_grown 32 = .ok (.pop, 1) := by decide +kernel
theorem dX7_grown_33 : decode cX7_grown 33 = .ok (.bipush (-3), 2) := by decide +kernel
theorem dX7_grown_35 : decode cX7_grown 35 = .ok (.istore_n 3, 1) := by decide +kernel
theorem dX7_grown_36 : decode cX7_grown 36 = .ok (.aload_n 0, 1) := by decide +kernel
theorem dX7_grown_37 : decode cX7_grown 37 = .ok (.invokevirtual 117, 3) := by decide +kernel
theorem dX7_grown_40 : decode cX7_grown 40 = .ok (.ifCond .eq 22, 3) := by decide +kernel
theorem dX7_grown_43 : decode cX7_grown 43 = .ok (.aload_n 0, 1) := by decide +kernel
theorem dX7_grown_44 : decode cX7_grown 44 = .ok (.invokevirtual 121, 3) := by decide +kernel
theorem dX7_grown_47 : decode cX7_grown 47 = .ok (.pop, 1) := by decide +kernel
theorem dX7_grown_48 : decode cX7_grown 48 = .ok (.aload_n 0, 1) := by decide +kernel
theorem dX7_grown_49 : decode cX7_grown 49 = .ok (.getfield 7, 3) := by decide +kernel
theorem dX7_grown_52 : decode cX7_grown 52 = .ok (.iload_n 2, 1) := by decide +kernel
theorem dX7_grown_53 : decode cX7_grown 53 = .ok (.iaload, 1) := by decide +kernel
theorem dX7_grown_54 : decode cX7_grown 54 = .ok (.aload_n 0, 1) := by decide +kernel
theorem dX7_grown_55 : decode cX7_grown 55 = .ok (.getfield 19, 3) := by decide +kernel
theorem dX7_grown_58 : decode cX7_grown 58 = .ok (.iload_n 2, 1) := by decide +kernel
theorem dX7_grown_59 : decode cX7_grown 59 = .ok (.iaload, 1) := by decide +kernel
theorem dX7_grown_60 : decode cX7_grown 60 = .ok (.isub, 1) := by decide +kernel
theorem dX7_grown_61 : decode cX7_grown 61 = .ok (.istore_n 3, 1) := by decide +kernel
theorem dX7_grown_62 : decode cX7_grown 62 = .ok (.iconst 0, 1) := by decide +kernel
theorem dX7_grown_63 : decode cX7_grown 63 = .ok (.istore 4, 2) := by decide +kernel
theorem dX7_grown_65 : decode cX7_grown 65 = .ok (.iload 4, 2) := by decide +kernel
theorem dX7_grown_67 : decode cX7_grown 67 = .ok (.sipush 370, 3) := by decide +kernel
theorem dX7_grown_70 : decode cX7_grown 70 = .ok (.if_icmp .ge 23, 3) := by decide +kernel
theorem dX7_grown_73 : decode cX7_grown 73 = .ok (.aload_n 0, 1) := by decide +kernel
theorem dX7_grown_74 : decode cX7_grown 74 = .ok (.getfield 7, 3) := by decide +kernel
theorem dX7_grown_77 : decode cX7_grown 77 = .ok (.iload 4, 2) := by decide +kernel
theorem dX7_grown_79 : decode cX7_grown 79 = .ok (.aload_n 0, 1) := by decide +kernel
theorem dX7_grown_80 : decode cX7_grown 80 = .ok (.getfield 19, 3) := by decide +kernel
theorem dX7_grown_83 : decode cX7_grown 83 = .ok (.iload 4, 2) := by decide +kernel
theorem dX7_grown_85 : decode cX7_grown 85 = .ok (.iaload, 1) := by decide +kernel
theorem dX7_grown_86 : decode cX7_grown 86 = .ok (.iastore, 1) := by decide +kernel
theorem dX7_grown_87 : decode cX7_grown 87 = .ok (.iinc 4 1, 3) := by decide +kernel
theorem dX7_grown_90 : decode cX7_grown 90 = .ok (.goto (-25), 3) := by decide +kernel
theorem dX7_grown_93 : decode cX7_grown 93 = .ok (.iload_n 3, 1) := by decide +kernel
theorem dX7_grown_94 : decode cX7_grown 94 = .ok (.ireturn, 1) := by decide +kernel
set_option maxRecDepth 20000 in
theorem ggX7_costsWith_X7_isSize : GoodIn wsX7_costsWith wsX7_isSize := goodIn_r _ [4, 5, 6, 3, 7] (by decide +kernel) (by decide +kernel)
set_option maxRecDepth 20000 in
theorem gX7_costsWith_X7_isSize : GoodIn wsX7_costsWith (va_wsS RX7 86 yX7_isSize wsX7_isSize) := goodIn_app (goodIn_of _ (by decide +kernel)) ggX7_costsWith_X7_isSize
set_option maxRecDepth 20000 in
theorem ggX7_costsWith_X7_grown : GoodIn wsX7_costsWith wsX7_grown := goodIn_r _ [11, 12, 13, 14, 15, 16, 3, 17, 18, 19, 20, 21, 22, 23, 24, 25, 26, 27, 28, 29, 30, 31, 32, 33, 34, 35, 36, 37, 38, 39, 40, 41, 42, 43, 44, 45, 46, 47, 48, 49, 50, 51, 52, 53, 54, 55, 56, 57, 58, 59, 60, 61, 62, 63, 64, 65, 66, 67, 68, 69, 70, 71, 72, 73, 74, 75, 76, 77, 78, 79, 80, 81, 82, 83, 84, 85, 86, 87, 88, 89, 90, 91, 92, 93, 94, 95, 96, 97, 98, 99, 100, 101, 102, 103, 104, 105, 106, 107, 108, 109, 110, 111, 112] (by decide +kernel) (by decide +kernel)
set_option maxRecDepth 20000 in
theorem gX7_costsWith_X7_grown : GoodIn wsX7_costsWith (wsV RX7 136 RX7 yX7_grown wsX7_grown) := goodIn_app (goodIn_of _ (by decide +kernel)) ggX7_costsWith_X7_grown
theorem dX7_costsWith_0 : decode cX7_costsWith 0 = .ok (.iload_n 1, 1) := by decide +kernel
theorem dX7_costsWith_1 : decode cX7_costsWith 1 = .ok (.invokestatic 86, 3) := by decide +kernel
theorem dX7_costsWith_4 : decode cX7_costsWith 4 = .ok (.ifCond .eq 13, 3) := by decide +kernel
theorem dX7_costsWith_7 : decode cX7_costsWith 7 = .ok (.aload_n 0, 1) := by decide +kernel
theorem dX7_costsWith_8 : decode cX7_costsWith 8 = .ok (.iload_n 1, 1) := by decide +kernel
theorem dX7_costsWith_9 : decode cX7_costsWith 9 = .ok (.bipush 7, 2) := by decide +kernel
theorem dX7_costsWith_11 : decode cX7_costsWith 11 = .ok (.invokevirtual 136, 3) := by decide +kernel
theorem dX7_costsWith_14 : decode cX7_costsWith 14 = .ok (.goto 5, 3) := by decide +kernel
theorem dX7_costsWith_17 : decode cX7_costsWith 17 = .ok (.bipush (-2), 2) := by decide +kernel
theorem dX7_costsWith_19 : decode cX7_costsWith 19 = .ok (.ireturn, 1) := by decide +kernel
set_option maxRecDepth 20000 in
theorem ggX7_mergesWith_X7_isSize : GoodIn wsX7_mergesWith wsX7_isSize := goodIn_r _ [4, 5, 6, 3, 7] (by decide +kernel) (by decide +kernel)
set_option maxRecDepth 20000 in
theorem gX7_mergesWith_X7_isSize : GoodIn wsX7_mergesWith (va_wsS RX7 86 yX7_isSize wsX7_isSize) := goodIn_app (goodIn_of _ (by decide +kernel)) ggX7_mergesWith_X7_isSize
set_option maxRecDepth 20000 in
theorem ggX7_mergesWith_X7_grown : GoodIn wsX7_mergesWith wsX7_grown := goodIn_r _ [11, 12, 13, 14, 15, 16, 3, 17, 18, 19, 20, 21, 22, 23, 24, 25, 26, 27, 28, 29, 30, 31, 32, 33, 34, 35, 36, 37, 38, 39, 40, 41, 42, 43, 44, 45, 46, 47, 48, 49, 50, 51, 52, 53, 54, 55, 56, 57, 58, 59, 60, 61, 62, 63, 64, 65, 66, 67, 68, 69, 70, 71, 72, 73, 74, 75, 76, 77, 78, 79, 80, 81, 82, 83, 84, 85, 86, 87, 88, 89, 90, 91, 92, 93, 94, 95, 96, 97, 98, 99, 100, 101, 102, 103, 104, 105, 106, 107, 108, 109, 110, 111, 112] (by decide +kernel) (by decide +kernel)
set_option maxRecDepth 20000 in
theorem gX7_mergesWith_X7_grown : GoodIn wsX7_mergesWith (wsV RX7 136 RX7 yX7_grown wsX7_grown) := goodIn_app (goodIn_of _ (by decide +kernel)) ggX7_mergesWith_X7_grown
theorem dX7_mergesWith_0 : decode cX7_mergesWith 0 = .ok (.iload_n 1, 1) := by decide +kernel
theorem dX7_mergesWith_1 : decode cX7_mergesWith 1 = .ok (.invokestatic 86, 3) := by decide +kernel
theorem dX7_mergesWith_4 : decode cX7_mergesWith 4 = .ok (.ifCond .eq 13, 3) := by decide +kernel
theorem dX7_mergesWith_7 : decode cX7_mergesWith 7 = .ok (.aload_n 0, 1) := by decide +kernel
theorem dX7_mergesWith_8 : decode cX7_mergesWith 8 = .ok (.iload_n 1, 1) := by decide +kernel
theorem dX7_mergesWith_9 : decode cX7_mergesWith 9 = .ok (.bipush 8, 2) := by decide +kernel
theorem dX7_mergesWith_11 : decode cX7_mergesWith 11 = .ok (.invokevirtual 136, 3) := by decide +kernel
theorem dX7_mergesWith_14 : decode cX7_mergesWith 14 = .ok (.goto 5, 3) := by decide +kernel
theorem dX7_mergesWith_17 : decode cX7_mergesWith 17 = .ok (.bipush (-2), 2) := by decide +kernel
theorem dX7_mergesWith_19 : decode cX7_mergesWith 19 = .ok (.ireturn, 1) := by decide +kernel
set_option maxRecDepth 20000 in
theorem ggX7_bestSize_X7_grown : GoodIn wsX7_bestSize wsX7_grown := goodIn_r _ [5, 6, 7, 8, 9, 10, 4, 11, 12, 13, 14, 15, 16, 17, 18, 19, 20, 21, 22, 23, 24, 25, 26, 27, 28, 29, 30, 31, 32, 33, 34, 35, 36, 37, 38, 39, 40, 41, 42, 43, 44, 45, 46, 47, 48, 49, 50, 51, 52, 53, 54, 55, 56, 57, 58, 59, 60, 61, 62, 63, 64, 65, 66, 67, 68, 69, 70, 71, 72, 73, 74, 75, 76, 77, 78, 79, 80, 81, 82, 83, 84, 85, 86, 87, 88, 89, 90, 91, 92, 93, 94, 95, 96, 97, 98, 99, 100, 101, 102, 103, 104, 105, 106] (by decide +kernel) (by decide +kernel)
set_option maxRecDepth 20000 in
theorem gX7_bestSize_X7_grown : GoodIn wsX7_bestSize (wsV RX7 136 RX7 yX7_grown wsX7_grown) := goodIn_app (goodIn_of _ (by decide +kernel)) ggX7_bestSize_X7_grown
theorem dX7_bestSize_0 : decode cX7_bestSize 0 = .ok (.bipush (-6), 2) := by decide +kernel
theorem dX7_bestSize_2 : decode cX7_bestSize 2 = .ok (.istore_n 1, 1) := by decide +kernel
theorem dX7_bestSize_3 : decode cX7_bestSize 3 = .ok (.iconst 0, 1) := by decide +kernel
theorem dX7_bestSize_4 : decode cX7_bestSize 4 = .ok (.istore_n 2, 1) := by decide +kernel
theorem dX7_bestSize_5 : decode cX7_bestSize 5 = .ok (.iconst 2, 1) := by decide +kernel
theorem dX7_bestSize_6 : decode cX7_bestSize 6 = .ok (.istore_n 3, 1) := by decide +kernel
theorem dX7_bestSize_7 : decode cX7_bestSize 7 = .ok (.iload_n 3, 1) := by decide +kernel
theorem dX7_bestSize_8 : decode cX7_bestSize 8 = .ok (.bipush 20, 2) := by decide +kernel
theorem dX7_bestSize_10 : decode cX7_bestSize 10 = .ok (.if_icmp .gt 65, 3) := by decide +kernel
theorem dX7_bestSize_13 : decode cX7_bestSize 13 = .ok (.aload_n 0, 1) := by decide +kernel
theorem dX7_bestSize_14 : decode cX7_bestSize 14 = .ok (.iload_n 3, 1) := by decide +kernel
theorem dX7_bestSize_15 : decode cX7_bestSize 15 = .ok (.bipush 7, 2) := by decide +kernel
theorem dX7_bestSize_17 : decode cX7_bestSize 17 = .ok (.invokevirtual 136, 3) := by decide +kernel
theorem dX7_bestSize_20 : decode cX7_bestSize 20 = .ok (.istore 4, 2) := by decide +kernel
theorem dX7_bestSize_22 : decode cX7_bestSize 22 = .ok (.iload 4, 2) := by decide +kernel
theorem dX7_bestSize_24 : decode cX7_bestSize 24 = .ok (.ifCond .lt 19, 3) := by decide +kernel
theorem dX7_bestSize_27 : decode cX7_bestSize 27 = .ok (.iload_n 1, 1) := by decide +kernel
theorem dX7_bestSize_28 : decode cX7_bestSize 28 = .ok (.bipush (-6), 2) := by decide +kernel
theorem dX7_bestSize_30 : decode cX7_bestSize 30 = .ok (.if_icmp .eq 9, 3) := by decide +kernel
theorem dX7_bestSize_33 : decode cX7_bestSize 33 = .ok (.iload 4, 2) := by decide +kernel
theorem dX7_bestSize_35 : decode cX7_bestSize 35 = .ok (.iload_n 2, 1) := by decide +kernel
theorem dX7_bestSize_36 : decode cX7_bestSize 36 = .ok (.if_icmp .ge 7, 3) := by decide +kernel
theorem dX7_bestSize_39 : decode cX7_bestSize 39 = .ok (.iconst 1, 1) := by decide +kernel
theorem dX7_bestSize_40 : decode cX7_bestSize 40 = .ok (.goto 4, 3) := by decide +kernel
theorem dX7_bestSize_43 : decode cX7_bestSize 43 = .ok (.iconst 0, 1) := by decide +kernel
theorem dX7_bestSize_44 : decode cX7_bestSize 44 = .ok (.istore 5, 2) := by decide +kernel
theorem dX7_bestSize_46 : decode cX7_bestSize 46 = .ok (.iload 5, 2) := by decide +kernel
theorem dX7_bestSize_48 : decode cX7_bestSize 48 = .ok (.ifCond .eq 7, 3) := by decide +kernel
theorem dX7_bestSize_51 : decode cX7_bestSize 51 = .ok (.iload_n 3, 1) := by decide +kernel
theorem dX7_bestSize_52 : decode cX7_bestSize 52 = .ok (.goto 4, 3) := by decide +kernel
theorem dX7_bestSize_55 : decode cX7_bestSize 55 = .ok (.iload_n 1, 1) := by decide +kernel
theorem dX7_bestSize_56 : decode cX7_bestSize 56 = .ok (.istore_n 1, 1) := by decide +kernel
theorem dX7_bestSize_57 : decode cX7_bestSize 57 = .ok (.iload 5, 2) := by decide +kernel
theorem dX7_bestSize_59 : decode cX7_bestSize 59 = .ok (.ifCond .eq 8, 3) := by decide +kernel
theorem dX7_bestSize_62 : decode cX7_bestSize 62 = .ok (.iload 4, 2) := by decide +kernel
theorem dX7_bestSize_64 : decode cX7_bestSize 64 = .ok (.goto 4, 3) := by decide +kernel
theorem dX7_bestSize_67 : decode cX7_bestSize 67 = .ok (.iload_n 2, 1) := by decide +kernel
theorem dX7_bestSize_68 : decode cX7_bestSize 68 = .ok (.istore_n 2, 1) := by decide +kernel
theorem dX7_bestSize_69 : decode cX7_bestSize 69 = .ok (.iinc 3 1, 3) := by decide +kernel
theorem dX7_bestSize_72 : decode cX7_bestSize 72 = .ok (.goto (-65), 3) := by decide +kernel
theorem dX7_bestSize_75 : decode cX7_bestSize 75 = .ok (.iload_n 1, 1) := by decide +kernel
theorem dX7_bestSize_76 : decode cX7_bestSize 76 = .ok (.ireturn, 1) := by decide +kernel
set_option maxRecDepth 20000 in
theorem ggX7_append_X7_in : GoodIn wsX7_append wsX7_in := goodIn_r _ [6] (by decide +kernel) (by decide +kernel)
set_option maxRecDepth 20000 in
theorem gX7_append_X7_in : GoodIn wsX7_append (va_wsS RX7 44 yX7_in wsX7_in) := goodIn_app (goodIn_of _ (by decide +kernel)) ggX7_append_X7_in
theorem dX7_append_0 : decode cX7_append 0 = .ok (.iload_n 1, 1) := by decide +kernel
theorem dX7_append_1 : decode cX7_append 1 = .ok (.bipush 33, 2) := by decide +kernel
theorem dX7_append_3 : decode cX7_append 3 = .ok (.bipush 126, 2) := by decide +kernel
theorem dX7_append_5 : decode cX7_append 5 = .ok (.invokestatic 44, 3) := by decide +kernel
theorem dX7_append_8 : decode cX7_append 8 = .ok (.ifCond .ne 6, 3) := by decide +kernel
theorem dX7_append_11 : decode cX7_append 11 = .ok (.bipush (-2), 2) := by decide +kernel
theorem dX7_append_13 : decode cX7_append 13 = .ok (.ireturn, 1) := by decide +kernel
theorem dX7_append_14 : decode cX7_append 14 = .ok (.aload_n 0, 1) := by decide +kernel
theorem dX7_append_15 : decode cX7_append 15 = .ok (.getfield 139, 3) := by decide +kernel
theorem dX7_append_18 : decode cX7_append 18 = .ok (.bipush 80, 2) := by decide +kernel
theorem dX7_append_20 : decode cX7_append 20 = .ok (.if_icmp .ne 6, 3) := by decide +kernel
theorem dX7_append_23 : decode cX7_append 23 = .ok (.bipush (-4), 2) := by decide +kernel
theorem dX7_append_25 : decode cX7_append 25 = .ok (.ireturn, 1) := by decide +kernel
theorem dX7_append_26 : decode cX7_append 26 = .ok (.aload_n 0, 1) := by decide +kernel
theorem dX7_append_27 : decode cX7_append 27 = .ok (.getfield 22, 3) := by decide +kernel
theorem dX7_append_30 : decode cX7_append 30 = .ok (.aload_n 0, 1) := by decide +kernel
theorem dX7_append_31 : decode cX7_append 31 = .ok (.getfield 139, 3) := by decide +kernel
theorem dX7_append_34 : decode cX7_append 34 = .ok (.iload_n 1, 1) := by decide +kernel
theorem dX7_append_35 : decode cX7_append 35 = .ok (.i2c, 1) := by decide +kernel
theorem dX7_append_36 : decode cX7_append 36 = .ok (.castore, 1) := by decide +kernel
theorem dX7_append_37 : decode cX7_append 37 = .ok (.aload_n 0, 1) := by decide +kernel
theorem dX7_append_38 : decode cX7_append 38 = .ok (.dup, 1) := by decide +kernel
theorem dX7_append_39 : decode cX7_append 39 = .ok (.getfield 139, 3) := by decide +kernel
theorem dX7_append_42 : decode cX7_append 42 = .ok (.iconst 1, 1) := by decide +kernel
theorem dX7_append_43 : decode cX7_append 43 = .ok (.iadd, 1) := by decide +kernel
theorem dX7_append_44 : decode cX7_append 44 = .ok (.putfield 139, 3) := by decide +kernel
theorem dX7_append_47 : decode cX7_append 47 = .ok (.aload_n 0, 1) := by decide +kernel
theorem dX7_append_48 : decode cX7_append 48 = .ok (.getfield 139, 3) := by decide +kernel
theorem dX7_append_51 : decode cX7_append 51 = .ok (.ireturn, 1) := by decide +kernel
theorem dX7_clearText_0 : decode cX7_clearText 0 = .ok (.aload_n 0, 1) := by decide +kernel
theorem dX7_clearText_1 : decode cX7_clearText 1 = .ok (.getfield 139, 3) := by decide +kernel
theorem dX7_clearText_4 : decode cX7_clearText 4 = .ok (.istore_n 1, 1) := by decide +kernel
theorem dX7_clearText_5 : decode cX7_clearText 5 = .ok (.aload_n 0, 1) := by decide +kernel
theorem dX7_clearText_6 : decode cX7_clearText 6 = .ok (.iconst 0, 1) := by decide +kernel
theorem dX7_clearText_7 : decode cX7_clearText 7 = .ok (.putfield 139, 3) := by decide +kernel
theorem dX7_clearText_10 : decode cX7_clearText 10 = .ok (.iload_n 1, 1) := by decide +kernel
theorem dX7_clearText_11 : decode cX7_clearText 11 = .ok (.ireturn, 1) := by decide +kernel
theorem dX7_letter_0 : decode cX7_letter 0 = .ok (.aload_n 0, 1) := by decide +kernel
theorem dX7_letter_1 : decode cX7_letter 1 = .ok (.getfield 142, 3) := by decide +kernel
theorem dX7_letter_4 : decode cX7_letter 4 = .ok (.aload_n 0, 1) := by decide +kernel
theorem dX7_letter_5 : decode cX7_letter 5 = .ok (.getfield 139, 3) := by decide +kernel
theorem dX7_letter_8 : decode cX7_letter 8 = .ok (.if_icmp .ge 15, 3) := by decide +kernel
theorem dX7_letter_11 : decode cX7_letter 11 = .ok (.aload_n 0, 1) := by decide +kernel
theorem dX7_letter_12 : decode cX7_letter 12 = .ok (.getfield 22, 3) := by decide +kernel
theorem dX7_letter_15 : decode cX7_letter 15 = .ok (.aload_n 0, 1) := by decide +kernel
theorem dX7_letter_16 : decode cX7_letter 16 = .ok (.getfield 142, 3) := by decide +kernel
theorem dX7_letter_19 : decode cX7_letter 19 = .ok (.caload, 1) := by decide +kernel
theorem dX7_letter_20 : decode cX7_letter 20 = .ok (.goto 5, 3) := by decide +kernel
theorem dX7_letter_23 : decode cX7_letter 23 = .ok (.bipush (-6), 2) := by decide +kernel
theorem dX7_letter_25 : decode cX7_letter 25 = .ok (.ireturn, 1) := by decide +kernel
set_option maxRecDepth 20000 in
theorem ggX7_figure_X7_letter : GoodIn wsX7_figure wsX7_letter := goodIn_r _ [5, 6, 7, 8, 12, 13, 14, 15, 16, 17, 18, 19, 20, 21, 22, 23] (by decide +kernel) (by decide +kernel)
set_option maxRecDepth 20000 in
theorem gX7_figure_X7_letter : GoodIn wsX7_figure (wsV RX7 145 RX7 yX7_letter wsX7_letter) := goodIn_app (goodIn_of _ (by decide +kernel)) ggX7_figure_X7_letter
set_option maxRecDepth 20000 in
theorem ggX7_figure_X7_in : GoodIn wsX7_figure wsX7_in := goodIn_r _ [11] (by decide +kernel) (by decide +kernel)
set_option maxRecDepth 20000 in
theorem gX7_figure_X7_in : GoodIn wsX7_figure (va_wsS RX7 44 yX7_in wsX7_in) := goodIn_app (goodIn_of _ (by decide +kernel)) ggX7_figure_X7_in
theorem dX7_figure_0 : decode cX7_figure 0 = .ok (.aload_n 0, 1) := by decide +kernel
theorem dX7_figure_1 : decode cX7_figure 1 = .ok (.invokevirtual 145, 3) := by decide +kernel
theorem dX7_figure_4 : decode cX7_figure 4 = .ok (.bipush 48, 2) := by decide +kernel
theorem dX7_figure_6 : decode cX7_figure 6 = .ok (.isub, 1) := by decide +kernel
theorem dX7_figure_7 : decode cX7_figure 7 = .ok (.istore_n 1, 1) := by decide +kernel
theorem dX7_figure_8 : decode cX7_figure 8 = .ok (.iload_n 1, 1) := by decide +kernel
theorem dX7_figure_9 : decode cX7_figure 9 = .ok (.iconst 0, 1) := by decide +kernel
theorem dX7_figure_10 : decode cX7_figure 10 = .ok (.bipush 9, 2) := by decide +kernel
theorem dX7_figure_12 : decode cX7_figure 12 = .ok (.invokestatic 44, 3) := by decide +kernel
theorem dX7_figure_15 : decode cX7_figure 15 = .ok (.ifCond .eq 7, 3) := by decide +kernel
theorem dX7_figure_18 : decode cX7_figure 18 = .ok (.iload_n 1, 1) := by decide +kernel
theorem dX7_figure_19 : decode cX7_figure 19 = .ok (.goto 5, 3) := by decide +kernel
theorem dX7_figure_22 : decode cX7_figure 22 = .ok (.bipush (-6), 2) := by decide +kernel
theorem dX7_figure_24 : decode cX7_figure 24 = .ok (.ireturn, 1) := by decide +kernel
theorem dX7_wants_0 : decode cX7_wants 0 = .ok (.aload_n 0, 1) := by decide +kernel
theorem dX7_wants_1 : decode cX7_wants 1 = .ok (.getfield 148, 3) := by decide +kernel
theorem dX7_wants_4 : decode cX7_wants 4 = .ok (.bipush (-6), 2) := by decide +kernel
theorem dX7_wants_6 : decode cX7_wants 6 = .ok (.if_icmp .ne 30, 3) := by decide +kernel
theorem dX7_wants_9 : decode cX7_wants 9 = .ok (.aload_n 0, 1) := by decide +kernel
theorem dX7_wants_10 : decode cX7_wants 10 = .ok (.iload_n 1, 1) := by decide +kernel
theorem dX7_wants_11 : decode cX7_wants 11 = .ok (.ifCond .eq 8, 3) := by decide +kernel
theorem dX7_wants_14 : decode cX7_wants 14 = .ok (.bipush (-6), 2) := by decide +kernel
theorem dX7_wants_16 : decode cX7_wants 16 = .ok (.goto 7, 3) := by decide +kernel
theorem dX7_wants_19 : decode cX7_wants 19 = .ok (.aload_n 0, 1) := by decide +kernel
theorem dX7_wants_20 : decode cX7_wants 20 = .ok (.getfield 142, 3) := by decide +kernel
theorem dX7_wants_23 : decode cX7_wants 23 = .ok (.putfield 148, 3) := by decide +kernel
theorem dX7_wants_26 : decode cX7_wants 26 = .ok (.aload_n 0, 1) := by decide +kernel
theorem dX7_wants_27 : decode cX7_wants 27 = .ok (.dup, 1) := by decide +kernel
theorem dX7_wants_28 : decode cX7_wants 28 = .ok (.getfield 142, 3) := by decide +kernel
theorem dX7_wants_31 : decode cX7_wants 31 = .ok (.iconst 1, 1) := by decide +kernel
theorem dX7_wants_32 : decode cX7_wants 32 = .ok (.iadd, 1) := by decide +kernel
theorem dX7_wants_33 : decode cX7_wants 33 = .ok (.putfield 142, 3) := by decide +kernel
theorem dX7_wants_36 : decode cX7_wants 36 = .ok (.return_, 1) := by decide +kernel
set_option maxRecDepth 20000 in
theorem ggX7_key_X7_figure : GoodIn wsX7_key wsX7_figure := goodIn_r _ [7, 8, 9, 10, 6, 11, 2, 12, 13, 14, 15, 16, 21, 22, 23, 24, 25, 26, 27, 28, 29, 30, 31, 32] (by decide +kernel) (by decide +kernel)
set_option maxRecDepth 20000 in
theorem gX7_key_X7_figure : GoodIn wsX7_key (wsV RX7 151 RX7 yX7_figure wsX7_figure) := goodIn_app (goodIn_of _ (by decide +kernel)) ggX7_key_X7_figure
set_option maxRecDepth 20000 in
theorem ggX7_key_X7_wants : GoodIn wsX7_key wsX7_wants := goodIn_r _ [20, 1, 2, 21, 22, 23, 24, 25, 26, 27, 28, 29, 30, 31, 32] (by decide +kernel) (by decide +kernel)
set_option maxRecDepth 20000 in
theorem gX7_key_X7_wants : GoodIn wsX7_key (wsV RX7 154 RX7 yX7_wants wsX7_wants) := goodIn_app (goodIn_of _ (by decide +kernel)) ggX7_key_X7_wants
theorem dX7_key_0 : decode cX7_key 0 = .ok (.aload_n 0, 1) := by decide +kernel
theorem dX7_key_1 : decode cX7_key 1 = .ok (.invokevirtual 151, 3) := by decide +kernel
theorem dX7_key_4 : decode cX7_key 4 = .ok (.istore_n 1, 1) := by decide +kernel
theorem dX7_key_5 : decode cX7_key 5 = .ok (.aload_n 0, 1) := by decide +kernel
theorem dX7_key_6 : decode cX7_key 6 = .ok (.iload_n 1, 1) := by decide +kernel
theorem dX7_key_7 : decode cX7_key 7 = .ok (.bipush (-6), 2) := by decide +kernel
theorem dX7_key_9 : decode cX7_key 9 = .ok (.if_icmp .eq 7, 3) := by decide +kernel
theorem dX7_key_12 : decode cX7_key 12 = .ok (.iconst 1, 1) := by decide +kernel
theorem dX7_key_13 : decode cX7_key 13 = .ok (.goto 4, 3) := by decide +kernel
theorem dX7_key_16 : decode cX7_key 16 = .ok (.iconst 0, 1) := by decide +kernel
theorem dX7_key_17 : decode cX7_key 17 = .ok (.invokevirtual 154, 3) := by decide +kernel
theorem dX7_key_20 : decode cX7_key 20 = .ok (.aload_n 0, 1) := by decide +kernel
theorem dX7_key_21 : decode cX7_key 21 = .ok (.getfield 148, 3) := by decide +kernel
theorem dX7_key_24 : decode cX7_key 24 = .ok (.bipush (-6), 2) := by decide +kernel
theorem dX7_key_26 : decode cX7_key 26 = .ok (.if_icmp .ne 54, 3) := by decide +kernel
theorem dX7_key_29 : decode cX7_key 29 = .ok (.iload_n 1, 1) := by decide +kernel
theorem dX7_key_30 : decode cX7_key 30 = .ok (.ifCond .le 50, 3) := by decide +kernel
theorem dX7_key_33 : decode cX7_key 33 = .ok (.aload_n 0, 1) := by decide +kernel
theorem dX7_key_34 : decode cX7_key 34 = .ok (.invokevirtual 151, 3) := by decide +kernel
theorem dX7_key_37 : decode cX7_key 37 = .ok (.bipush (-6), 2) := by decide +kernel
theorem dX7_key_39 : decode cX7_key 39 = .ok (.if_icmp .eq 41, 3) := by decide +kernel
theorem dX7_key_42 : decode cX7_key 42 = .ok (.bipush 10, 2) := by decide +kernel
theorem dX7_key_44 : decode cX7_key 44 = .ok (.iload_n 1, 1) := by decide +kernel
theorem dX7_key_45 : decode cX7_key 45 = .ok (.imul, 1) := by decide +kernel
theorem dX7_key_46 : decode cX7_key 46 = .ok (.aload_n 0, 1) := by decide +kernel
theorem dX7_key_47 : decode cX7_key 47 = .ok (.invokevirtual 151, 3) := by decide +kernel
theorem dX7_key_50 : decode cX7_key 50 = .ok (.iadd, 1) := by decide +kernel
theorem dX7_key_51 : decode cX7_key 51 = .ok (.sipush 1000, 3) := by decide +kernel
theorem dX7_key_54 : decode cX7_key 54 = .ok (.if_icmp .ge 26, 3) := by decide +kernel
theorem dX7_key_57 : decode cX7_key 57 = .ok (.bipush 10, 2) := by decide +kernel
theorem dX7_key_59 : decode cX7_key 59 = .ok (.iload_n 1, 1) := by decide +kernel
theorem dX7_key_60 : decode cX7_key 60 = .ok (.imul, 1) := by decide +kernel
theorem dX7_key_61 : decode cX7_key 61 = .ok (.aload_n 0, 1) := by decide +kernel
theorem dX7_key_62 : decode cX7_key 62 = .ok (.invokevirtual 151, 3) := by decide +kernel
theorem dX7_key_65 : decode cX7_key 65 = .ok (.iadd, 1) := by decide +kernel
theorem dX7_key_66 : decode cX7_key 66 = .ok (.istore_n 1, 1) := by decide +kernel
theorem dX7_key_67 : decode cX7_key 67 = .ok (.aload_n 0, 1) := by decide +kernel
theorem dX7_key_68 : decode cX7_key 68 = .ok (.dup, 1) := by decide +kernel
theorem dX7_key_69 : decode cX7_key 69 = .ok (.getfield 142, 3) := by decide +kernel
theorem dX7_key_72 : decode cX7_key 72 = .ok (.iconst 1, 1) := by decide +kernel
theorem dX7_key_73 : decode cX7_key 73 = .ok (.iadd, 1) := by decide +kernel
theorem dX7_key_74 : decode cX7_key 74 = .ok (.putfield 142, 3) := by decide +kernel
theorem dX7_key_77 : decode cX7_key 77 = .ok (.goto (-57), 3) := by decide +kernel
theorem dX7_key_80 : decode cX7_key 80 = .ok (.iload_n 1, 1) := by decide +kernel
theorem dX7_key_81 : decode cX7_key 81 = .ok (.ireturn, 1) := by decide +kernel
set_option maxRecDepth 20000 in
theorem ggX7_greater_X7_figure : GoodIn wsX7_greater wsX7_figure := goodIn_r _ [7, 8, 9, 10, 6, 11, 2, 12, 13, 14, 15, 16, 21, 22, 23, 24, 25, 26, 27, 28, 29, 30, 31, 32] (by decide +kernel) (by decide +kernel)
set_option maxRecDepth 20000 in
theorem gX7_greater_X7_figure : GoodIn wsX7_greater (wsV RX7 151 RX7 yX7_figure wsX7_figure) := goodIn_app (goodIn_of _ (by decide +kernel)) ggX7_greater_X7_figure
set_option maxRecDepth 20000 in
theorem ggX7_greater_X7_wants : GoodIn wsX7_greater wsX7_wants := goodIn_r _ [20, 1, 2, 21, 22, 23, 24, 25, 26, 27, 28, 29, 30, 31, 32] (by decide +kernel) (by decide +kernel)
set_option maxRecDepth 20000 in
theorem gX7_greater_X7_wants : GoodIn wsX7_greater (wsV RX7 154 RX7 yX7_wants wsX7_wants) := goodIn_app (goodIn_of _ (by decide +kernel)) ggX7_greater_X7_wants
theorem dX7_greater_0 : decode cX7_greater 0 = .ok (.aload_n 0, 1) := by decide +kernel
theorem dX7_greater_1 : decode cX7_greater 1 = .ok (.invokevirtual 151, 3) := by decide +kernel
theorem dX7_greater_4 : decode cX7_greater 4 = .ok (.istore_n 2, 1) := by decide +kernel
theorem dX7_greater_5 : decode cX7_greater 5 = .ok (.aload_n 0, 1) := by decide +kernel
theorem dX7_greater_6 : decode cX7_greater 6 = .ok (.iload_n 2, 1) := by decide +kernel
theorem dX7_greater_7 : decode cX7_greater 7 = .ok (.ifCond .le 18, 3) := by decide +kernel
theorem dX7_greater_10 : decode cX7_greater 10 = .ok (.bipush 100, 2) := by decide +kernel
theorem dX7_greater_12 : decode cX7_greater 12 = .ok (.iload_n 2, 1) := by decide +kernel
theorem dX7_greater_13 : decode cX7_greater 13 = .ok (.imul, 1) := by decide +kernel
theorem dX7_greater_14 : decode cX7_greater 14 = .ok (.bipush 99, 2) := by decide +kernel
theorem dX7_greater_16 : decode cX7_greater 16 = .ok (.iadd, 1) := by decide +kernel
theorem dX7_greater_17 : decode cX7_greater 17 = .ok (.iload_n 1, 1) := by decide +kernel
theorem dX7_greater_18 : decode cX7_greater 18 = .ok (.if_icmp .le 7, 3) := by decide +kernel
theorem dX7_greater_21 : decode cX7_greater 21 = .ok (.iconst 1, 1) := by decide +kernel
theorem dX7_greater_22 : decode cX7_greater 22 = .ok (.goto 4, 3) := by decide +kernel
theorem dX7_greater_25 : decode cX7_greater 25 = .ok (.iconst 0, 1) := by decide +kernel
theorem dX7_greater_26 : decode cX7_greater 26 = .ok (.invokevirtual 154, 3) := by decide +kernel
theorem dX7_greater_29 : decode cX7_greater 29 = .ok (.bipush 10, 2) := by decide +kernel
theorem dX7_greater_31 : decode cX7_greater 31 = .ok (.istore_n 3, 1) := by decide +kernel
theorem dX7_greater_32 : decode cX7_greater 32 = .ok (.aload_n 0, 1) := by decide +kernel
theorem dX7_greater_33 : decode cX7_greater 33 = .ok (.getfield 148, 3) := by decide +kernel
theorem dX7_greater_36 : decode cX7_greater 36 = .ok (.bipush (-6), 2) := by decide +kernel
theorem dX7_greater_38 : decode cX7_greater 38 = .ok (.if_icmp .ne 63, 3) := by decide +kernel
theorem dX7_greater_41 : decode cX7_greater 41 = .ok (.aload_n 0, 1) := by decide +kernel
theorem dX7_greater_42 : decode cX7_greater 42 = .ok (.invokevirtual 151, 3) := by decide +kernel
theorem dX7_greater_45 : decode cX7_greater 45 = .ok (.bipush (-6), 2) := by decide +kernel
theorem dX7_greater_47 : decode cX7_greater 47 = .ok (.if_icmp .eq 54, 3) := by decide +kernel
theorem dX7_greater_50 : decode cX7_greater 50 = .ok (.iload_n 3, 1) := by decide +kernel
theorem dX7_greater_51 : decode cX7_greater 51 = .ok (.ifCond .le 50, 3) := by decide +kernel
theorem dX7_greater_54 : decode cX7_greater 54 = .ok (.bipush 10, 2) := by decide +kernel
theorem dX7_greater_56 : decode cX7_greater 56 = .ok (.iload_n 2, 1) := by decide +kernel
theorem dX7_greater_57 : decode cX7_greater 57 = .ok (.imul, 1) := by decide +kernel
theorem dX7_greater_58 : decode cX7_greater 58 = .ok (.aload_n 0, 1) := by decide +kernel
theorem dX7_greater_59 : decode cX7_greater 59 = .ok (.invokevirtual 151, 3) := by decide +kernel
theorem dX7_greater_62 : decode cX7_greater 62 = .ok (.iadd, 1) := by decide +kernel
theorem dX7_greater_63 : decode cX7_greater 63 = .ok (.iload_n 3, 1) := by decide +kernel
theorem dX7_greater_64 : decode cX7_greater 64 = .ok (.imul, 1) := by decide +kernel
theorem dX7_greater_65 : decode cX7_greater 65 = .ok (.iload_n 3, 1) := by decide +kernel
theorem dX7_greater_66 : decode cX7_greater 66 = .ok (.iadd, 1) := by decide +kernel
theorem dX7_greater_67 : decode cX7_greater 67 = .ok (.iconst 1, 1) := by decide +kernel
theorem dX7_greater_68 : decode cX7_greater 68 = .ok (.isub, 1) := by decide +kernel
theorem dX7_greater_69 : decode cX7_greater 69 = .ok (.iload_n 1, 1) := by decide +kernel
theorem dX7_greater_70 : decode cX7_greater 70 = .ok (.if_icmp .le 31, 3) := by decide +kernel
theorem dX7_greater_73 : decode cX7_greater 73 = .ok (.bipush 10, 2) := by decide +kernel
theorem dX7_greater_75 : decode cX7_greater 75 = .ok (.iload_n 2, 1) := by decide +kernel
theorem dX7_greater_76 : decode cX7_greater 76 = .ok (.imul, 1) := by decide +kernel
theorem dX7_greater_77 : decode cX7_greater 77 = .ok (.aload_n 0, 1) := by decide +kernel
theorem dX7_greater_78 : decode cX7_greater 78 = .ok (.invokevirtual 151, 3) := by decide +kernel
theorem dX7_greater_81 : decode cX7_greater 81 = .ok (.iadd, 1) := by decide +kernel
theorem dX7_greater_82 : decode cX7_greater 82 = .ok (.istore_n 2, 1) := by decide +kernel
theorem dX7_greater_83 : decode cX7_greater 83 = .ok (.aload_n 0, 1) := by decide +kernel
theorem dX7_greater_84 : decode cX7_greater 84 = .ok (.dup, 1) := by decide +kernel
theorem dX7_greater_85 : decode cX7_greater 85 = .ok (.getfield 142, 3) := by decide +kernel
theorem dX7_greater_88 : decode cX7_greater 88 = .ok (.iconst 1, 1) := by decide +kernel
theorem dX7_greater_89 : decode cX7_greater 89 = .ok (.iadd, 1) := by decide +kernel
theorem dX7_greater_90 : decode cX7_greater 90 = .ok (.putfield 142, 3) := by decide +kernel
theorem dX7_greater_93 : decode cX7_greater 93 = .ok (.iload_n 3, 1) := by decide +kernel
theorem dX7_greater_94 : decode cX7_greater 94 = .ok (.bipush 10, 2) := by decide +kernel
theorem dX7_greater_96 : decode cX7_greater 96 = .ok (.idiv, 1) := by decide +kernel
theorem dX7_greater_97 : decode cX7_greater 97 = .ok (.istore_n 3, 1) := by decide +kernel
theorem dX7_greater_98 : decode cX7_greater 98 = .ok (.goto (-66), 3) := by decide +kernel
theorem dX7_greater_101 : decode cX7_greater 101 = .ok (.aload_n 0, 1) := by decide +kernel
theorem dX7_greater_102 : decode cX7_greater 102 = .ok (.getfield 148, 3) := by decide +kernel
theorem dX7_greater_105 : decode cX7_greater 105 = .ok (.bipush (-6), 2) := by decide +kernel
theorem dX7_greater_107 : decode cX7_greater 107 = .ok (.if_icmp .ne 16, 3) := by decide +kernel
theorem dX7_greater_110 : decode cX7_greater 110 = .ok (.iload_n 2, 1) := by decide +kernel
theorem dX7_greater_111 : decode cX7_greater 111 = .ok (.iload_n 1, 1) := by decide +kernel
theorem dX7_greater_112 : decode cX7_greater 112 = .ok (.if_icmp .gt 11, 3) := by decide +kernel
theorem dX7_greater_115 : decode cX7_greater 115 = .ok (.aload_n 0, 1) := by decide +kernel
theorem dX7_greater_116 : decode cX7_greater 116 = .ok (.aload_n 0, 1) := by decide +kernel
theorem dX7_greater_117 : decode cX7_greater 117 = .ok (.getfield 142, 3) := by decide +kernel
theorem dX7_greater_120 : decode cX7_greater 120 = .ok (.putfield 148, 3) := by decide +kernel
theorem dX7_greater_123 : decode cX7_greater 123 = .ok (.iload_n 2, 1) := by decide +kernel
theorem dX7_greater_124 : decode cX7_greater 124 = .ok (.ireturn, 1) := by decide +kernel
set_option maxRecDepth 20000 in
theorem ggX7_number_X7_figure : GoodIn wsX7_number wsX7_figure := goodIn_r _ [7, 8, 9, 10, 6, 11, 2, 12, 13, 14, 15, 16, 21, 22, 23, 24, 25, 26, 27, 28, 29, 30, 31, 32] (by decide +kernel) (by decide +kernel)
set_option maxRecDepth 20000 in
theorem gX7_number_X7_figure : GoodIn wsX7_number (wsV RX7 151 RX7 yX7_figure wsX7_figure) := goodIn_app (goodIn_of _ (by decide +kernel)) ggX7_number_X7_figure
set_option maxRecDepth 20000 in
theorem ggX7_number_X7_wants : GoodIn wsX7_number wsX7_wants := goodIn_r _ [20, 1, 2, 21, 22, 23, 24, 25, 26, 27, 28, 29, 30, 31, 32] (by decide +kernel) (by decide +kernel)
set_option maxRecDepth 20000 in
theorem gX7_number_X7_wants : GoodIn wsX7_number (wsV RX7 154 RX7 yX7_wants wsX7_wants) := goodIn_app (goodIn_of _ (by decide +kernel)) ggX7_number_X7_wants
theorem dX7_number_0 : decode cX7_number 0 = .ok (.aload_n 0, 1) := by decide +kernel
theorem dX7_number_1 : decode cX7_number 1 = .ok (.invokevirtual 151, 3) := by decide +kernel
theorem dX7_number_4 : decode cX7_number 4 = .ok (.istore_n 1, 1) := by decide +kernel
theorem dX7_number_5 : decode cX7_number 5 = .ok (.aload_n 0, 1) := by decide +kernel
theorem dX7_number_6 : decode cX7_number 6 = .ok (.iload_n 1, 1) := by decide +kernel
theorem dX7_number_7 : decode cX7_number 7 = .ok (.ifCond .le 7, 3) := by decide +kernel
theorem dX7_number_10 : decode cX7_number 10 = .ok (.iconst 1, 1) := by decide +kernel
theorem dX7_number_11 : decode cX7_number 11 = .ok (.goto 4, 3) := by decide +kernel
theorem dX7_number_14 : decode cX7_number 14 = .ok (.iconst 0, 1) := by decide +kernel
theorem dX7_number_15 : decode cX7_number 15 = .ok (.invokevirtual 154, 3) := by decide +kernel
theorem dX7_number_18 : decode cX7_number 18 = .ok (.aload_n 0, 1) := by decide +kernel
theorem dX7_number_19 : decode cX7_number 19 = .ok (.getfield 148, 3) := by decide +kernel
theorem dX7_number_22 : decode cX7_number 22 = .ok (.bipush (-6), 2) := by decide +kernel
theorem dX7_number_24 : decode cX7_number 24 = .ok (.if_icmp .ne 34, 3) := by decide +kernel
theorem dX7_number_27 : decode cX7_number 27 = .ok (.iload_n 1, 1) := by decide +kernel
theorem dX7_number_28 : decode cX7_number 28 = .ok (.iconst 1, 1) := by decide +kernel
theorem dX7_number_29 : decode cX7_number 29 = .ok (.if_icmp .ne 29, 3) := by decide +kernel
theorem dX7_number_32 : decode cX7_number 32 = .ok (.bipush 10, 2) := by decide +kernel
theorem dX7_number_34 : decode cX7_number 34 = .ok (.aload_n 0, 1) := by decide +kernel
theorem dX7_number_35 : decode cX7_number 35 = .ok (.invokevirtual 151, 3) := by decide +kernel
theorem dX7_number_38 : decode cX7_number 38 = .ok (.iadd, 1) := by decide +kernel
theorem dX7_number_39 : decode cX7_number 39 = .ok (.istore_n 1, 1) := by decide +kernel
theorem dX7_number_40 : decode cX7_number 40 = .ok (.aload_n 0, 1) := by decide +kernel
theorem dX7_number_41 : decode cX7_number 41 = .ok (.iload_n 1, 1) := by decide +kernel
theorem dX7_number_42 : decode cX7_number 42 = .ok (.bipush 10, 2) := by decide +kernel
theorem dX7_number_44 : decode cX7_number 44 = .ok (.if_icmp .lt 7, 3) := by decide +kernel
theorem dX7_number_47 : decode cX7_number 47 = .ok (.iconst 1, 1) := by decide +kernel
theorem dX7_number_48 : decode cX7_number 48 = .ok (.goto 4, 3) := by decide +kernel
theorem dX7_number_51 : decode cX7_number 51 = .ok (.iconst 0, 1) := by decide +kernel
theorem dX7_number_52 : decode cX7_number 52 = .ok (.invokevirtual 154, 3) := by decide +kernel
theorem dX7_number_55 : decode cX7_number 55 = .ok (.goto 37, 3) := by decide +kernel
theorem dX7_number_58 : decode cX7_number 58 = .ok (.aload_n 0, 1) := by decide +kernel
theorem dX7_number_59 : decode cX7_number 59 = .ok (.getfield 148, 3) := by decide +kernel
theorem dX7_number_62 : decode cX7_number 62 = .ok (.bipush (-6), 2) := by decide +kernel
theorem dX7_number_64 : decode cX7_number 64 = .ok (.if_icmp .ne 28, 3) := by decide +kernel
theorem dX7_number_67 : decode cX7_number 67 = .ok (.iload_n 1, 1) := by decide +kernel
theorem dX7_number_68 : decode cX7_number 68 = .ok (.iconst 2, 1) := by decide +kernel
theorem dX7_number_69 : decode cX7_number 69 = .ok (.if_icmp .ne 23, 3) := by decide +kernel
theorem dX7_number_72 : decode cX7_number 72 = .ok (.aload_n 0, 1) := by decide +kernel
theorem dX7_number_73 : decode cX7_number 73 = .ok (.invokevirtual 151, 3) := by decide +kernel
theorem dX7_number_76 : decode cX7_number 76 = .ok (.ifCond .ne 16, 3) := by decide +kernel
theorem dX7_number_79 : decode cX7_number 79 = .ok (.bipush 20, 2) := by decide +kernel
theorem dX7_number_81 : decode cX7_number 81 = .ok (.istore_n 1, 1) := by decide +kernel
theorem dX7_number_82 : decode cX7_number 82 = .ok (.aload_n 0, 1) := by decide +kernel
theorem dX7_number_83 : decode cX7_number 83 = .ok (.dup, 1) := by decide +kernel
theorem dX7_number_84 : decode cX7_number 84 = .ok (.getfield 142, 3) := by decide +kernel
theorem dX7_number_87 : decode cX7_number 87 = .ok (.iconst 1, 1) := by decide +kernel
theorem dX7_number_88 : decode cX7_number 88 = .ok (.iadd, 1) := by decide +kernel
theorem dX7_number_89 : decode cX7_number 89 = .ok (.putfield 142, 3) := by decide +kernel
theorem dX7_number_92 : decode cX7_number 92 = .ok (.iload_n 1, 1) := by decide +kernel
theorem dX7_number_93 : decode cX7_number 93 = .ok (.ireturn, 1) := by decide +kernel
set_option maxRecDepth 20000 in
theorem ggX7_readItem_X7_key : GoodIn wsX7_readItem wsX7_key := goodIn_r _ [9, 3, 4, 10, 11, 12, 8, 13, 14, 15, 16, 17, 18, 19, 20, 21, 22, 23, 24, 25, 26, 35, 36, 37, 38, 39, 40, 41, 42, 43, 44, 45, 46] (by decide +kernel) (by decide +kernel)
set_option maxRecDepth 20000 in
theorem gX7_readItem_X7_key : GoodIn wsX7_readItem (wsV RX7 161 RX7 yX7_key wsX7_key) := goodIn_app (goodIn_of _ (by decide +kernel)) ggX7_readItem_X7_key
set_option maxRecDepth 20000 in
theorem ggX7_readItem_X7_letter : GoodIn wsX7_readItem wsX7_letter := goodIn_r _ [17, 4, 18, 19, 35, 36, 37, 38, 39, 40, 41, 42, 43, 44, 45, 46] (by decide +kernel) (by decide +kernel)
set_option maxRecDepth 20000 in
theorem gX7_readItem_X7_letter : GoodIn wsX7_readItem (wsV RX7 145 RX7 yX7_letter wsX7_letter) := goodIn_app (goodIn_of _ (by decide +kernel)) ggX7_readItem_X7_letter
set_option maxRecDepth 20000 in
theorem ggX7_readItem_X7_number : GoodIn wsX7_readItem wsX7_number := goodIn_r _ [30, 3, 4, 10, 11, 12, 8, 13, 14, 15, 16, 17, 18, 19, 20, 21, 22, 23, 24, 25, 26, 35, 36, 37, 38, 39, 40, 41, 42, 43, 44, 45, 46] (by decide +kernel) (by decide +kernel)
set_option maxRecDepth 20000 in
theorem gX7_readItem_X7_number : GoodIn wsX7_readItem (wsV RX7 164 RX7 yX7_number wsX7_number) := goodIn_app (goodIn_of _ (by decide +kernel)) ggX7_readItem_X7_number
set_option maxRecDepth 20000 in
theorem ggX7_readItem_X7_wants : GoodIn wsX7_readItem wsX7_wants := goodIn_r _ [26, 3, 4, 35, 36, 37, 38, 39, 40, 41, 42, 43, 44, 45, 46] (by decide +kernel) (by decide +kernel)
set_option maxRecDepth 20000 in
theorem gX7_readItem_X7_wants : GoodIn wsX7_readItem (wsV RX7 154 RX7 yX7_wants wsX7_wants) := goodIn_app (goodIn_of _ (by decide +kernel)) ggX7_readItem_X7_wants
set_option maxRecDepth 20000 in
theorem ggX7_readItem_X7_greater : GoodIn wsX7_readItem wsX7_greater := goodIn_r _ [34, 3, 4, 10, 11, 12, 8, 13, 14, 15, 16, 17, 18, 19, 20, 21, 22, 23, 24, 25, 26, 35, 36, 37, 38, 39, 40, 41, 42, 43, 44, 45, 46] (by decide +kernel) (by decide +kernel)
set_option maxRecDepth 20000 in
theorem gX7_readItem_X7_greater : GoodIn wsX7_readItem (wsV RX7 167 RX7 yX7_greater wsX7_greater) := goodIn_app (goodIn_of _ (by decide +kernel)) ggX7_readItem_X7_greater
theorem dX7_readItem_0 : decode cX7_readItem 0 = .ok (.iconst 3, 1) := by decide +kernel
theorem dX7_readItem_1 : decode cX7_readItem 1 = .ok (.aload_n 0, 1) := by decide +kernel
theorem dX7_readItem_2 : decode cX7_readItem 2 = .ok (.getfield 158, 3) := by decide +kernel
theorem dX7_readItem_5 : decode cX7_readItem 5 = .ok (.imul, 1) := by decide +kernel
theorem dX7_readItem_6 : decode cX7_readItem 6 = .ok (.istore_n 1, 1) := by decide +kernel
theorem dX7_readItem_7 : decode cX7_readItem 7 = .ok (.aload_n 0, 1) := by decide +kernel
theorem dX7_readItem_8 : decode cX7_readItem 8 = .ok (.invokevirtual 161, 3) := by decide +kernel
theorem dX7_readItem_11 : decode cX7_readItem 11 = .ok (.istore_n 2, 1) := by decide +kernel
theorem dX7_readItem_12 : decode cX7_readItem 12 = .ok (.aload_n 0, 1) := by decide +kernel
theorem dX7_readItem_13 : decode cX7_readItem 13 = .ok (.getfield 26, 3) := by decide +kernel
theorem dX7_readItem_16 : decode cX7_readItem 16 = .ok (.iload_n 1, 1) := by decide +kernel
theorem dX7_readItem_17 : decode cX7_readItem 17 = .ok (.iload_n 2, 1) := by decide +kernel
theorem dX7_readItem_18 : decode cX7_readItem 18 = .ok (.iastore, 1) := by decide +kernel
theorem dX7_readItem_19 : decode cX7_readItem 19 = .ok (.aload_n 0, 1) := by decide +kernel
theorem dX7_readItem_20 : decode cX7_readItem 20 = .ok (.getfield 26, 3) := by decide +kernel
theorem dX7_readItem_23 : decode cX7_readItem 23 = .ok (.iload_n 1, 1) := by decide +kernel
theorem dX7_readItem_24 : decode cX7_readItem 24 = .ok (.iconst 1, 1) := by decide +kernel
theorem dX7_readItem_25 : decode cX7_readItem 25 = .ok (.iadd, 1) := by decide +kernel
theorem dX7_readItem_26 : decode cX7_readItem 26 = .ok (.iconst 1, 1) := by decide +kernel
theorem dX7_readItem_27 : decode cX7_readItem 27 = .ok (.iastore, 1) := by decide +kernel
theorem dX7_readItem_28 : decode cX7_readItem 28 = .ok (.aload_n 0, 1) := by decide +kernel
theorem dX7_readItem_29 : decode cX7_readItem 29 = .ok (.getfield 26, 3) := by decide +kernel
theorem dX7_readItem_32 : decode cX7_readItem 32 = .ok (.iload_n 1, 1) := by decide +kernel
theorem dX7_readItem_33 : decode cX7_readItem 33 = .ok (.iconst 2, 1) := by decide +kernel
theorem dX7_readItem_34 : decode cX7_readItem 34 = .ok (.iadd, 1) := by decide +kernel
theorem dX7_readItem_35 : decode cX7_readItem 35 = .ok (.iconst 0, 1) := by decide +kernel
theorem dX7_readItem_36 : decode cX7_readItem 36 = .ok (.iastore, 1) := by decide +kernel
theorem dX7_readItem_37 : decode cX7_readItem 37 = .ok (.aload_n 0, 1) := by decide +kernel
theorem dX7_readItem_38 : decode cX7_readItem 38 = .ok (.getfield 148, 3) := by decide +kernel
theorem dX7_readItem_41 : decode cX7_readItem 41 = .ok (.bipush (-6), 2) := by decide +kernel
theorem dX7_readItem_43 : decode cX7_readItem 43 = .ok (.if_icmp .ne 37, 3) := by decide +kernel
theorem dX7_readItem_46 : decode cX7_readItem 46 = .ok (.aload_n 0, 1) := by decide +kernel
theorem dX7_readItem_47 : decode cX7_readItem 47 = .ok (.invokevirtual 145, 3) := by decide +kernel
theorem dX7_readItem_50 : decode cX7_readItem 50 = .ok (.bipush 120, 2) := by decide +kernel
theorem dX7_readItem_52 : decode cX7_readItem 52 = .ok (.if_icmp .ne 28, 3) := by decide +kernel
theorem dX7_readItem_55 : decode cX7_readItem 55 = .ok (.aload_n 0, 1) := by decide +kernel
theorem dX7_readItem_56 : decode cX7_readItem 56 = .ok (.dup, 1) := by decide +kernel
theorem dX7_readItem_57 : decode cX7_readItem 57 = .ok (.getfield 142, 3) := by decide +kernel
theorem dX7_readItem_60 : decode cX7_readItem 60 = .ok (.iconst 1, 1) := by decide +kernel
theorem dX7_readItem_61 : decode cX7_readItem 61 = .ok (.iadd, 1) := by decide +kernel
theorem dX7_readItem_62 : decode cX7_readItem 62 = .ok (.putfield 142, 3) := by decide +kernel
theorem dX7_readItem_65 : decode cX7_readItem 65 = .ok (.aload_n 0, 1) := by decide +kernel
theorem dX7_readItem_66 : decode cX7_readItem 66 = .ok (.getfield 26, 3) := by decide +kernel
theorem dX7_readItem_69 : decode cX7_readItem 69 = .ok (.iload_n 1, 1) := by decide +kernel
theorem dX7_readItem_70 : decode cX7_readItem 70 = .ok (.iconst 1, 1) := by decide +kernel
theorem dX7_readItem_71 : decode cX7_readItem 71 = .ok (.iadd, 1) := by decide +kernel
theorem dX7_readItem_72 : decode cX7_readItem 72 = .ok (.aload_n 0, 1) := by decide +kernel
theorem dX7_readItem_73 : decode cX7_readItem 73 = .ok (.invokevirtual 164, 3) := by decide +kernel
theorem dX7_readItem_76 : decode cX7_readItem 76 = .ok (.iastore, 1) := by decide +kernel
theorem dX7_readItem_77 : decode cX7_readItem 77 = .ok (.goto 72, 3) := by decide +kernel
theorem dX7_readItem_80 : decode cX7_readItem 80 = .ok (.aload_n 0, 1) := by decide +kernel
theorem dX7_readItem_81 : decode cX7_readItem 81 = .ok (.getfield 148, 3) := by decide +kernel
theorem dX7_readItem_84 : decode cX7_readItem 84 = .ok (.bipush (-6), 2) := by decide +kernel
theorem dX7_readItem_86 : decode cX7_readItem 86 = .ok (.if_icmp .ne 63, 3) := by decide +kernel
theorem dX7_readItem_89 : decode cX7_readItem 89 = .ok (.aload_n 0, 1) := by decide +kernel
theorem dX7_readItem_90 : decode cX7_readItem 90 = .ok (.invokevirtual 145, 3) := by decide +kernel
theorem dX7_readItem_93 : decode cX7_readItem 93 = .ok (.bipush 45, 2) := by decide +kernel
theorem dX7_readItem_95 : decode cX7_readItem 95 = .ok (.if_icmp .ne 54, 3) := by decide +kernel
theorem dX7_readItem_98 : decode cX7_readItem 98 = .ok (.aload_n 0, 1) := by decide +kernel
theorem dX7_readItem_99 : decode cX7_readItem 99 = .ok (.iload_n 2, 1) := by decide +kernel
theorem dX7_readItem_100 : decode cX7_readItem 100 = .ok (.sipush 999, 3) := by decide +kernel
theorem dX7_readItem_103 : decode cX7_readItem 103 = .ok (.if_icmp .ge 7, 3) := by decide +kernel
theorem dX7_readItem_106 : decode cX7_readItem 106 = .ok (.iconst 1, 1) := by decide +kernel
theorem dX7_readItem_107 : decode cX7_readItem 107 = .ok (.goto 4, 3) := by decide +kernel
theorem dX7_readItem_110 : decode cX7_readItem 110 = .ok (.iconst 0, 1) := by decide +kernel
theorem dX7_readItem_111 : decode cX7_readItem 111 = .ok (.invokevirtual 154, 3) := by decide +kernel
theorem dX7_readItem_114 : decode cX7_readItem 114 = .ok (.aload_n 0, 1) := by decide +kernel
theorem dX7_readItem_115 : decode cX7_readItem 115 = .ok (.getfield 148, 3) := by decide +kernel
theorem dX7_readItem_118 : decode cX7_readItem 118 = .ok (.bipush (-6), 2) := by decide +kernel
theorem dX7_readItem_120 : decode cX7_readItem 120 = .ok (.if_icmp .ne 29, 3) := by decide +kernel
theorem dX7_readItem_123 : decode cX7_readItem 123 = .ok (.aload_n 0, 1) := by decide +kernel
theorem dX7_readItem_124 : decode cX7_readItem 124 = .ok (.getfield 26, 3) := by decide +kernel
theorem dX7_readItem_127 : decode cX7_readItem 127 = .ok (.iload_n 1, 1) := by decide +kernel
theorem dX7_readItem_128 : decode cX7_readItem 128 = .ok (.iconst 1, 1) := by decide +kernel
theorem dX7_readItem_129 : decode cX7_readItem 129 = .ok (.iadd, 1) := by decide +kernel
theorem dX7_readItem_130 : decode cX7_readItem 130 = .ok (.aload_n 0, 1) := by decide +kernel
theorem dX7_readItem_131 : decode cX7_readItem 131 = .ok (.iload_n 2, 1) := by decide +kernel
theorem dX7_readItem_132 : decode cX7_readItem 132 = .ok (.invokevirtual 167, 3) := by decide +kernel
theorem dX7_readItem_135 : decode cX7_readItem 135 = .ok (.iload_n 2, 1) := by decide +kernel
theorem dX7_readItem_136 : decode cX7_readItem 136 = .ok (.isub, 1) := by decide +kernel
theorem dX7_readItem_137 : decode cX7_readItem 137 = .ok (.iconst 1, 1) := by decide +kernel
theorem dX7_readItem_138 : decode cX7_readItem 138 = .ok (.iadd, 1) := by decide +kernel
theorem dX7_readItem_139 : decode cX7_readItem 139 = .ok (.iastore, 1) := by decide +kernel
theorem dX7_readItem_140 : decode cX7_readItem 140 = .ok (.aload_n 0, 1) := by decide +kernel
theorem dX7_readItem_141 : decode cX7_readItem 141 = .ok (.getfield 26, 3) := by decide +kernel
theorem dX7_readItem_144 : decode cX7_readItem 144 = .ok (.iload_n 1, 1) := by decide +kernel
theorem dX7_readItem_145 : decode cX7_readItem 145 = .ok (.iconst 2, 1) := by decide +kernel
theorem dX7_readItem_146 : decode cX7_readItem 146 = .ok (.iadd, 1) := by decide +kernel
theorem dX7_readItem_147 : decode cX7_readItem 147 = .ok (.iconst 1, 1) := by decide +kernel
theorem dX7_readItem_148 : decode cX7_readItem 148 = .ok (.iastore, 1) := by decide +kernel
theorem dX7_readItem_149 : decode cX7_readItem 149 = .ok (.aload_n 0, 1) := by decide +kernel
theorem dX7_readItem_150 : decode cX7_readItem 150 = .ok (.dup, 1) := by decide +kernel
theorem dX7_readItem_151 : decode cX7_readItem 151 = .ok (.getfield 158, 3) := by decide +kernel
theorem dX7_readItem_154 : decode cX7_readItem 154 = .ok (.iconst 1, 1) := by decide +kernel
theorem dX7_readItem_155 : decode cX7_readItem 155 = .ok (.iadd, 1) := by decide +kernel
theorem dX7_readItem_156 : decode cX7_readItem 156 = .ok (.putfield 158, 3) := by decide +kernel
theorem dX7_readItem_159 : decode cX7_readItem 159 = .ok (.return_, 1) := by decide +kernel
set_option maxRecDepth 20000 in
theorem ggX7_errorPosition_X7_readItem : GoodIn wsX7_errorPosition wsX7_readItem := goodIn_r _ [9, 1, 10, 3, 2, 11, 12, 13, 8, 14, 15, 16, 17, 18, 19, 20, 21, 22, 4, 23, 24, 25, 26, 27, 28, 29, 30, 31, 32, 33, 34, 35, 36, 37, 38, 39, 40, 41, 42, 43, 44, 45, 46, 47, 48, 49, 50] (by decide +kernel) (by decide +kernel)
set_option maxRecDepth 20000 in
theorem gX7_errorPosition_X7_readItem : GoodIn wsX7_errorPosition (wsV RX7 170 RX7 yX7_readItem wsX7_readItem) := goodIn_app (goodIn_of _ (by decide +kernel)) ggX7_errorPosition_X7_readItem
set_option maxRecDepth 20000 in
theorem ggX7_errorPosition_X7_letter : GoodIn wsX7_errorPosition wsX7_letter := goodIn_r _ [22, 2, 4, 23, 39, 40, 41, 42, 43, 44, 45, 46, 47, 48, 49, 50] (by decide +kernel) (by decide +kernel)
set_option maxRecDepth 20000 in
theorem gX7_errorPosition_X7_letter : GoodIn wsX7_errorPosition (wsV RX7 145 RX7 yX7_letter wsX7_letter) := goodIn_app (goodIn_of _ (by decide +kernel)) ggX7_errorPosition_X7_letter
set_option maxRecDepth 20000 in
theorem ggX7_errorPosition_X7_wants : GoodIn wsX7_errorPosition wsX7_wants := goodIn_r _ [30, 3, 2, 39, 40, 41, 42, 43, 44, 45, 46, 47, 48, 49, 50] (by decide +kernel) (by decide +kernel)
set_option maxRecDepth 20000 in
theorem gX7_errorPosition_X7_wants : GoodIn wsX7_errorPosition (wsV RX7 154 RX7 yX7_wants wsX7_wants) := goodIn_app (goodIn_of _ (by decide +kernel)) ggX7_errorPosition_X7_wants
theorem dX7_errorPosition_0 : decode cX7_errorPosition 0 = .ok (.aload_n 0, 1) := by decide +kernel
theorem dX7_errorPosition_1 : decode cX7_errorPosition 1 = .ok (.iconst 0, 1) := by decide +kernel
theorem dX7_errorPosition_2 : decode cX7_errorPosition 2 = .ok (.putfield 158, 3) := by decide +kernel
theorem dX7_errorPosition_5 : decode cX7_errorPosition 5 = .ok (.aload_n 0, 1) := by decide +kernel
theorem dX7_errorPosition_6 : decode cX7_errorPosition 6 = .ok (.iconst 0, 1) := by decide +kernel
theorem dX7_errorPosition_7 : decode cX7_errorPosition 7 = .ok (.putfield 142, 3) := by decide +kernel
theorem dX7_errorPosition_10 : decode cX7_errorPosition 10 = .ok (.aload_n 0, 1) := by decide +kernel
theorem dX7_errorPosition_11 : decode cX7_errorPosition 11 = .ok (.bipush (-6), 2) := by decide +kernel
theorem dX7_errorPosition_13 : decode cX7_errorPosition 13 = .ok (.putfield 148, 3) := by decide +kernel
theorem dX7_errorPosition_16 : decode cX7_errorPosition 16 = .ok (.iconst 1, 1) := by decide +kernel
theorem dX7_errorPosition_17 : decode cX7_errorPosition 17 = .ok (.istore_n 1, 1) := by decide +kernel
theorem dX7_errorPosition_18 : decode cX7_errorPosition 18 = .ok (.iload_n 1, 1) := by decide +kernel
theorem dX7_errorPosition_19 : decode cX7_errorPosition 19 = .ok (.ifCond .eq 73, 3) := by decide +kernel
theorem dX7_errorPosition_22 : decode cX7_errorPosition 22 = .ok (.aload_n 0, 1) := by decide +kernel
theorem dX7_errorPosition_23 : decode cX7_errorPosition 23 = .ok (.invokevirtual 170, 3) := by decide +kernel
theorem dX7_errorPosition_26 : decode cX7_errorPosition 26 = .ok (.aload_n 0, 1) := by decide +kernel
theorem dX7_errorPosition_27 : decode cX7_errorPosition 27 = .ok (.getfield 148, 3) := by decide +kernel
theorem dX7_errorPosition_30 : decode cX7_errorPosition 30 = .ok (.bipush (-6), 2) := by decide +kernel
theorem dX7_errorPosition_32 : decode cX7_errorPosition 32 = .ok (.if_icmp .ne 18, 3) := by decide +kernel
theorem dX7_errorPosition_35 : decode cX7_errorPosition 35 = .ok (.aload_n 0, 1) := by decide +kernel
theorem dX7_errorPosition_36 : decode cX7_errorPosition 36 = .ok (.getfield 142, 3) := by decide +kernel
theorem dX7_errorPosition_39 : decode cX7_errorPosition 39 = .ok (.aload_n 0, 1) := by decide +kernel
theorem dX7_errorPosition_40 : decode cX7_errorPosition 40 = .ok (.getfield 139, 3) := by decide +kernel
theorem dX7_errorPosition_43 : decode cX7_errorPosition 43 = .ok (.if_icmp .ge 7, 3) := by decide +kernel
theorem dX7_errorPosition_46 : decode cX7_errorPosition 46 = .ok (.iconst 1, 1) := by decide +kernel
theorem dX7_errorPosition_47 : decode cX7_errorPosition 47 = .ok (.goto 4, 3) := by decide +kernel
theorem dX7_errorPosition_50 : decode cX7_errorPosition 50 = .ok (.iconst 0, 1) := by decide +kernel
theorem dX7_errorPosition_51 : decode cX7_errorPosition 51 = .ok (.istore_n 1, 1) := by decide +kernel
theorem dX7_errorPosition_52 : decode cX7_errorPosition 52 = .ok (.iload_n 1, 1) := by decide +kernel
theorem dX7_errorPosition_53 : decode cX7_errorPosition 53 = .ok (.ifCond .eq (-35), 3) := by decide +kernel
theorem dX7_errorPosition_56 : decode cX7_errorPosition 56 = .ok (.aload_n 0, 1) := by decide +kernel
theorem dX7_errorPosition_57 : decode cX7_errorPosition 57 = .ok (.aload_n 0, 1) := by decide +kernel
theorem dX7_errorPosition_58 : decode cX7_errorPosition 58 = .ok (.invokevirtual 145, 3) := by decide +kernel
theorem dX7_errorPosition_61 : decode cX7_errorPosition 61 = .ok (.bipush 44, 2) := by decide +kernel
theorem dX7_errorPosition_63 : decode cX7_errorPosition 63 = .ok (.if_icmp .ne 7, 3) := by decide +kernel
theorem dX7_errorPosition_66 : decode cX7_errorPosition 66 = .ok (.iconst 1, 1) := by decide +kernel
theorem dX7_errorPosition_67 : decode cX7_errorPosition 67 = .ok (.goto 4, 3) := by decide +kernel
theorem dX7_errorPosition_70 : decode cX7_errorPosition 70 = .ok (.iconst 0, 1) := by decide +kernel
theorem dX7_errorPosition_71 : decode cX7_errorPosition 71 = .ok (.invokevirtual 154, 3) := by decide +kernel
theorem dX7_errorPosition_74 : decode cX7_errorPosition 74 = .ok (.aload_n 0, 1) := by decide +kernel
theorem dX7_errorPosition_75 : decode cX7_errorPosition 75 = .ok (.getfield 148, 3) := by decide +kernel
theorem dX7_errorPosition_78 : decode cX7_errorPosition 78 = .ok (.bipush (-6), 2) := by decide +kernel
theorem dX7_errorPosition_80 : decode cX7_errorPosition 80 = .ok (.if_icmp .ne 7, 3) := by decide +kernel
theorem dX7_errorPosition_83 : decode cX7_errorPosition 83 = .ok (.iconst 1, 1) := by decide +kernel
theorem dX7_errorPosition_84 : decode cX7_errorPosition 84 = .ok (.goto 4, 3) := by decide +kernel
theorem dX7_errorPosition_87 : decode cX7_errorPosition 87 = .ok (.iconst 0, 1) := by decide +kernel
theorem dX7_errorPosition_88 : decode cX7_errorPosition 88 = .ok (.istore_n 1, 1) := by decide +kernel
theorem dX7_errorPosition_89 : decode cX7_errorPosition 89 = .ok (.goto (-71), 3) := by decide +kernel
theorem dX7_errorPosition_92 : decode cX7_errorPosition 92 = .ok (.aload_n 0, 1) := by decide +kernel
theorem dX7_errorPosition_93 : decode cX7_errorPosition 93 = .ok (.getfield 148, 3) := by decide +kernel
theorem dX7_errorPosition_96 : decode cX7_errorPosition 96 = .ok (.ireturn, 1) := by decide +kernel
set_option maxRecDepth 20000 in
theorem ggX7_read_X7_errorPosition : GoodIn wsX7_read wsX7_errorPosition := goodIn_r _ [9, 2, 10, 11, 4, 12, 13, 14, 8, 15, 3, 16, 17, 18, 19, 20, 21, 22, 23, 24, 25, 26, 27, 28, 29, 30, 31, 32, 33, 34, 35, 36, 37, 38, 39, 40, 41, 42, 43, 74, 75, 76, 77, 78, 79, 80, 81, 82, 83, 84, 85] (by decide +kernel) (by decide +kernel)
set_option maxRecDepth 20000 in
theorem gX7_read_X7_errorPosition : GoodIn wsX7_read (wsV RX7 173 RX7 yX7_errorPosition wsX7_errorPosition) := goodIn_app (goodIn_of _ (by decide +kernel)) ggX7_read_X7_errorPosition
set_option maxRecDepth 20000 in
theorem ggX7_read_X7_record : GoodIn wsX7_read wsX7_record := goodIn_r _ [47, 48, 49, 1, 74, 75, 76, 77, 78, 79, 80, 81, 82, 83, 84, 85] (by decide +kernel) (by decide +kernel)
set_option maxRecDepth 20000 in
theorem gX7_read_X7_record : GoodIn wsX7_read (wsV RX7 37 RX7 yX7_record wsX7_record) := goodIn_app (goodIn_of _ (by decide +kernel)) ggX7_read_X7_record
set_option maxRecDepth 20000 in
theorem ggX7_read_X7_adds : GoodIn wsX7_read wsX7_adds := goodIn_r _ [53, 1, 54, 55, 56, 8, 57, 58, 59, 60, 61, 62, 63, 64, 65, 66, 67, 68, 69, 70, 71, 72, 73, 74, 75, 76, 77, 78, 79, 80, 81, 82, 83, 84, 85] (by decide +kernel) (by decide +kernel)
set_option maxRecDepth 20000 in
theorem gX7_read_X7_adds : GoodIn wsX7_read (wsV RX7 68 RX7 yX7_adds wsX7_adds) := goodIn_app (goodIn_of _ (by decide +kernel)) ggX7_read_X7_adds
theorem dX7_read_0 : decode cX7_read 0 = .ok (.aload_n 0, 1) := by decide +kernel
theorem dX7_read_1 : decode cX7_read 1 = .ok (.invokevirtual 173, 3) := by decide +kernel
theorem dX7_read_4 : decode cX7_read 4 = .ok (.bipush (-6), 2) := by decide +kernel
theorem dX7_read_6 : decode cX7_read 6 = .ok (.if_icmp .eq 6, 3) := by decide +kernel
theorem dX7_read_9 : decode cX7_read 9 = .ok (.bipush (-5), 2) := by decide +kernel
theorem dX7_read_11 : decode cX7_read 11 = .ok (.ireturn, 1) := by decide +kernel
theorem dX7_read_12 : decode cX7_read 12 = .ok (.aload_n 0, 1) := by decide +kernel
theorem dX7_read_13 : decode cX7_read 13 = .ok (.getfield 7, 3) := by decide +kernel
theorem dX7_read_16 : decode cX7_read 16 = .ok (.iconst 2, 1) := by decide +kernel
theorem dX7_read_17 : decode cX7_read 17 = .ok (.iaload, 1) := by decide +kernel
theorem dX7_read_18 : decode cX7_read 18 = .ok (.ifCond .ne 6, 3) := by decide +kernel
theorem dX7_read_21 : decode cX7_read 21 = .ok (.bipush (-3), 2) := by decide +kernel
theorem dX7_read_23 : decode cX7_read 23 = .ok (.ireturn, 1) := by decide +kernel
theorem dX7_read_24 : decode cX7_read 24 = .ok (.aload_n 0, 1) := by decide +kernel
theorem dX7_read_25 : decode cX7_read 25 = .ok (.invokevirtual 37, 3) := by decide +kernel
theorem dX7_read_28 : decode cX7_read 28 = .ok (.aload_n 0, 1) := by decide +kernel
theorem dX7_read_29 : decode cX7_read 29 = .ok (.getfield 7, 3) := by decide +kernel
theorem dX7_read_32 : decode cX7_read 32 = .ok (.iconst 3, 1) := by decide +kernel
theorem dX7_read_33 : decode cX7_read 33 = .ok (.iaload, 1) := by decide +kernel
theorem dX7_read_34 : decode cX7_read 34 = .ok (.istore_n 1, 1) := by decide +kernel
theorem dX7_read_35 : decode cX7_read 35 = .ok (.iconst 0, 1) := by decide +kernel
theorem dX7_read_36 : decode cX7_read 36 = .ok (.istore_n 2, 1) := by decide +kernel
theorem dX7_read_37 : decode cX7_read 37 = .ok (.iload_n 2, 1) := by decide +kernel
theorem dX7_read_38 : decode cX7_read 38 = .ok (.aload_n 0, 1) := by decide +kernel
theorem dX7_read_39 : decode cX7_read 39 = .ok (.getfield 158, 3) := by decide +kernel
theorem dX7_read_42 : decode cX7_read 42 = .ok (.if_icmp .ge 68, 3) := by decide +kernel
theorem dX7_read_45 : decode cX7_read 45 = .ok (.iconst 0, 1) := by decide +kernel
theorem dX7_read_46 : decode cX7_read 46 = .ok (.istore_n 3, 1) := by decide +kernel
theorem dX7_read_47 : decode cX7_read 47 = .ok (.iload_n 3, 1) := by decide +kernel
theorem dX7_read_48 : decode cX7_read 48 = .ok (.aload_n 0, 1) := by decide +kernel
theorem dX7_read_49 : decode cX7_read 49 = .ok (.getfield 26, 3) := by decide +kernel
theorem dX7_read_52 : decode cX7_read 52 = .ok (.iconst 3, 1) := by decide +kernel
theorem dX7_read_53 : decode cX7_read 53 = .ok (.iload_n 2, 1) := by decide +kernel
theorem dX7_read_54 : decode cX7_read 54 = .ok (.imul, 1) := by decide +kernel
theorem dX7_read_55 : decode cX7_read 55 = .ok (.iconst 1, 1) := by decide +kernel
theorem dX7_read_56 : decode cX7_read 56 = .ok (.iadd, 1) := by decide +kernel
theorem dX7_read_57 : decode cX7_read 57 = .ok (.iaload, 1) := by decide +kernel
theorem dX7_read_58 : decode cX7_read 58 = .ok (.if_icmp .ge 46, 3) := by decide +kernel
theorem dX7_read_61 : decode cX7_read 61 = .ok (.aload_n 0, 1) := by decide +kernel
theorem dX7_read_62 : decode cX7_read 62 = .ok (.getfield 7, 3) := by decide +kernel
theorem dX7_read_65 : decode cX7_read 65 = .ok (.iconst 3, 1) := by decide +kernel
theorem dX7_read_66 : decode cX7_read 66 = .ok (.iaload, 1) := by decide +kernel
theorem dX7_read_67 : decode cX7_read 67 = .ok (.bipush 120, 2) := by decide +kernel
theorem dX7_read_69 : decode cX7_read 69 = .ok (.if_icmp .ge 35, 3) := by decide +kernel
theorem dX7_read_72 : decode cX7_read 72 = .ok (.aload_n 0, 1) := by decide +kernel
theorem dX7_read_73 : decode cX7_read 73 = .ok (.aload_n 0, 1) := by decide +kernel
theorem dX7_read_74 : decode cX7_read 74 = .ok (.getfield 26, 3) := by decide +kernel
theorem dX7_read_77 : decode cX7_read 77 = .ok (.iconst 3, 1) := by decide +kernel
theorem dX7_read_78 : decode cX7_read 78 = .ok (.iload_n 2, 1) := by decide +kernel
theorem dX7_read_79 : decode cX7_read 79 = .ok (.imul, 1) := by decide +kernel
theorem dX7_read_80 : decode cX7_read 80 = .ok (.iaload, 1) := by decide +kernel
theorem dX7_read_81 : decode cX7_read 81 = .ok (.iload_n 3, 1) := by decide +kernel
theorem dX7_read_82 : decode cX7_read 82 = .ok (.aload_n 0, 1) := by decide +kernel
theorem dX7_read_83 : decode cX7_read 83 = .ok (.getfield 26, 3) := by decide +kernel
theorem dX7_read_86 : decode cX7_read 86 = .ok (.iconst 3, 1) := by decide +kernel
theorem dX7_read_87 : decode cX7_read 87 = .ok (.iload_n 2, 1) := by decide +kernel
theorem dX7_read_88 : decode cX7_read 88 = .ok (.imul, 1) := by decide +kernel
theorem dX7_read_89 : decode cX7_read 89 = .ok (.iconst 2, 1) := by decide +kernel
theorem dX7_read_90 : decode cX7_read 90 = .ok (.iadd, 1) := by decide +kernel
theorem dX7_read_91 : decode cX7_read 91 = .ok (.iaload, 1) := by decide +kernel
theorem dX7_read_92 : decode cX7_read 92 = .ok (.imul, 1) := by decide +kernel
theorem dX7_read_93 : decode cX7_read 93 = .ok (.iadd, 1) := by decide +kernel
theorem dX7_read_94 : decode cX7_read 94 = .ok (.invokevirtual 68, 3) := by decide +kernel
theorem dX7_read_97 : decode cX7_read 97 = .ok (.pop, 1) := by decide +kernel
theorem dX7_read_98 : decode cX7_read 98 = .ok (.iinc 3 1, 3) := by decide +kernel
theorem dX7_read_101 : decode cX7_read 101 = .ok (.goto (-54), 3) := by decide +kernel
theorem dX7_read_104 : decode cX7_read 104 = .ok (.iinc 2 1, 3) := by decide +kernel
theorem dX7_read_107 : decode cX7_read 107 = .ok (.goto (-70), 3) := by decide +kernel
theorem dX7_read_110 : decode cX7_read 110 = .ok (.aload_n 0, 1) := by decide +kernel
theorem dX7_read_111 : decode cX7_read 111 = .ok (.iconst 0, 1) := by decide +kernel
theorem dX7_read_112 : decode cX7_read 112 = .ok (.putfield 139, 3) := by decide +kernel
theorem dX7_read_115 : decode cX7_read 115 = .ok (.aload_n 0, 1) := by decide +kernel
theorem dX7_read_116 : decode cX7_read 116 = .ok (.getfield 7, 3) := by decide +kernel
theorem dX7_read_119 : decode cX7_read 119 = .ok (.iconst 3, 1) := by decide +kernel
theorem dX7_read_120 : decode cX7_read 120 = .ok (.iaload, 1) := by decide +kernel
theorem dX7_read_121 : decode cX7_read 121 = .ok (.iload_n 1, 1) := by decide +kernel
theorem dX7_read_122 : decode cX7_read 122 = .ok (.isub, 1) := by decide +kernel
theorem dX7_read_123 : decode cX7_read 123 = .ok (.ireturn, 1) := by decide +kernel
theorem dJ9_floorMod_7cf53_0 : decode cJ9_floorMod_7cf53 0 = .ok (.iload_n 0, 1) := by decide +kernel
theorem dJ9_floorMod_7cf53_1 : decode cJ9_floorMod_7cf53 1 = .ok (.iload_n 1, 1) := by decide +kernel
theorem dJ9_floorMod_7cf53_2 : decode cJ9_floorMod_7cf53 2 = .ok (.irem, 1) := by decide +kernel
theorem dJ9_floorMod_7cf53_3 : decode cJ9_floorMod_7cf53 3 = .ok (.istore_n 2, 1) := by decide +kernel
theorem dJ9_floorMod_7cf53_4 : decode cJ9_floorMod_7cf53 4 = .ok (.iload_n 0, 1) := by decide +kernel
theorem dJ9_floorMod_7cf53_5 : decode cJ9_floorMod_7cf53 5 = .ok (.iload_n 1, 1) := by decide +kernel
theorem dJ9_floorMod_7cf53_6 : decode cJ9_floorMod_7cf53 6 = .ok (.ixor, 1) := by decide +kernel
theorem dJ9_floorMod_7cf53_7 : decode cJ9_floorMod_7cf53 7 = .ok (.ifCond .ge 11, 3) := by decide +kernel
theorem dJ9_floorMod_7cf53_10 : decode cJ9_floorMod_7cf53 10 = .ok (.iload_n 2, 1) := by decide +kernel
theorem dJ9_floorMod_7cf53_11 : decode cJ9_floorMod_7cf53 11 = .ok (.ifCond .eq 7, 3) := by decide +kernel
theorem dJ9_floorMod_7cf53_14 : decode cJ9_floorMod_7cf53 14 = .ok (.iload_n 2, 1) := by decide +kernel
theorem dJ9_floorMod_7cf53_15 : decode cJ9_floorMod_7cf53 15 = .ok (.iload_n 1, 1) := by decide +kernel
theorem dJ9_floorMod_7cf53_16 : decode cJ9_floorMod_7cf53 16 = .ok (.iadd, 1) := by decide +kernel
theorem dJ9_floorMod_7cf53_17 : decode cJ9_floorMod_7cf53 17 = .ok (.ireturn, 1) := by decide +kernel
theorem dJ9_floorMod_7cf53_18 : decode cJ9_floorMod_7cf53 18 = .ok (.iload_n 2, 1) := by decide +kernel
theorem dJ9_floorMod_7cf53_19 : decode cJ9_floorMod_7cf53 19 = .ok (.ireturn, 1) := by decide +kernel
theorem dJ9_min_7cf53_0 : decode cJ9_min_7cf53 0 = .ok (.iload_n 0, 1) := by decide +kernel
theorem dJ9_min_7cf53_1 : decode cJ9_min_7cf53 1 = .ok (.iload_n 1, 1) := by decide +kernel
theorem dJ9_min_7cf53_2 : decode cJ9_min_7cf53 2 = .ok (.if_icmp .gt 7, 3) := by decide +kernel
theorem dJ9_min_7cf53_5 : decode cJ9_min_7cf53 5 = .ok (.iload_n 0, 1) := by decide +kernel
theorem dJ9_min_7cf53_6 : decode cJ9_min_7cf53 6 = .ok (.goto 4, 3) := by decide +kernel
theorem dJ9_min_7cf53_9 : decode cJ9_min_7cf53 9 = .ok (.iload_n 1, 1) := by decide +kernel
theorem dJ9_min_7cf53_10 : decode cJ9_min_7cf53 10 = .ok (.ireturn, 1) := by decide +kernel
set_option maxRecDepth 20000 in
theorem ggL_law_X6_init : GoodIn wsL_law wsX6_init := goodIn_r _ [8, 9, 10, 11, 12, 13, 14, 15, 16, 17, 18, 19, 20, 21, 22, 23, 24, 25, 26, 27, 28, 29, 30, 31, 32, 33, 34, 35, 36, 37, 38, 39, 40, 41, 42, 43, 44, 45, 46, 47, 48, 49, 50, 51, 52, 53, 54, 55, 56, 57, 58, 59, 60, 61, 62, 63, 64, 65, 66, 67, 68, 69, 70, 867, 868, 869, 870, 871, 872, 873, 874, 875, 876, 877, 878, 879, 880, 881, 882, 848, 849, 850, 851, 852, 853, 854, 883, 884, 885, 886, 887, 888, 889, 890, 891, 892, 893, 894, 895, 896, 897, 898, 899, 900, 901] (by decide +kernel) (by decide +kernel)
set_option maxRecDepth 20000 in
theorem gL_law_X6_init : GoodIn wsL_law (wsX6_init) := ggL_law_X6_init
set_option maxRecDepth 20000 in
theorem ggL_law_X7_init : GoodIn wsL_law wsX7_init := goodIn_r _ [73, 74, 10, 11, 43, 75, 76, 77, 78, 79, 80, 81, 855, 856, 857, 858, 859, 860, 861, 862, 863, 864, 865, 866] (by decide +kernel) (by decide +kernel)
set_option maxRecDepth 20000 in
theorem gL_law_X7_init : GoodIn wsL_law (wsX7_init) := ggL_law_X7_init
set_option maxRecDepth 20000 in
theorem ggL_law_X6_add : GoodIn wsL_law wsX6_add := goodIn_r _ [85, 15, 86, 87, 21, 88, 89, 2, 90, 91, 92, 93, 35, 94, 95, 96, 97, 98, 20, 99, 100, 101, 102, 103, 104, 105, 63, 106, 107, 108, 109, 110, 111, 112, 14, 113, 36, 40, 114, 41, 42, 44, 115, 116, 117, 118, 119, 45, 120, 121, 122, 123, 124, 125, 126, 127, 128, 129, 130, 131, 49, 132, 50, 51, 133, 134, 135, 39, 136, 55, 137, 56, 57, 138, 139, 140, 141, 142, 143, 144, 145, 146, 147, 148, 149, 150, 151, 152, 153, 154, 155, 156, 157, 158, 159, 160, 161, 162, 163, 164, 165, 166, 167, 168, 169, 170, 171, 172, 173, 174, 175, 176, 177, 178, 179, 180, 181, 182, 183, 184, 185, 186, 187, 188, 189, 190, 191, 192, 193, 194, 195, 848, 849, 850, 851, 852, 853, 854, 867, 868, 869, 870, 871, 872, 873, 874, 875, 876, 877, 878, 879, 880, 881, 882, 894, 895, 896, 897, 883, 884, 885, 898, 899, 900, 901] (by decide +kernel) (by decide +kernel)
set_option maxRecDepth 20000 in
theorem gL_law_X6_add : GoodIn wsL_law (wsV RL 13 RX6 yX6_add wsX6_add) := goodIn_app (goodIn_of _ (by decide +kernel)) ggL_law_X6_add
set_option maxRecDepth 20000 in
theorem ggL_law_X7_add : GoodIn wsL_law wsX7_add := goodIn_r _ [199, 75, 200, 201, 5, 202, 203, 204, 205, 206, 207, 76, 208, 209, 210, 211, 212, 213, 214, 215, 216, 217, 218, 219, 220, 221, 222, 223, 224, 225, 226, 227, 228, 229, 230, 231, 855, 856, 857, 858, 859, 860, 861, 862, 863, 864, 865, 866] (by decide +kernel) (by decide +kernel)
set_option maxRecDepth 20000 in
theorem gL_law_X7_add : GoodIn wsL_law (wsV RL 17 RX7 yX7_add wsX7_add) := goodIn_app (goodIn_of _ (by decide +kernel)) ggL_law_X7_add
set_option maxRecDepth 20000 in
theorem ggL_law_X6_combine : GoodIn wsL_law wsX6_combine := goodIn_r _ [235, 15, 87, 236, 21, 237, 96, 97, 98, 20, 99, 100, 101, 102, 103, 104, 105, 63, 106, 107, 108, 109, 110, 111, 112, 14, 113, 36, 40, 114, 41, 42, 44, 115, 116, 117, 118, 119, 45, 120, 121, 122, 123, 124, 125, 126, 127, 128, 129, 130, 35, 131, 49, 132, 50, 51, 95, 133, 134, 135, 39, 136, 55, 137, 56, 57, 138, 238, 239, 2, 240, 848, 849, 850, 851, 852, 853, 854, 867, 868, 869, 870, 871, 872, 873, 874, 875, 876, 877, 878, 879, 880, 881, 882, 894, 895, 896, 897, 883, 884, 885, 898, 899, 900, 901] (by decide +kernel) (by decide +kernel)
set_option maxRecDepth 20000 in
theorem gL_law_X6_combine : GoodIn wsL_law (wsV RL 18 RX6 yX6_combine wsX6_combine) := goodIn_app (goodIn_of _ (by decide +kernel)) ggL_law_X6_combine
set_option maxRecDepth 20000 in
theorem ggL_law_X7_combine : GoodIn wsL_law wsX7_combine := goodIn_r _ [244, 75, 203, 204, 205, 5, 206, 207, 76, 855, 856, 857, 858, 859, 860, 861, 862, 863, 864, 865, 866] (by decide +kernel) (by decide +kernel)
set_option maxRecDepth 20000 in
theorem gL_law_X7_combine : GoodIn wsL_law (wsV RL 22 RX7 yX7_combine wsX7_combine) := goodIn_app (goodIn_of _ (by decide +kernel)) ggL_law_X7_combine
set_option maxRecDepth 20000 in
theorem ggL_law_X6_flush : GoodIn wsL_law wsX6_flush := goodIn_r _ [248, 15, 86, 21, 96, 97, 98, 20, 99, 100, 101, 102, 103, 104, 105, 63, 106, 107, 108, 109, 110, 111, 112, 14, 113, 36, 40, 114, 41, 42, 44, 115, 116, 117, 118, 119, 45, 120, 121, 122, 123, 124, 125, 126, 127, 128, 129, 130, 35, 131, 49, 132, 50, 51, 95, 133, 134, 135, 39, 136, 55, 137, 56, 57, 138, 249, 169, 170, 171, 172, 173, 174, 175, 147, 148, 149, 150, 176, 177, 178, 179, 180, 181, 182, 183, 184, 185, 186, 187, 188, 189, 190, 191, 192, 193, 194, 195, 848, 849, 850, 851, 852, 853, 854, 867, 868, 869, 870, 871, 872, 873, 874, 875, 876, 877, 878, 879, 880, 881, 882, 883, 884, 885, 894, 895, 896, 897, 898, 899, 900, 901] (by decide +kernel) (by decide +kernel)
set_option maxRecDepth 20000 in
theorem gL_law_X6_flush : GoodIn wsL_law (wsV RL 23 RX6 yX6_flush wsX6_flush) := goodIn_app (goodIn_of _ (by decide +kernel)) ggL_law_X6_flush
set_option maxRecDepth 20000 in
theorem ggL_law_X7_flush : GoodIn wsL_law wsX7_flush := goodIn_r _ [253, 75, 203, 204, 205, 5, 206, 207, 76, 224, 225, 226, 227, 220, 221, 222, 223, 216, 217, 218, 219, 228, 229, 230, 231, 855, 856, 857, 858, 859, 860, 861, 862, 863, 864, 865, 866] (by decide +kernel) (by decide +kernel)
set_option maxRecDepth 20000 in
theorem gL_law_X7_flush : GoodIn wsL_law (wsV RL 27 RX7 yX7_flush wsX7_flush) := goodIn_app (goodIn_of _ (by decide +kernel)) ggL_law_X7_flush
set_option maxRecDepth 20000 in
theorem ggL_law_X6_finish : GoodIn wsL_law wsX6_finish := goodIn_r _ [257, 15, 86, 21, 258, 259, 96, 97, 98, 20, 99, 100, 101, 102, 103, 104, 105, 63, 106, 107, 108, 109, 110, 111, 112, 14, 113, 36, 40, 114, 41, 42, 44, 115, 116, 117, 118, 119, 45, 120, 121, 122, 123, 124, 125, 126, 127, 128, 129, 130, 35, 131, 49, 132, 50, 51, 95, 133, 134, 135, 39, 136, 55, 137, 56, 57, 138, 260, 261, 262, 263, 168, 169, 170, 171, 172, 173, 174, 175, 147, 148, 149, 150, 176, 177, 178, 179, 180, 181, 182, 183, 184, 185, 186, 187, 188, 189, 190, 191, 192, 193, 194, 195, 848, 849, 850, 851, 852, 853, 854, 867, 868, 869, 870, 871, 872, 873, 874, 875, 876, 877, 878, 879, 880, 881, 882, 898, 899, 900, 901, 883, 884, 885, 894, 895, 896, 897] (by decide +kernel) (by decide +kernel)
set_option maxRecDepth 20000 in
theorem gL_law_X6_finish : GoodIn wsL_law (wsV RL 28 RX6 yX6_finish wsX6_finish) := goodIn_app (goodIn_of _ (by decide +kernel)) ggL_law_X6_finish
set_option maxRecDepth 20000 in
theorem ggL_law_X7_finish : GoodIn wsL_law wsX7_finish := goodIn_r _ [267, 75, 203, 204, 205, 5, 206, 207, 76, 268, 269, 270, 271, 224, 225, 226, 227, 220, 221, 222, 223, 216, 217, 218, 219, 228, 229, 230, 231, 272, 273, 274, 275, 276, 277, 278, 279, 280, 281, 282, 283, 855, 856, 857, 858, 859, 860, 861, 862, 863, 864, 865, 866] (by decide +kernel) (by decide +kernel)
set_option maxRecDepth 20000 in
theorem gL_law_X7_finish : GoodIn wsL_law (wsV RL 31 RX7 yX7_finish wsX7_finish) := goodIn_app (goodIn_of _ (by decide +kernel)) ggL_law_X7_finish
set_option maxRecDepth 20000 in
theorem ggL_law_X6_isCollecting : GoodIn wsL_law wsX6_isCollecting := goodIn_r _ [287, 15, 86, 238, 239, 2, 240, 848, 849, 850, 851, 852, 853, 854, 867, 868, 869, 870, 871, 872, 873, 874, 875, 876, 877, 878, 879, 880, 881, 882] (by decide +kernel) (by decide +kernel)
set_option maxRecDepth 20000 in
theorem gL_law_X6_isCollecting : GoodIn wsL_law (wsV RL 32 RX6 yX6_isCollecting wsX6_isCollecting) := goodIn_app (goodIn_of _ (by decide +kernel)) ggL_law_X6_isCollecting
set_option maxRecDepth 20000 in
theorem ggL_law_X7_isCollecting : GoodIn wsL_law wsX7_isCollecting := goodIn_r _ [291, 75, 855, 856, 857, 858, 859, 860, 861, 862, 863, 864, 865, 866] (by decide +kernel) (by decide +kernel)
set_option maxRecDepth 20000 in
theorem gL_law_X7_isCollecting : GoodIn wsL_law (wsV RL 35 RX7 yX7_isCollecting wsX7_isCollecting) := goodIn_app (goodIn_of _ (by decide +kernel)) ggL_law_X7_isCollecting
set_option maxRecDepth 20000 in
theorem ggL_law_X6_grant : GoodIn wsL_law wsX6_grant := goodIn_r _ [295, 21, 15, 296, 297, 2, 298, 96, 97, 98, 20, 99, 100, 101, 102, 103, 104, 105, 63, 106, 107, 108, 109, 110, 111, 112, 14, 113, 36, 40, 114, 41, 42, 44, 115, 116, 117, 118, 119, 45, 120, 121, 122, 123, 124, 125, 126, 127, 128, 129, 130, 35, 131, 49, 132, 50, 51, 95, 133, 134, 135, 39, 136, 55, 137, 56, 57, 138, 299, 300, 301, 302, 303, 168, 169, 170, 171, 172, 173, 174, 175, 147, 148, 149, 150, 176, 177, 178, 179, 180, 181, 182, 183, 184, 185, 186, 187, 188, 189, 190, 191, 192, 193, 194, 195, 304, 305, 306, 307, 308, 309, 310, 311, 312, 313, 314, 315, 316, 317, 318, 319, 320, 321, 322, 323, 324, 325, 326, 327, 328, 329, 330, 331, 848, 849, 850, 851, 852, 853, 854, 883, 884, 885, 867, 868, 869, 870, 871, 872, 873, 874, 875, 876, 877, 878, 879, 880, 881, 882, 894, 895, 896, 897, 898, 899, 900, 901] (by decide +kernel) (by decide +kernel)
set_option maxRecDepth 20000 in
theorem gL_law_X6_grant : GoodIn wsL_law (wsV RL 36 RX6 yX6_grant wsX6_grant) := goodIn_app (goodIn_of _ (by decide +kernel)) ggL_law_X6_grant
set_option maxRecDepth 20000 in
theorem ggL_law_X7_grant : GoodIn wsL_law wsX7_grant := goodIn_r _ [335, 336, 337, 5, 338, 200, 201, 202, 203, 204, 205, 206, 207, 76, 75, 339, 340, 341, 342, 220, 221, 222, 223, 216, 217, 218, 219, 224, 225, 226, 227, 228, 229, 230, 231, 343, 344, 345, 346, 276, 277, 278, 279, 280, 281, 282, 283, 347, 348, 349, 350, 351, 352, 353, 855, 856, 857, 858, 859, 860, 861, 862, 863, 864, 865, 866] (by decide +kernel) (by decide +kernel)
set_option maxRecDepth 20000 in
theorem gL_law_X7_grant : GoodIn wsL_law (wsV RL 39 RX7 yX7_grant wsX7_grant) := goodIn_app (goodIn_of _ (by decide +kernel)) ggL_law_X7_grant
set_option maxRecDepth 20000 in
theorem ggL_law_X6_memory : GoodIn wsL_law wsX6_memory := goodIn_r _ [357, 15, 358, 359, 360, 361, 14, 362, 41, 119, 45, 303, 363, 364, 365, 366, 367, 305, 306, 307, 42, 308, 309, 310, 311, 848, 849, 850, 851, 852, 853, 854, 867, 868, 869, 870, 871, 872, 873, 874, 875, 876, 877, 878, 879, 880, 881, 882, 898, 899, 900, 901] (by decide +kernel) (by decide +kernel)
set_option maxRecDepth 20000 in
theorem gL_law_X6_memory : GoodIn wsL_law (wsV RL 40 RX6 yX6_memory wsX6_memory) := goodIn_app (goodIn_of _ (by decide +kernel)) ggL_law_X6_memory
set_option maxRecDepth 20000 in
theorem ggL_law_X7_memory : GoodIn wsL_law wsX7_memory := goodIn_r _ [371, 75, 220, 221, 222, 5, 223, 216, 217, 218, 219, 343, 344, 345, 346, 276, 277, 278, 279, 280, 281, 282, 283, 347, 348, 349, 855, 856, 857, 858, 859, 860, 861, 862, 863, 864, 865, 866] (by decide +kernel) (by decide +kernel)
set_option maxRecDepth 20000 in
theorem gL_law_X7_memory : GoodIn wsL_law (wsV RL 43 RX7 yX7_memory wsX7_memory) := goodIn_app (goodIn_of _ (by decide +kernel)) ggL_law_X7_memory
set_option maxRecDepth 20000 in
theorem ggL_law_X6_inMemory : GoodIn wsL_law wsX6_inMemory := goodIn_r _ [375, 15, 87, 376, 377, 378, 14, 379, 119, 380, 148, 149, 150, 44, 381, 152, 153, 35, 154, 49, 848, 849, 850, 851, 852, 853, 854, 867, 868, 869, 870, 871, 872, 873, 874, 875, 876, 877, 878, 879, 880, 881, 882, 894, 895, 896, 897] (by decide +kernel) (by decide +kernel)
set_option maxRecDepth 20000 in
theorem gL_law_X6_inMemory : GoodIn wsL_law (wsV RL 44 RX6 yX6_inMemory wsX6_inMemory) := goodIn_app (goodIn_of _ (by decide +kernel)) ggL_law_X6_inMemory
set_option maxRecDepth 20000 in
theorem ggL_law_X7_inMemory : GoodIn wsL_law wsX7_inMemory := goodIn_r _ [385, 75, 216, 217, 218, 5, 219, 855, 856, 857, 858, 859, 860, 861, 862, 863, 864, 865, 866] (by decide +kernel) (by decide +kernel)
set_option maxRecDepth 20000 in
theorem gL_law_X7_inMemory : GoodIn wsL_law (wsV RL 47 RX7 yX7_inMemory wsX7_inMemory) := goodIn_app (goodIn_of _ (by decide +kernel)) ggL_law_X7_inMemory
set_option maxRecDepth 20000 in
theorem ggL_law_X6_merge : GoodIn wsL_law wsX6_merge := goodIn_r _ [389, 15, 21, 390, 391, 392, 14, 393, 41, 40, 303, 363, 364, 365, 366, 45, 304, 305, 306, 307, 42, 308, 309, 310, 311, 96, 97, 98, 20, 99, 100, 101, 102, 103, 104, 105, 63, 106, 107, 108, 109, 110, 111, 112, 113, 36, 114, 44, 115, 116, 117, 118, 119, 120, 121, 122, 123, 124, 125, 126, 127, 128, 129, 130, 35, 131, 49, 132, 50, 51, 95, 133, 134, 135, 39, 136, 55, 137, 56, 57, 138, 394, 395, 396, 397, 398, 399, 400, 401, 402, 325, 326, 327, 403, 404, 405, 406, 320, 321, 322, 323, 324, 192, 193, 194, 195, 407, 408, 409, 410, 848, 849, 850, 851, 852, 853, 854, 867, 868, 869, 870, 871, 872, 873, 874, 875, 876, 877, 878, 879, 880, 881, 882, 898, 899, 900, 901, 883, 884, 885, 894, 895, 896, 897] (by decide +kernel) (by decide +kernel)
set_option maxRecDepth 20000 in
theorem gL_law_X6_merge : GoodIn wsL_law (wsV RL 48 RX6 yX6_merge wsX6_merge) := goodIn_app (goodIn_of _ (by decide +kernel)) ggL_law_X6_merge
set_option maxRecDepth 20000 in
theorem ggL_law_X7_merge : GoodIn wsL_law wsX7_merge := goodIn_r _ [414, 75, 272, 273, 274, 5, 275, 276, 277, 278, 279, 280, 281, 282, 283, 216, 217, 218, 219, 347, 348, 349, 203, 204, 205, 206, 207, 76, 415, 416, 417, 418, 419, 420, 421, 422, 220, 221, 222, 223, 855, 856, 857, 858, 859, 860, 861, 862, 863, 864, 865, 866] (by decide +kernel) (by decide +kernel)
set_option maxRecDepth 20000 in
theorem gL_law_X7_merge : GoodIn wsL_law (wsV RL 51 RX7 yX7_merge wsX7_merge) := goodIn_app (goodIn_of _ (by decide +kernel)) ggL_law_X7_merge
set_option maxRecDepth 20000 in
theorem ggL_law_X6_step : GoodIn wsL_law wsX6_step := goodIn_r _ [426, 15, 21, 427, 364, 365, 14, 366, 45, 303, 96, 97, 98, 20, 99, 100, 101, 102, 103, 104, 105, 63, 106, 107, 108, 109, 110, 111, 112, 113, 36, 40, 114, 41, 42, 44, 115, 116, 117, 118, 119, 120, 121, 122, 123, 124, 125, 126, 127, 128, 129, 130, 35, 131, 49, 132, 50, 51, 95, 133, 134, 135, 39, 136, 55, 137, 56, 57, 138, 428, 429, 430, 431, 363, 432, 433, 434, 435, 436, 437, 438, 439, 320, 321, 322, 323, 176, 177, 178, 179, 324, 325, 326, 327, 440, 441, 442, 443, 444, 445, 446, 447, 407, 408, 409, 410, 151, 152, 153, 154, 164, 165, 166, 167, 184, 185, 186, 187, 316, 317, 318, 319, 188, 189, 190, 191, 192, 193, 194, 195, 848, 849, 850, 851, 852, 853, 854, 867, 868, 869, 870, 871, 872, 873, 874, 875, 876, 877, 878, 879, 880, 881, 882, 898, 899, 900, 901, 883, 884, 885, 894, 895, 896, 897] (by decide +kernel) (by decide +kernel)
set_option maxRecDepth 20000 in
theorem gL_law_X6_step : GoodIn wsL_law (wsV RL 52 RX6 yX6_step wsX6_step) := goodIn_app (goodIn_of _ (by decide +kernel)) ggL_law_X6_step
set_option maxRecDepth 20000 in
theorem ggL_law_X7_step : GoodIn wsL_law wsX7_step := goodIn_r _ [451, 75, 200, 201, 5, 202, 203, 204, 205, 206, 207, 76, 452, 453, 454, 455, 456, 457, 458, 459, 460, 461, 462, 463, 216, 217, 218, 219, 464, 465, 466, 467, 468, 469, 470, 471, 228, 229, 230, 231, 855, 856, 857, 858, 859, 860, 861, 862, 863, 864, 865, 866] (by decide +kernel) (by decide +kernel)
set_option maxRecDepth 20000 in
theorem gL_law_X7_step : GoodIn wsL_law (wsV RL 55 RX7 yX7_step wsX7_step) := goodIn_app (goodIn_of _ (by decide +kernel)) ggL_law_X7_step
set_option maxRecDepth 20000 in
theorem ggL_law_X6_run : GoodIn wsL_law wsX6_run := goodIn_r _ [475, 15, 21, 476, 477, 478, 14, 479, 40, 303, 119, 363, 364, 365, 366, 45, 304, 305, 306, 307, 42, 308, 309, 310, 311, 96, 97, 98, 20, 99, 100, 101, 102, 103, 104, 105, 63, 106, 107, 108, 109, 110, 111, 112, 113, 36, 114, 41, 44, 115, 116, 117, 118, 120, 121, 122, 123, 124, 125, 126, 127, 128, 129, 130, 35, 131, 49, 132, 50, 51, 95, 133, 134, 135, 39, 136, 55, 137, 56, 57, 138, 480, 481, 482, 483, 484, 261, 262, 263, 168, 169, 170, 171, 172, 173, 174, 175, 147, 148, 149, 150, 176, 177, 178, 179, 180, 181, 182, 183, 184, 185, 186, 187, 188, 189, 190, 191, 192, 193, 194, 195, 485, 429, 430, 431, 432, 433, 434, 435, 436, 437, 438, 439, 320, 321, 322, 323, 324, 325, 326, 327, 440, 441, 442, 443, 444, 445, 446, 447, 407, 408, 409, 410, 151, 152, 153, 154, 164, 165, 166, 167, 316, 317, 318, 319, 486, 391, 392, 393, 487, 395, 396, 397, 398, 399, 400, 401, 402, 403, 404, 405, 406, 848, 849, 850, 851, 852, 853, 854, 867, 868, 869, 870, 871, 872, 873, 874, 875, 876, 877, 878, 879, 880, 881, 882, 898, 899, 900, 901, 883, 884, 885, 894, 895, 896, 897] (by decide +kernel) (by decide +kernel)
set_option maxRecDepth 20000 in
theorem gL_law_X6_run : GoodIn wsL_law (wsV RL 56 RX6 yX6_run wsX6_run) := goodIn_app (goodIn_of _ (by decide +kernel)) ggL_law_X6_run
set_option maxRecDepth 20000 in
theorem ggL_law_X7_run : GoodIn wsL_law wsX7_run := goodIn_r _ [491, 492, 493, 494, 5, 495, 75, 496, 497, 498, 499, 272, 273, 274, 275, 276, 277, 278, 279, 280, 281, 282, 283, 216, 217, 218, 219, 220, 221, 222, 223, 347, 348, 349, 203, 204, 205, 206, 207, 76, 500, 501, 502, 503, 268, 269, 270, 271, 224, 225, 226, 227, 228, 229, 230, 231, 415, 416, 417, 418, 419, 420, 421, 422, 452, 453, 454, 455, 456, 457, 458, 459, 460, 461, 462, 463, 464, 465, 466, 467, 468, 469, 470, 471, 855, 856, 857, 858, 859, 860, 861, 862, 863, 864, 865, 866] (by decide +kernel) (by decide +kernel)
set_option maxRecDepth 20000 in
theorem gL_law_X7_run : GoodIn wsL_law (wsV RL 59 RX7 yX7_run wsX7_run) := goodIn_app (goodIn_of _ (by decide +kernel)) ggL_law_X7_run
set_option maxRecDepth 20000 in
theorem ggL_law_X6_isMerging : GoodIn wsL_law wsX6_isMerging := goodIn_r _ [507, 15, 427, 364, 365, 14, 366, 45, 303, 238, 239, 2, 240, 848, 849, 850, 851, 852, 853, 854, 867, 868, 869, 870, 871, 872, 873, 874, 875, 876, 877, 878, 879, 880, 881, 882, 898, 899, 900, 901] (by decide +kernel) (by decide +kernel)
set_option maxRecDepth 20000 in
theorem gL_law_X6_isMerging : GoodIn wsL_law (wsV RL 60 RX6 yX6_isMerging wsX6_isMerging) := goodIn_app (goodIn_of _ (by decide +kernel)) ggL_law_X6_isMerging
set_option maxRecDepth 20000 in
theorem ggL_law_X7_isMerging : GoodIn wsL_law wsX7_isMerging := goodIn_r _ [511, 75, 855, 856, 857, 858, 859, 860, 861, 862, 863, 864, 865, 866] (by decide +kernel) (by decide +kernel)
set_option maxRecDepth 20000 in
theorem gL_law_X7_isMerging : GoodIn wsL_law (wsV RL 63 RX7 yX7_isMerging wsX7_isMerging) := goodIn_app (goodIn_of _ (by decide +kernel)) ggL_law_X7_isMerging
set_option maxRecDepth 20000 in
theorem ggL_law_X6_isDone : GoodIn wsL_law wsX6_isDone := goodIn_r _ [515, 15, 516, 517, 518, 14, 519, 41, 40, 303, 363, 364, 365, 366, 45, 238, 239, 2, 240, 848, 849, 850, 851, 852, 853, 854, 867, 868, 869, 870, 871, 872, 873, 874, 875, 876, 877, 878, 879, 880, 881, 882, 898, 899, 900, 901] (by decide +kernel) (by decide +kernel)
set_option maxRecDepth 20000 in
theorem gL_law_X6_isDone : GoodIn wsL_law (wsV RL 64 RX6 yX6_isDone wsX6_isDone) := goodIn_app (goodIn_of _ (by decide +kernel)) ggL_law_X6_isDone
set_option maxRecDepth 20000 in
theorem ggL_law_X7_isDone : GoodIn wsL_law wsX7_isDone := goodIn_r _ [523, 75, 272, 273, 274, 5, 275, 276, 277, 278, 279, 280, 281, 282, 283, 216, 217, 218, 219, 855, 856, 857, 858, 859, 860, 861, 862, 863, 864, 865, 866] (by decide +kernel) (by decide +kernel)
set_option maxRecDepth 20000 in
theorem gL_law_X7_isDone : GoodIn wsL_law (wsV RL 67 RX7 yX7_isDone wsX7_isDone) := goodIn_app (goodIn_of _ (by decide +kernel)) ggL_law_X7_isDone
set_option maxRecDepth 20000 in
theorem ggL_law_X6_ofMerge : GoodIn wsL_law wsX6_ofMerge := goodIn_r _ [527, 15, 528, 529, 259, 530, 427, 364, 365, 14, 366, 45, 303, 531, 532, 533, 39, 534, 138, 402, 325, 326, 327, 57, 848, 849, 850, 851, 852, 853, 854, 867, 868, 869, 870, 871, 872, 873, 874, 875, 876, 877, 878, 879, 880, 881, 882, 898, 899, 900, 901] (by decide +kernel) (by decide +kernel)
set_option maxRecDepth 20000 in
theorem gL_law_X6_ofMerge : GoodIn wsL_law (wsV RL 68 RX6 yX6_ofMerge wsX6_ofMerge) := goodIn_app (goodIn_of _ (by decide +kernel)) ggL_law_X6_ofMerge
set_option maxRecDepth 20000 in
theorem ggL_law_X7_ofMerge : GoodIn wsL_law wsX7_ofMerge := goodIn_r _ [538, 75, 200, 201, 5, 202, 343, 344, 345, 346, 276, 277, 278, 279, 280, 281, 282, 283, 216, 217, 218, 219, 220, 221, 222, 223, 468, 469, 470, 471, 460, 461, 462, 463, 855, 856, 857, 858, 859, 860, 861, 862, 863, 864, 865, 866] (by decide +kernel) (by decide +kernel)
set_option maxRecDepth 20000 in
theorem gL_law_X7_ofMerge : GoodIn wsL_law (wsV RL 71 RX7 yX7_ofMerge wsX7_ofMerge) := goodIn_app (goodIn_of _ (by decide +kernel)) ggL_law_X7_ofMerge
set_option maxRecDepth 20000 in
theorem ggL_law_X6_runs : GoodIn wsL_law wsX6_runs := goodIn_r _ [542, 15, 258, 259, 848, 849, 850, 851, 852, 853, 854, 867, 868, 869, 870, 871, 872, 873, 874, 875, 876, 877, 878, 879, 880, 881, 882, 898, 899, 900, 901] (by decide +kernel) (by decide +kernel)
set_option maxRecDepth 20000 in
theorem gL_law_X6_runs : GoodIn wsL_law (wsV RL 72 RX6 yX6_runs wsX6_runs) := goodIn_app (goodIn_of _ (by decide +kernel)) ggL_law_X6_runs
set_option maxRecDepth 20000 in
theorem ggL_law_X7_runs : GoodIn wsL_law wsX7_runs := goodIn_r _ [546, 272, 273, 274, 5, 275, 276, 277, 278, 279, 280, 281, 282, 283, 75, 216, 217, 218, 219, 855, 856, 857, 858, 859, 860, 861, 862, 863, 864, 865, 866] (by decide +kernel) (by decide +kernel)
set_option maxRecDepth 20000 in
theorem gL_law_X7_runs : GoodIn wsL_law (wsV RL 75 RX7 yX7_runs wsX7_runs) := goodIn_app (goodIn_of _ (by decide +kernel)) ggL_law_X7_runs
set_option maxRecDepth 20000 in
theorem ggL_law_X6_runAt : GoodIn wsL_law wsX6_runAt := goodIn_r _ [550, 15, 258, 551, 552, 553, 39, 554, 138, 555, 404, 405, 406, 55, 848, 849, 850, 851, 852, 853, 854, 867, 868, 869, 870, 871, 872, 873, 874, 875, 876, 877, 878, 879, 880, 881, 882, 898, 899, 900, 901] (by decide +kernel) (by decide +kernel)
set_option maxRecDepth 20000 in
theorem gL_law_X6_runAt : GoodIn wsL_law (wsV RL 76 RX6 yX6_runAt wsX6_runAt) := goodIn_app (goodIn_of _ (by decide +kernel)) ggL_law_X6_runAt
set_option maxRecDepth 20000 in
theorem ggL_law_X7_runAt : GoodIn wsL_law wsX7_runAt := goodIn_r _ [559, 280, 281, 282, 5, 283, 75, 216, 217, 218, 219, 855, 856, 857, 858, 859, 860, 861, 862, 863, 864, 865, 866] (by decide +kernel) (by decide +kernel)
set_option maxRecDepth 20000 in
theorem gL_law_X7_runAt : GoodIn wsL_law (wsV RL 79 RX7 yX7_runAt wsX7_runAt) := goodIn_app (goodIn_of _ (by decide +kernel)) ggL_law_X7_runAt
set_option maxRecDepth 20000 in
theorem ggL_law_X6_size : GoodIn wsL_law wsX6_size := goodIn_r _ [563, 15, 258, 564, 565, 566, 39, 567, 138, 568, 404, 405, 406, 55, 551, 552, 553, 554, 569, 325, 326, 327, 57, 848, 849, 850, 851, 852, 853, 854, 867, 868, 869, 870, 871, 872, 873, 874, 875, 876, 877, 878, 879, 880, 881, 882, 898, 899, 900, 901] (by decide +kernel) (by decide +kernel)
set_option maxRecDepth 20000 in
theorem gL_law_X6_size : GoodIn wsL_law (wsV RL 80 RX6 yX6_size wsX6_size) := goodIn_app (goodIn_of _ (by decide +kernel)) ggL_law_X6_size
set_option maxRecDepth 20000 in
theorem ggL_law_X7_size : GoodIn wsL_law wsX7_size := goodIn_r _ [573, 574, 575, 576, 5, 577, 75, 200, 201, 202, 220, 221, 222, 223, 216, 217, 218, 219, 855, 856, 857, 858, 859, 860, 861, 862, 863, 864, 865, 866] (by decide +kernel) (by decide +kernel)
set_option maxRecDepth 20000 in
theorem gL_law_X7_size : GoodIn wsL_law (wsV RL 83 RX7 yX7_size wsX7_size) := goodIn_app (goodIn_of _ (by decide +kernel)) ggL_law_X7_size
set_option maxRecDepth 20000 in
theorem ggL_law_X6_row : GoodIn wsL_law wsX6_row := goodIn_r _ [581, 15, 87, 582, 583, 584, 14, 585, 40, 36, 586, 565, 566, 39, 567, 138, 568, 404, 405, 406, 55, 324, 325, 326, 327, 57, 320, 321, 322, 323, 56, 587, 588, 589, 35, 590, 591, 441, 442, 443, 51, 592, 161, 162, 163, 95, 381, 152, 153, 154, 49, 593, 594, 595, 596, 50, 848, 849, 850, 851, 852, 853, 854, 867, 868, 869, 870, 871, 872, 873, 874, 875, 876, 877, 878, 879, 880, 881, 882, 898, 899, 900, 901, 894, 895, 896, 897] (by decide +kernel) (by decide +kernel)
set_option maxRecDepth 20000 in
theorem gL_law_X6_row : GoodIn wsL_law (wsV RL 84 RX6 yX6_row wsX6_row) := goodIn_app (goodIn_of _ (by decide +kernel)) ggL_law_X6_row
set_option maxRecDepth 20000 in
theorem ggL_law_X7_row : GoodIn wsL_law wsX7_row := goodIn_r _ [600, 75, 574, 575, 576, 5, 577, 200, 201, 202, 220, 221, 222, 223, 216, 217, 218, 219, 601, 602, 603, 604, 855, 856, 857, 858, 859, 860, 861, 862, 863, 864, 865, 866] (by decide +kernel) (by decide +kernel)
set_option maxRecDepth 20000 in
theorem gL_law_X7_row : GoodIn wsL_law (wsV RL 88 RX7 yX7_row wsX7_row) := goodIn_app (goodIn_of _ (by decide +kernel)) ggL_law_X7_row
set_option maxRecDepth 20000 in
theorem ggL_law_X6_count : GoodIn wsL_law wsX6_count := goodIn_r _ [608, 15, 87, 236, 609, 610, 611, 612, 613, 614, 615, 35, 616, 95, 617, 594, 595, 596, 50, 618, 619, 620, 621, 622, 152, 153, 154, 49, 848, 849, 850, 851, 852, 853, 854, 867, 868, 869, 870, 871, 872, 873, 874, 875, 876, 877, 878, 879, 880, 881, 882, 894, 895, 896, 897] (by decide +kernel) (by decide +kernel)
set_option maxRecDepth 20000 in
theorem gL_law_X6_count : GoodIn wsL_law (wsV RL 89 RX6 yX6_count wsX6_count) := goodIn_app (goodIn_of _ (by decide +kernel)) ggL_law_X6_count
set_option maxRecDepth 20000 in
theorem ggL_law_X7_count : GoodIn wsL_law wsX7_count := goodIn_r _ [626, 75, 627, 628, 629, 5, 630, 216, 217, 218, 219, 631, 632, 633, 634, 855, 856, 857, 858, 859, 860, 861, 862, 863, 864, 865, 866] (by decide +kernel) (by decide +kernel)
set_option maxRecDepth 20000 in
theorem gL_law_X7_count : GoodIn wsL_law (wsV RL 92 RX7 yX7_count wsX7_count) := goodIn_app (goodIn_of _ (by decide +kernel)) ggL_law_X7_count
set_option maxRecDepth 20000 in
theorem ggL_law_X6_rank : GoodIn wsL_law wsX6_rank := goodIn_r _ [638, 15, 87, 88, 89, 2, 90, 618, 619, 620, 35, 621, 95, 622, 152, 153, 154, 49, 617, 594, 595, 596, 50, 848, 849, 850, 851, 852, 853, 854, 867, 868, 869, 870, 871, 872, 873, 874, 875, 876, 877, 878, 879, 880, 881, 882, 894, 895, 896, 897] (by decide +kernel) (by decide +kernel)
set_option maxRecDepth 20000 in
theorem gL_law_X6_rank : GoodIn wsL_law (wsV RL 93 RX6 yX6_rank wsX6_rank) := goodIn_app (goodIn_of _ (by decide +kernel)) ggL_law_X6_rank
set_option maxRecDepth 20000 in
theorem ggL_law_X7_rank : GoodIn wsL_law wsX7_rank := goodIn_r _ [642, 200, 201, 5, 202, 631, 632, 633, 634, 75, 855, 856, 857, 858, 859, 860, 861, 862, 863, 864, 865, 866] (by decide +kernel) (by decide +kernel)
set_option maxRecDepth 20000 in
theorem gL_law_X7_rank : GoodIn wsL_law (wsV RL 96 RX7 yX7_rank wsX7_rank) := goodIn_app (goodIn_of _ (by decide +kernel)) ggL_law_X7_rank
set_option maxRecDepth 20000 in
theorem ggL_law_X6_costsWith : GoodIn wsL_law wsX6_costsWith := goodIn_r _ [646, 16, 609, 15, 296, 297, 2, 298, 647, 648, 649, 650, 651, 111, 112, 14, 113, 36, 40, 114, 41, 42, 44, 115, 116, 117, 118, 119, 45, 120, 121, 122, 123, 124, 125, 126, 127, 128, 129, 130, 35, 131, 49, 132, 50, 51, 95, 133, 134, 135, 39, 136, 55, 137, 56, 57, 138, 299, 300, 301, 302, 303, 168, 169, 170, 171, 172, 173, 174, 175, 147, 148, 149, 150, 176, 177, 178, 179, 180, 181, 182, 183, 184, 185, 186, 187, 188, 189, 190, 191, 192, 193, 194, 195, 304, 305, 306, 307, 308, 309, 310, 311, 312, 313, 314, 315, 316, 317, 318, 319, 320, 321, 322, 323, 324, 325, 326, 327, 328, 329, 330, 331, 476, 477, 478, 479, 363, 364, 365, 366, 480, 481, 482, 483, 484, 261, 262, 263, 485, 429, 430, 431, 432, 433, 434, 435, 436, 437, 438, 439, 440, 441, 442, 443, 444, 445, 446, 447, 407, 408, 409, 410, 151, 152, 153, 154, 164, 165, 166, 167, 486, 391, 392, 393, 487, 395, 396, 397, 398, 399, 400, 401, 402, 403, 404, 405, 406, 848, 849, 850, 851, 852, 853, 854, 867, 868, 869, 870, 871, 872, 873, 874, 875, 876, 877, 878, 879, 880, 881, 882, 894, 895, 896, 897, 898, 899, 900, 901] (by decide +kernel) (by decide +kernel)
set_option maxRecDepth 20000 in
theorem gL_law_X6_costsWith : GoodIn wsL_law (wsV RL 97 RX6 yX6_costsWith wsX6_costsWith) := goodIn_app (goodIn_of _ (by decide +kernel)) ggL_law_X6_costsWith
set_option maxRecDepth 20000 in
theorem ggL_law_X7_costsWith : GoodIn wsL_law wsX7_costsWith := goodIn_r _ [655, 336, 337, 5, 338, 200, 201, 202, 656, 657, 658, 659, 78, 75, 339, 340, 341, 342, 220, 221, 222, 223, 216, 217, 218, 219, 224, 225, 226, 227, 228, 229, 230, 231, 343, 344, 345, 346, 276, 277, 278, 279, 280, 281, 282, 283, 347, 348, 349, 350, 351, 352, 353, 492, 493, 494, 495, 496, 497, 498, 499, 272, 273, 274, 275, 500, 501, 502, 503, 268, 269, 270, 271, 415, 416, 417, 418, 419, 420, 421, 422, 452, 453, 454, 455, 456, 457, 458, 459, 460, 461, 462, 463, 464, 465, 466, 467, 468, 469, 470, 471, 855, 856, 857, 858, 859, 860, 861, 862, 863, 864, 865, 866] (by decide +kernel) (by decide +kernel)
set_option maxRecDepth 20000 in
theorem gL_law_X7_costsWith : GoodIn wsL_law (wsV RL 100 RX7 yX7_costsWith wsX7_costsWith) := goodIn_app (goodIn_of _ (by decide +kernel)) ggL_law_X7_costsWith
set_option maxRecDepth 20000 in
theorem ggL_law_X6_mergesWith : GoodIn wsL_law wsX6_mergesWith := goodIn_r _ [663, 16, 610, 15, 296, 297, 2, 298, 647, 648, 649, 650, 651, 111, 112, 14, 113, 36, 40, 114, 41, 42, 44, 115, 116, 117, 118, 119, 45, 120, 121, 122, 123, 124, 125, 126, 127, 128, 129, 130, 35, 131, 49, 132, 50, 51, 95, 133, 134, 135, 39, 136, 55, 137, 56, 57, 138, 299, 300, 301, 302, 303, 168, 169, 170, 171, 172, 173, 174, 175, 147, 148, 149, 150, 176, 177, 178, 179, 180, 181, 182, 183, 184, 185, 186, 187, 188, 189, 190, 191, 192, 193, 194, 195, 304, 305, 306, 307, 308, 309, 310, 311, 312, 313, 314, 315, 316, 317, 318, 319, 320, 321, 322, 323, 324, 325, 326, 327, 328, 329, 330, 331, 476, 477, 478, 479, 363, 364, 365, 366, 480, 481, 482, 483, 484, 261, 262, 263, 485, 429, 430, 431, 432, 433, 434, 435, 436, 437, 438, 439, 440, 441, 442, 443, 444, 445, 446, 447, 407, 408, 409, 410, 151, 152, 153, 154, 164, 165, 166, 167, 486, 391, 392, 393, 487, 395, 396, 397, 398, 399, 400, 401, 402, 403, 404, 405, 406, 848, 849, 850, 851, 852, 853, 854, 867, 868, 869, 870, 871, 872, 873, 874, 875, 876, 877, 878, 879, 880, 881, 882, 894, 895, 896, 897, 898, 899, 900, 901] (by decide +kernel) (by decide +kernel)
set_option maxRecDepth 20000 in
theorem gL_law_X6_mergesWith : GoodIn wsL_law (wsV RL 101 RX6 yX6_mergesWith wsX6_mergesWith) := goodIn_app (goodIn_of _ (by decide +kernel)) ggL_law_X6_mergesWith
set_option maxRecDepth 20000 in
theorem ggL_law_X7_mergesWith : GoodIn wsL_law wsX7_mergesWith := goodIn_r _ [667, 336, 337, 5, 338, 200, 201, 202, 656, 657, 658, 659, 78, 75, 339, 340, 341, 342, 220, 221, 222, 223, 216, 217, 218, 219, 224, 225, 226, 227, 228, 229, 230, 231, 343, 344, 345, 346, 276, 277, 278, 279, 280, 281, 282, 283, 347, 348, 349, 350, 351, 352, 353, 492, 493, 494, 495, 496, 497, 498, 499, 272, 273, 274, 275, 500, 501, 502, 503, 268, 269, 270, 271, 415, 416, 417, 418, 419, 420, 421, 422, 452, 453, 454, 455, 456, 457, 458, 459, 460, 461, 462, 463, 464, 465, 466, 467, 468, 469, 470, 471, 855, 856, 857, 858, 859, 860, 861, 862, 863, 864, 865, 866] (by decide +kernel) (by decide +kernel)
set_option maxRecDepth 20000 in
theorem gL_law_X7_mergesWith : GoodIn wsL_law (wsV RL 104 RX7 yX7_mergesWith wsX7_mergesWith) := goodIn_app (goodIn_of _ (by decide +kernel)) ggL_law_X7_mergesWith
set_option maxRecDepth 20000 in
theorem ggL_law_X6_bestSize : GoodIn wsL_law wsX6_bestSize := goodIn_r _ [671, 16, 609, 647, 648, 649, 2, 650, 15, 651, 111, 112, 14, 113, 36, 40, 114, 41, 42, 44, 115, 116, 117, 118, 119, 45, 120, 121, 122, 123, 124, 125, 126, 127, 128, 129, 130, 35, 131, 49, 132, 50, 51, 95, 133, 134, 135, 39, 136, 55, 137, 56, 57, 138, 299, 300, 301, 302, 303, 168, 169, 170, 171, 172, 173, 174, 175, 147, 148, 149, 150, 176, 177, 178, 179, 180, 181, 182, 183, 184, 185, 186, 187, 188, 189, 190, 191, 192, 193, 194, 195, 304, 305, 306, 307, 308, 309, 310, 311, 312, 313, 314, 315, 316, 317, 318, 319, 320, 321, 322, 323, 324, 325, 326, 327, 328, 329, 330, 331, 476, 477, 478, 479, 363, 364, 365, 366, 480, 481, 482, 483, 484, 261, 262, 263, 485, 429, 430, 431, 432, 433, 434, 435, 436, 437, 438, 439, 440, 441, 442, 443, 444, 445, 446, 447, 407, 408, 409, 410, 151, 152, 153, 154, 164, 165, 166, 167, 486, 391, 392, 393, 487, 395, 396, 397, 398, 399, 400, 401, 402, 403, 404, 405, 406, 848, 849, 850, 851, 852, 853, 854, 867, 868, 869, 870, 871, 872, 873, 874, 875, 876, 877, 878, 879, 880, 881, 882, 894, 895, 896, 897, 898, 899, 900, 901] (by decide +kernel) (by decide +kernel)
set_option maxRecDepth 20000 in
theorem gL_law_X6_bestSize : GoodIn wsL_law (wsV RL 105 RX6 yX6_bestSize wsX6_bestSize) := goodIn_app (goodIn_of _ (by decide +kernel)) ggL_law_X6_bestSize
set_option maxRecDepth 20000 in
theorem ggL_law_X7_bestSize : GoodIn wsL_law wsX7_bestSize := goodIn_r _ [675, 656, 657, 658, 5, 659, 78, 75, 339, 340, 341, 342, 220, 221, 222, 223, 216, 217, 218, 219, 224, 225, 226, 227, 228, 229, 230, 231, 343, 344, 345, 346, 276, 277, 278, 279, 280, 281, 282, 283, 347, 348, 349, 350, 351, 352, 353, 492, 493, 494, 495, 496, 497, 498, 499, 272, 273, 274, 275, 500, 501, 502, 503, 268, 269, 270, 271, 415, 416, 417, 418, 419, 420, 421, 422, 452, 453, 454, 455, 456, 457, 458, 459, 460, 461, 462, 463, 464, 465, 466, 467, 468, 469, 470, 471, 855, 856, 857, 858, 859, 860, 861, 862, 863, 864, 865, 866] (by decide +kernel) (by decide +kernel)
set_option maxRecDepth 20000 in
theorem gL_law_X7_bestSize : GoodIn wsL_law (wsV RL 108 RX7 yX7_bestSize wsX7_bestSize) := goodIn_app (goodIn_of _ (by decide +kernel)) ggL_law_X7_bestSize
set_option maxRecDepth 20000 in
theorem ggL_law_X6_append : GoodIn wsL_law wsX6_append := goodIn_r _ [679, 25, 680, 681, 682, 24, 683, 684, 685, 686, 687, 688, 67, 689, 848, 849, 850, 851, 852, 853, 854, 886, 887] (by decide +kernel) (by decide +kernel)
set_option maxRecDepth 20000 in
theorem gL_law_X6_append : GoodIn wsL_law (wsV RL 109 RX6 yX6_append wsX6_append) := goodIn_app (goodIn_of _ (by decide +kernel)) ggL_law_X6_append
set_option maxRecDepth 20000 in
theorem ggL_law_X7_append : GoodIn wsL_law wsX7_append := goodIn_r _ [693, 694, 80, 200, 201, 5, 202, 855, 856, 857, 858, 859, 860, 861, 862, 863, 864, 865, 866] (by decide +kernel) (by decide +kernel)
set_option maxRecDepth 20000 in
theorem gL_law_X7_append : GoodIn wsL_law (wsV RL 112 RX7 yX7_append wsX7_append) := goodIn_app (goodIn_of _ (by decide +kernel)) ggL_law_X7_append
set_option maxRecDepth 20000 in
theorem ggL_law_X6_clearText : GoodIn wsL_law wsX6_clearText := goodIn_r _ [698, 25, 699, 700, 701, 24, 702, 684, 848, 849, 850, 851, 852, 853, 854, 886, 887] (by decide +kernel) (by decide +kernel)
set_option maxRecDepth 20000 in
theorem gL_law_X6_clearText : GoodIn wsL_law (wsV RL 113 RX6 yX6_clearText wsX6_clearText) := goodIn_app (goodIn_of _ (by decide +kernel)) ggL_law_X6_clearText
set_option maxRecDepth 20000 in
theorem ggL_law_X7_clearText : GoodIn wsL_law wsX7_clearText := goodIn_r _ [706, 694, 855, 856, 857, 858, 859, 860, 861, 862, 863, 864, 865, 866] (by decide +kernel) (by decide +kernel)
set_option maxRecDepth 20000 in
theorem gL_law_X7_clearText : GoodIn wsL_law (wsV RL 116 RX7 yX7_clearText wsX7_clearText) := goodIn_app (goodIn_of _ (by decide +kernel)) ggL_law_X7_clearText
set_option maxRecDepth 20000 in
theorem ggL_law_X6_errorPosition : GoodIn wsL_law wsX6_errorPosition := goodIn_r _ [710, 29, 25, 711, 712, 713, 714, 28, 715, 716, 717, 718, 719, 720, 721, 722, 723, 724, 725, 726, 727, 24, 728, 684, 67, 729, 730, 731, 732, 733, 734, 735, 736, 737, 738, 739, 740, 741, 742, 743, 744, 745, 746, 747, 748, 749, 750, 751, 752, 753, 754, 755, 848, 849, 850, 851, 852, 853, 854, 886, 887, 888, 889, 890, 891, 892, 893] (by decide +kernel) (by decide +kernel)
set_option maxRecDepth 20000 in
theorem gL_law_X6_errorPosition : GoodIn wsL_law (wsV RL 117 RX6 yX6_errorPosition wsX6_errorPosition) := goodIn_app (goodIn_of _ (by decide +kernel)) ggL_law_X6_errorPosition
set_option maxRecDepth 20000 in
theorem ggL_law_X7_errorPosition : GoodIn wsL_law wsX7_errorPosition := goodIn_r _ [759, 760, 761, 762, 694, 763, 764, 765, 5, 766, 81, 767, 768, 769, 770, 771, 772, 773, 774, 775, 776, 777, 778, 80, 200, 201, 202, 779, 780, 781, 782, 783, 784, 785, 786, 787, 788, 789, 790, 855, 856, 857, 858, 859, 860, 861, 862, 863, 864, 865, 866] (by decide +kernel) (by decide +kernel)
set_option maxRecDepth 20000 in
theorem gL_law_X7_errorPosition : GoodIn wsL_law (wsV RL 120 RX7 yX7_errorPosition wsX7_errorPosition) := goodIn_app (goodIn_of _ (by decide +kernel)) ggL_law_X7_errorPosition
set_option maxRecDepth 20000 in
theorem ggL_law_X6_read : GoodIn wsL_law wsX6_read := goodIn_r _ [794, 15, 86, 21, 87, 236, 25, 795, 708, 709, 2, 710, 29, 711, 712, 713, 714, 28, 715, 716, 717, 718, 719, 720, 721, 722, 723, 724, 725, 726, 727, 24, 728, 684, 67, 729, 730, 731, 732, 733, 734, 735, 736, 737, 738, 739, 740, 741, 742, 743, 744, 745, 746, 747, 748, 749, 750, 751, 752, 753, 754, 755, 96, 97, 98, 20, 99, 100, 101, 102, 103, 104, 105, 63, 106, 107, 108, 109, 110, 111, 112, 14, 113, 36, 40, 114, 41, 42, 44, 115, 116, 117, 118, 119, 45, 120, 121, 122, 123, 124, 125, 126, 127, 128, 129, 130, 35, 131, 49, 132, 50, 51, 95, 133, 134, 135, 39, 136, 55, 137, 56, 57, 138, 796, 797, 798, 799, 800, 801, 802, 803, 804, 805, 806, 807, 91, 92, 93, 94, 808, 809, 810, 811, 139, 140, 141, 142, 143, 144, 145, 146, 147, 148, 149, 150, 151, 152, 153, 154, 155, 156, 157, 158, 159, 160, 161, 162, 163, 164, 165, 166, 167, 168, 169, 170, 171, 172, 173, 174, 175, 176, 177, 178, 179, 180, 181, 182, 183, 184, 185, 186, 187, 188, 189, 190, 191, 192, 193, 194, 195, 699, 700, 701, 702, 848, 849, 850, 851, 852, 853, 854, 867, 868, 869, 870, 871, 872, 873, 874, 875, 876, 877, 878, 879, 880, 881, 882, 894, 895, 896, 897, 886, 887, 888, 889, 890, 891, 892, 893, 883, 884, 885, 898, 899, 900, 901] (by decide +kernel) (by decide +kernel)
set_option maxRecDepth 20000 in
theorem gL_law_X6_read : GoodIn wsL_law (wsV RL 121 RX6 yX6_read wsX6_read) := goodIn_app (goodIn_of _ (by decide +kernel)) ggL_law_X6_read
set_option maxRecDepth 20000 in
theorem ggL_law_X7_read : GoodIn wsL_law wsX7_read := goodIn_r _ [815, 75, 760, 81, 694, 816, 757, 758, 5, 759, 761, 762, 763, 764, 765, 766, 767, 768, 769, 770, 771, 772, 773, 774, 775, 776, 777, 778, 80, 200, 201, 202, 779, 780, 781, 782, 783, 784, 785, 786, 787, 788, 789, 790, 203, 204, 205, 206, 207, 76, 208, 209, 210, 211, 212, 213, 214, 215, 216, 217, 218, 219, 220, 221, 222, 223, 224, 225, 226, 227, 228, 229, 230, 231, 855, 856, 857, 858, 859, 860, 861, 862, 863, 864, 865, 866] (by decide +kernel) (by decide +kernel)
set_option maxRecDepth 20000 in
theorem gL_law_X7_read : GoodIn wsL_law (wsV RL 124 RX7 yX7_read wsX7_read) := goodIn_app (goodIn_of _ (by decide +kernel)) ggL_law_X7_read
set_option maxRecDepth 20000 in
theorem ggL_law_X6_undo : GoodIn wsL_law wsX6_undo := goodIn_r _ [820, 21, 821, 15, 822, 823, 824, 20, 825, 100, 102, 103, 104, 105, 101, 63, 106, 107, 108, 109, 110, 111, 112, 14, 113, 36, 40, 114, 41, 42, 44, 115, 116, 117, 118, 119, 45, 120, 121, 122, 123, 124, 125, 126, 127, 128, 129, 130, 35, 131, 49, 132, 50, 51, 95, 133, 134, 135, 39, 136, 55, 137, 56, 57, 138, 848, 849, 850, 851, 852, 853, 854, 883, 884, 885, 867, 868, 869, 870, 871, 872, 873, 874, 875, 876, 877, 878, 879, 880, 881, 882, 894, 895, 896, 897, 898, 899, 900, 901] (by decide +kernel) (by decide +kernel)
set_option maxRecDepth 20000 in
theorem gL_law_X6_undo : GoodIn wsL_law (wsV RL 125 RX6 yX6_undo wsX6_undo) := goodIn_app (goodIn_of _ (by decide +kernel)) ggL_law_X6_undo
set_option maxRecDepth 20000 in
theorem ggL_law_X7_undo : GoodIn wsL_law wsX7_undo := goodIn_r _ [829, 207, 75, 76, 855, 856, 857, 858, 859, 860, 861, 862, 863, 864, 865, 866] (by decide +kernel) (by decide +kernel)
set_option maxRecDepth 20000 in
theorem gL_law_X7_undo : GoodIn wsL_law (wsV RL 128 RX7 yX7_undo wsX7_undo) := goodIn_app (goodIn_of _ (by decide +kernel)) ggL_law_X7_undo
set_option maxRecDepth 20000 in
theorem ggL_law_X6_save : GoodIn wsL_law wsX6_save := goodIn_r _ [833, 17, 15, 834, 87, 236, 651, 111, 112, 14, 113, 36, 40, 114, 41, 42, 44, 115, 116, 117, 118, 119, 45, 120, 121, 122, 123, 124, 125, 126, 127, 128, 129, 130, 35, 131, 49, 132, 50, 51, 95, 133, 134, 135, 39, 136, 55, 137, 56, 57, 138, 848, 849, 850, 851, 852, 853, 854, 867, 868, 869, 870, 871, 872, 873, 874, 875, 876, 877, 878, 879, 880, 881, 882, 894, 895, 896, 897, 898, 899, 900, 901] (by decide +kernel) (by decide +kernel)
set_option maxRecDepth 20000 in
theorem gL_law_X6_save : GoodIn wsL_law (wsV RL 129 RX6 yX6_save wsX6_save) := goodIn_app (goodIn_of _ (by decide +kernel)) ggL_law_X6_save
set_option maxRecDepth 20000 in
theorem ggL_law_X7_save : GoodIn wsL_law wsX7_save := goodIn_r _ [838, 839, 77, 75, 855, 856, 857, 858, 859, 860, 861, 862, 863, 864, 865, 866] (by decide +kernel) (by decide +kernel)
set_option maxRecDepth 20000 in
theorem gL_law_X7_save : GoodIn wsL_law (wsV RL 132 RX7 yX7_save wsX7_save) := goodIn_app (goodIn_of _ (by decide +kernel)) ggL_law_X7_save
set_option maxRecDepth 20000 in
theorem ggL_law_X6_restore : GoodIn wsL_law wsX6_restore := goodIn_r _ [843, 834, 21, 15, 17, 87, 236, 96, 97, 98, 20, 99, 100, 101, 102, 103, 104, 105, 63, 106, 107, 108, 109, 110, 111, 112, 14, 113, 36, 40, 114, 41, 42, 44, 115, 116, 117, 118, 119, 45, 120, 121, 122, 123, 124, 125, 126, 127, 128, 129, 130, 35, 131, 49, 132, 50, 51, 95, 133, 134, 135, 39, 136, 55, 137, 56, 57, 138, 651, 848, 849, 850, 851, 852, 853, 854, 867, 868, 869, 870, 871, 872, 873, 874, 875, 876, 877, 878, 879, 880, 881, 882, 894, 895, 896, 897, 883, 884, 885, 898, 899, 900, 901] (by decide +kernel) (by decide +kernel)
set_option maxRecDepth 20000 in
theorem gL_law_X6_restore : GoodIn wsL_law (wsV RL 133 RX6 yX6_restore wsX6_restore) := goodIn_app (goodIn_of _ (by decide +kernel)) ggL_law_X6_restore
set_option maxRecDepth 20000 in
theorem ggL_law_X7_restore : GoodIn wsL_law wsX7_restore := goodIn_r _ [847, 839, 75, 77, 203, 204, 205, 5, 206, 207, 76, 855, 856, 857, 858, 859, 860, 861, 862, 863, 864, 865, 866] (by decide +kernel) (by decide +kernel)
set_option maxRecDepth 20000 in
theorem gL_law_X7_restore : GoodIn wsL_law (wsV RL 136 RX7 yX7_restore wsX7_restore) := goodIn_app (goodIn_of _ (by decide +kernel)) ggL_law_X7_restore
theorem dL_law_0 : decode cL_law 0 = .ok (.new 7, 3) := by decide +kernel
theorem dL_law_3 : decode cL_law 3 = .ok (.dup, 1) := by decide +kernel
theorem dL_law_4 : decode cL_law 4 = .ok (.invokespecial 9, 3) := by decide +kernel
theorem dL_law_7 : decode cL_law 7 = .ok (.astore_n 1, 1) := by decide +kernel
theorem dL_law_8 : decode cL_law 8 = .ok (.new 10, 3) := by decide +kernel
theorem dL_law_11 : decode cL_law 11 = .ok (.dup, 1) := by decide +kernel
theorem dL_law_12 : decode cL_law 12 = .ok (.invokespecial 12, 3) := by decide +kernel
theorem dL_law_15 : decode cL_law 15 = .ok (.astore_n 2, 1) := by decide +kernel
theorem dL_law_16 : decode cL_law 16 = .ok (.iconst 0, 1) := by decide +kernel
theorem dL_law_17 : decode cL_law 17 = .ok (.istore_n 3, 1) := by decide +kernel
theorem dL_law_18 : decode cL_law 18 = .ok (.iload_n 3, 1) := by decide +kernel
theorem dL_law_19 : decode cL_law 19 = .ok (.aload_n 0, 1) := by decide +kernel
theorem dL_law_20 : decode cL_law 20 = .ok (.arraylength, 1) := by decide +kernel
theorem dL_law_21 : decode cL_law 21 = .ok (.iconst 4, 1) := by decide +kernel
theorem dL_law_22 : decode cL_law 22 = .ok (.isub, 1) := by decide +kernel
theorem dL_law_23 : decode cL_law 23 = .ok (.if_icmp .gt 727, 3) := by decide +kernel
theorem dL_law_26 : decode cL_law 26 = .ok (.aload_n 0, 1) := by decide +kernel
theorem dL_law_27 : decode cL_law 27 = .ok (.iload_n 3, 1) := by decide +kernel
theorem dL_law_28 : decode cL_law 28 = .ok (.iaload, 1) := by decide +kernel
theorem dL_law_29 : decode cL_law 29 = .ok (.bipush 31, 2) := by decide +kernel
theorem dL_law_31 : decode cL_law 31 = .ok (.iand, 1) := by decide +kernel
theorem dL_law_32 : decode cL_law 32 = .ok (.tableswitch 712 0 29 #[136, 159, 198, 211, 224, 237, 260, 283, 306, 319, 342, 355, 368, 381, 404, 417, 440, 463, 506, 529, 552, 575, 598, 611, 634, 647, 660, 673, 686, 699], 136) := by decide +kernel
theorem dL_law_168 : decode cL_law 168 = .ok (.aload_n 1, 1) := by decide +kernel
theorem dL_law_169 : decode cL_law 169 = .ok (.aload_n 0, 1) := by decide +kernel
theorem dL_law_170 : decode cL_law 170 = .ok (.iload_n 3, 1) := by decide +kernel
theorem dL_law_171 : decode cL_law 171 = .ok (.iconst 1, 1) := by decide +kernel
theorem dL_law_172 : decode cL_law 172 = .ok (.iadd, 1) := by decide +kernel
theorem dL_law_173 : decode cL_law 173 = .ok (.iaload, 1) := by decide +kernel
theorem dL_law_174 : decode cL_law 174 = .ok (.invokevirtual 13, 3) := by decide +kernel
theorem dL_law_177 : decode cL_law 177 = .ok (.aload_n 2, 1) := by decide +kernel
theorem dL_law_178 : decode cL_law 178 = .ok (.aload_n 0, 1) := by decide +kernel
theorem dL_law_179 : decode cL_law 179 = .ok (.iload_n 3, 1) := by decide +kernel
theorem dL_law_180 : decode cL_law 180 = .ok (.iconst 1, 1) := by decide +kernel
theorem dL_law_181 : decode cL_law 181 = .ok (.iadd, 1) := by decide +kernel
theorem dL_law_182 : decode cL_law 182 = .ok (.iaload, 1) := by decide +kernel
theorem dL_law_183 : decode cL_law 183 = .ok (.invokevirtual 17, 3) := by decide +kernel
theorem dL_law_186 : decode cL_law 186 = .ok (.if_icmp .eq 558, 3) := by decide +kernel
theorem dL_law_189 : decode cL_law 189 = .ok (.iconst 0, 1) := by decide +kernel
theorem dL_law_190 : decode cL_law 190 = .ok (.ireturn, 1) := by decide +kernel
theorem dL_law_191 : decode cL_law 191 = .ok (.aload_n 1, 1) := by decide +kernel
theorem dL_law_192 : decode cL_law 192 = .ok (.aload_n 0, 1) := by decide +kernel
theorem dL_law_193 : decode cL_law 193 = .ok (.iload_n 3, 1) := by decide +kernel
theorem dL_law_194 : decode cL_law 194 = .ok (.iconst 1, 1) := by decide +kernel
theorem dL_law_195 : decode cL_law 195 = .ok (.iadd, 1) := by decide +kernel
theorem dL_law_196 : decode cL_law 196 = .ok (.iaload, 1) := by decide +kernel
theorem dL_law_197 : decode cL_law 197 = .ok (.ifCond .eq 7, 3) := by decide +kernel
theorem dL_law_200 : decode cL_law 200 = .ok (.iconst 1, 1) := by decide +kernel
theorem dL_law_201 : decode cL_law 201 = .ok (.goto 4, 3) := by decide +kernel
theorem dL_law_204 : decode cL_law 204 = .ok (.iconst 0, 1) := by decide +kernel
theorem dL_law_205 : decode cL_law 205 = .ok (.invokevirtual 18, 3) := by decide +kernel
theorem dL_law_208 : decode cL_law 208 = .ok (.aload_n 2, 1) := by decide +kernel
theorem dL_law_209 : decode cL_law 209 = .ok (.aload_n 0, 1) := by decide +kernel
theorem dL_law_210 : decode cL_law 210 = .ok (.iload_n 3, 1) := by decide +kernel
theorem dL_law_211 : decode cL_law 211 = .ok (.iconst 1, 1) := by decide +kernel
theorem dL_law_212 : decode cL_law 212 = .ok (.iadd, 1) := by decide +kernel
theorem dL_law_213 : decode cL_law 213 = .ok (.iaload, 1) := by decide +kernel
theorem dL_law_214 : decode cL_law 214 = .ok (.ifCond .eq 7, 3) := by decide +kernel
theorem dL_law_217 : decode cL_law 217 = .ok (.iconst 1, 1) := by decide +kernel
theorem dL_law_218 : decode cL_law 218 = .ok (.goto 4, 3) := by decide +kernel
theorem dL_law_221 : decode cL_law 221 = .ok (.iconst 0, 1) := by decide +kernel
theorem dL_law_222 : decode cL_law 222 = .ok (.invokevirtual 22, 3) := by decide +kernel
theorem dL_law_225 : decode cL_law 225 = .ok (.if_icmp .eq 519, 3) := by decide +kernel
theorem dL_law_228 : decode cL_law 228 = .ok (.iconst 0, 1) := by decide +kernel
theorem dL_law_229 : decode cL_law 229 = .ok (.ireturn, 1) := by decide +kernel
theorem dL_law_230 : decode cL_law 230 = .ok (.aload_n 1, 1) := by decide +kernel
theorem dL_law_231 : decode cL_law 231 = .ok (.invokevirtual 23, 3) := by decide +kernel
theorem dL_law_234 : decode cL_law 234 = .ok (.aload_n 2, 1) := by decide +kernel
theorem dL_law_235 : decode cL_law 235 = .ok (.invokevirtual 27, 3) := by decide +kernel
theorem dL_law_238 : decode cL_law 238 = .ok (.if_icmp .eq 506, 3) := by decide +kernel
theorem dL_law_241 : decode cL_law 241 = .ok (.iconst 0, 1) := by decide +kernel
theorem dL_law_242 : decode cL_law 242 = .ok (.ireturn, 1) := by decide +kernel
theorem dL_law_243 : decode cL_law 243 = .ok (.aload_n 1, 1) := by decide +kernel
theorem dL_law_244 : decode cL_law 244 = .ok (.invokevirtual 28, 3) := by decide +kernel
theorem dL_law_247 : decode cL_law 247 = .ok (.aload_n 2, 1) := by decide +kernel
theorem dL_law_248 : decode cL_law 248 = .ok (.invokevirtual 31, 3) := by decide +kernel
theorem dL_law_251 : decode cL_law 251 = .ok (.if_icmp .eq 493, 3) := by decide +kernel
theorem dL_law_254 : decode cL_law 254 = .ok (.iconst 0, 1) := by decide +kernel
theorem dL_law_255 : decode cL_law 255 = .ok (.ireturn, 1) := by decide +kernel
theorem dL_law_256 : decode cL_law 256 = .ok (.aload_n 1, 1) := by decide +kernel
theorem dL_law_257 : decode cL_law 257 = .ok (.invokevirtual 32, 3) := by decide +kernel
theorem dL_law_260 : decode cL_law 260 = .ok (.aload_n 2, 1) := by decide +kernel
theorem dL_law_261 : decode cL_law 261 = .ok (.invokevirtual 35, 3) := by decide +kernel
theorem dL_law_264 : decode cL_law 264 = .ok (.if_icmp .eq 480, 3) := by decide +kernel
theorem dL_law_267 : decode cL_law 267 = .ok (.iconst 0, 1) := by decide +kernel
theorem dL_law_268 : decode cL_law 268 = .ok (.ireturn, 1) := by decide +kernel
theorem dL_law_269 : decode cL_law 269 = .ok (.aload_n 1, 1) := by decide +kernel
theorem dL_law_270 : decode cL_law 270 = .ok (.aload_n 0, 1) := by decide +kernel
theorem dL_law_271 : decode cL_law 271 = .ok (.iload_n 3, 1) := by decide +kernel
theorem dL_law_272 : decode cL_law 272 = .ok (.iconst 1, 1) := by decide +kernel
theorem dL_law_273 : decode cL_law 273 = .ok (.iadd, 1) := by decide +kernel
theorem dL_law_274 : decode cL_law 274 = .ok (.iaload, 1) := by decide +kernel
theorem dL_law_275 : decode cL_law 275 = .ok (.invokevirtual 36, 3) := by decide +kernel
theorem dL_law_278 : decode cL_law 278 = .ok (.aload_n 2, 1) := by decide +kernel
theorem dL_law_279 : decode cL_law 279 = .ok (.aload_n 0, 1) := by decide +kernel
theorem dL_law_280 : decode cL_law 280 = .ok (.iload_n 3, 1) := by decide +kernel
theorem dL_law_281 : decode cL_law 281 = .ok (.iconst 1, 1) := by decide +kernel
theorem dL_law_282 : decode cL_law 282 = .ok (.iadd, 1) := by decide +kernel
theorem dL_law_283 : decode cL_law 283 = .ok (.iaload, 1) := by decide +kernel
theorem dL_law_284 : decode cL_law 284 = .ok (.invokevirtual 39, 3) := by decide +kernel
theorem dL_law_287 : decode cL_law 287 = .ok (.if_icmp .eq 457, 3) := by decide +kernel
theorem dL_law_290 : decode cL_law 290 = .ok (.iconst 0, 1) := by decide +kernel
theorem dL_law_291 : decode cL_law 291 = .ok (.ireturn, 1) := by decide +kernel
theorem dL_law_292 : decode cL_law 292 = .ok (.aload_n 1, 1) := by decide +kernel
theorem dL_law_293 : decode cL_law 293 = .ok (.aload_n 0, 1) := by decide +kernel
theorem dL_law_294 : decode cL_law 294 = .ok (.iload_n 3, 1) := by decide +kernel
theorem dL_law_295 : decode cL_law 295 = .ok (.iconst 1, 1) := by decide +kernel
theorem dL_law_296 : decode cL_law 296 = .ok (.iadd, 1) := by decide +kernel
theorem dL_law_297 : decode cL_law 297 = .ok (.iaload, 1) := by decide +kernel
theorem dL_law_298 : decode cL_law 298 = .ok (.invokevirtual 40, 3) := by decide +kernel
theorem dL_law_301 : decode cL_law 301 = .ok (.aload_n 2, 1) := by decide +kernel
theorem dL_law_302 : decode cL_law 302 = .ok (.aload_n 0, 1) := by decide +kernel
theorem dL_law_303 : decode cL_law 303 = .ok (.iload_n 3, 1) := by decide +kernel
theorem dL_law_304 : decode cL_law 304 = .ok (.iconst 1, 1) := by decide +kernel
theorem dL_law_305 : decode cL_law 305 = .ok (.iadd, 1) := by decide +kernel
theorem dL_law_306 : decode cL_law 306 = .ok (.iaload, 1) := by decide +kernel
theorem dL_law_307 : decode cL_law 307 = .ok (.invokevirtual 43, 3) := by decide +kernel
theorem dL_law_310 : decode cL_law 310 = .ok (.if_icmp .eq 434, 3) := by decide +kernel
theorem dL_law_313 : decode cL_law 313 = .ok (.iconst 0, 1) := by decide +kernel
theorem dL_law_314 : decode cL_law 314 = .ok (.ireturn, 1) := by decide +kernel
theorem dL_law_315 : decode cL_law 315 = .ok (.aload_n 1, 1) := by decide +kernel
theorem dL_law_316 : decode cL_law 316 = .ok (.aload_n 0, 1) := by decide +kernel
theorem dL_law_317 : decode cL_law 317 = .ok (.iload_n 3, 1) := by decide +kernel
theorem dL_law_318 : decode cL_law 318 = .ok (.iconst 1, 1) := by decide +kernel
theorem dL_law_319 : decode cL_law 319 = .ok (.iadd, 1) := by decide +kernel
theorem dL_law_320 : decode cL_law 320 = .ok (.iaload, 1) := by decide +kernel
theorem dL_law_321 : decode cL_law 321 = .ok (.invokevirtual 44, 3) := by decide +kernel
theorem dL_law_324 : decode cL_law 324 = .ok (.aload_n 2, 1) := by decide +kernel
theorem dL_law_325 : decode cL_law 325 = .ok (.aload_n 0, 1) := by decide +kernel
theorem dL_law_326 : decode cL_law 326 = .ok (.iload_n 3, 1) := by decide +kernel
theorem dL_law_327 : decode cL_law 327 = .ok (.iconst 1, 1) := by decide +kernel
theorem dL_law_328 : decode cL_law 328 = .ok (.iadd, 1) := by decide +kernel
theorem dL_law_329 : decode cL_law 329 = .ok (.iaload, 1) := by decide +kernel
theorem dL_law_330 : decode cL_law 330 = .ok (.invokevirtual 47, 3) := by decide +kernel
theorem dL_law_333 : decode cL_law 333 = .ok (.if_icmp .eq 411, 3) := by decide +kernel
theorem dL_law_336 : decode cL_law 336 = .ok (.iconst 0, 1) := by decide +kernel
theorem dL_law_337 : decode cL_law 337 = .ok (.ireturn, 1) := by decide +kernel
theorem dL_law_338 : decode cL_law 338 = .ok (.aload_n 1, 1) := by decide +kernel
theorem dL_law_339 : decode cL_law 339 = .ok (.invokevirtual 48, 3) := by decide +kernel
theorem dL_law_342 : decode cL_law 342 = .ok (.aload_n 2, 1) := by decide +kernel
theorem dL_law_343 : decode cL_law 343 = .ok (.invokevirtual 51, 3) := by decide +kernel
theorem dL_law_346 : decode cL_law 346 = .ok (.if_icmp .eq 398, 3) := by decide +kernel
theorem dL_law_349 : decode cL_law 349 = .ok (.iconst 0, 1) := by decide +kernel
theorem dL_law_350 : decode cL_law 350 = .ok (.ireturn, 1) := by decide +kernel
theorem dL_law_351 : decode cL_law 351 = .ok (.aload_n 1, 1) := by decide +kernel
theorem dL_law_352 : decode cL_law 352 = .ok (.aload_n 0, 1) := by decide +kernel
theorem dL_law_353 : decode cL_law 353 = .ok (.iload_n 3, 1) := by decide +kernel
theorem dL_law_354 : decode cL_law 354 = .ok (.iconst 1, 1) := by decide +kernel
theorem dL_law_355 : decode cL_law 355 = .ok (.iadd, 1) := by decide +kernel
theorem dL_law_356 : decode cL_law 356 = .ok (.iaload, 1) := by decide +kernel
theorem dL_law_357 : decode cL_law 357 = .ok (.invokevirtual 52, 3) := by decide +kernel
theorem dL_law_360 : decode cL_law 360 = .ok (.aload_n 2, 1) := by decide +kernel
theorem dL_law_361 : decode cL_law 361 = .ok (.aload_n 0, 1) := by decide +kernel
theorem dL_law_362 : decode cL_law 362 = .ok (.iload_n 3, 1) := by decide +kernel
theorem dL_law_363 : decode cL_law 363 = .ok (.iconst 1, 1) := by decide +kernel
theorem dL_law_364 : decode cL_law 364 = .ok (.iadd, 1) := by decide +kernel
theorem dL_law_365 : decode cL_law 365 = .ok (.iaload, 1) := by decide +kernel
theorem dL_law_366 : decode cL_law 366 = .ok (.invokevirtual 55, 3) := by decide +kernel
theorem dL_law_369 : decode cL_law 369 = .ok (.if_icmp .eq 375, 3) := by decide +kernel
theorem dL_law_372 : decode cL_law 372 = .ok (.iconst 0, 1) := by decide +kernel
theorem dL_law_373 : decode cL_law 373 = .ok (.ireturn, 1) := by decide +kernel
theorem dL_law_374 : decode cL_law 374 = .ok (.aload_n 1, 1) := by decide +kernel
theorem dL_law_375 : decode cL_law 375 = .ok (.invokevirtual 56, 3) := by decide +kernel
theorem dL_law_378 : decode cL_law 378 = .ok (.aload_n 2, 1) := by decide +kernel
theorem dL_law_379 : decode cL_law 379 = .ok (.invokevirtual 59, 3) := by decide +kernel
theorem dL_law_382 : decode cL_law 382 = .ok (.if_icmp .eq 362, 3) := by decide +kernel
theorem dL_law_385 : decode cL_law 385 = .ok (.iconst 0, 1) := by decide +kernel
theorem dL_law_386 : decode cL_law 386 = .ok (.ireturn, 1) := by decide +kernel
theorem dL_law_387 : decode cL_law 387 = .ok (.aload_n 1, 1) := by decide +kernel
theorem dL_law_388 : decode cL_law 388 = .ok (.invokevirtual 60, 3) := by decide +kernel
theorem dL_law_391 : decode cL_law 391 = .ok (.aload_n 2, 1) := by decide +kernel
theorem dL_law_392 : decode cL_law 392 = .ok (.invokevirtual 63, 3) := by decide +kernel
theorem dL_law_395 : decode cL_law 395 = .ok (.if_icmp .eq 349, 3) := by decide +kernel
theorem dL_law_398 : decode cL_law 398 = .ok (.iconst 0, 1) := by decide +kernel
theorem dL_law_399 : decode cL_law 399 = .ok (.ireturn, 1) := by decide +kernel
theorem dL_law_400 : decode cL_law 400 = .ok (.aload_n 1, 1) := by decide +kernel
theorem dL_law_401 : decode cL_law 401 = .ok (.invokevirtual 64, 3) := by decide +kernel
theorem dL_law_404 : decode cL_law 404 = .ok (.aload_n 2, 1) := by decide +kernel
theorem dL_law_405 : decode cL_law 405 = .ok (.invokevirtual 67, 3) := by decide +kernel
theorem dL_law_408 : decode cL_law 408 = .ok (.if_icmp .eq 336, 3) := by decide +kernel
theorem dL_law_411 : decode cL_law 411 = .ok (.iconst 0, 1) := by decide +kernel
theorem dL_law_412 : decode cL_law 412 = .ok (.ireturn, 1) := by decide +kernel
theorem dL_law_413 : decode cL_law 413 = .ok (.aload_n 1, 1) := by decide +kernel
theorem dL_law_414 : decode cL_law 414 = .ok (.aload_n 0, 1) := by decide +kernel
theorem dL_law_415 : decode cL_law 415 = .ok (.iload_n 3, 1) := by decide +kernel
theorem dL_law_416 : decode cL_law 416 = .ok (.iconst 1, 1) := by decide +kernel
theorem dL_law_417 : decode cL_law 417 = .ok (.iadd, 1) := by decide +kernel
theorem dL_law_418 : decode cL_law 418 = .ok (.iaload, 1) := by decide +kernel
theorem dL_law_419 : decode cL_law 419 = .ok (.invokevirtual 68, 3) := by decide +kernel
theorem dL_law_422 : decode cL_law 422 = .ok (.aload_n 2, 1) := by decide +kernel
theorem dL_law_423 : decode cL_law 423 = .ok (.aload_n 0, 1) := by decide +kernel
theorem dL_law_424 : decode cL_law 424 = .ok (.iload_n 3, 1) := by decide +kernel
theorem dL_law_425 : decode cL_law 425 = .ok (.iconst 1, 1) := by decide +kernel
theorem dL_law_426 : decode cL_law 426 = .ok (.iadd, 1) := by decide +kernel
theorem dL_law_427 : decode cL_law 427 = .ok (.iaload, 1) := by decide +kernel
theorem dL_law_428 : decode cL_law 428 = .ok (.invokevirtual 71, 3) := by decide +kernel
theorem dL_law_431 : decode cL_law 431 = .ok (.if_icmp .eq 313, 3) := by decide +kernel
theorem dL_law_434 : decode cL_law 434 = .ok (.iconst 0, 1) := by decide +kernel
theorem dL_law_435 : decode cL_law 435 = .ok (.ireturn, 1) := by decide +kernel
theorem dL_law_436 : decode cL_law 436 = .ok (.aload_n 1, 1) := by decide +kernel
theorem dL_law_437 : decode cL_law 437 = .ok (.invokevirtual 72, 3) := by decide +kernel
theorem dL_law_440 : decode cL_law 440 = .ok (.aload_n 2, 1) := by decide +kernel
theorem dL_law_441 : decode cL_law 441 = .ok (.invokevirtual 75, 3) := by decide +kernel
theorem dL_law_444 : decode cL_law 444 = .ok (.if_icmp .eq 300, 3) := by decide +kernel
theorem dL_law_447 : decode cL_law 447 = .ok (.iconst 0, 1) := by decide +kernel
theorem dL_law_448 : decode cL_law 448 = .ok (.ireturn, 1) := by decide +kernel
theorem dL_law_449 : decode cL_law 449 = .ok (.aload_n 1, 1) := by decide +kernel
theorem dL_law_450 : decode cL_law 450 = .ok (.aload_n 0, 1) := by decide +kernel
theorem dL_law_451 : decode cL_law 451 = .ok (.iload_n 3, 1) := by decide +kernel
theorem dL_law_452 : decode cL_law 452 = .ok (.iconst 1, 1) := by decide +kernel
theorem dL_law_453 : decode cL_law 453 = .ok (.iadd, 1) := by decide +kernel
theorem dL_law_454 : decode cL_law 454 = .ok (.iaload, 1) := by decide +kernel
theorem dL_law_455 : decode cL_law 455 = .ok (.invokevirtual 76, 3) := by decide +kernel
theorem dL_law_458 : decode cL_law 458 = .ok (.aload_n 2, 1) := by decide +kernel
theorem dL_law_459 : decode cL_law 459 = .ok (.aload_n 0, 1) := by decide +kernel
theorem dL_law_460 : decode cL_law 460 = .ok (.iload_n 3, 1) := by decide +kernel
theorem dL_law_461 : decode cL_law 461 = .ok (.iconst 1, 1) := by decide +kernel
theorem dL_law_462 : decode cL_law 462 = .ok (.iadd, 1) := by decide +kernel
theorem dL_law_463 : decode cL_law 463 = .ok (.iaload, 1) := by decide +kernel
theorem dL_law_464 : decode cL_law 464 = .ok (.invokevirtual 79, 3) := by decide +kernel
theorem dL_law_467 : decode cL_law 467 = .ok (.if_icmp .eq 277, 3) := by decide +kernel
theorem dL_law_470 : decode cL_law 470 = .ok (.iconst 0, 1) := by decide +kernel
theorem dL_law_471 : decode cL_law 471 = .ok (.ireturn, 1) := by decide +kernel
theorem dL_law_472 : decode cL_law 472 = .ok (.aload_n 1, 1) := by decide +kernel
theorem dL_law_473 : decode cL_law 473 = .ok (.aload_n 0, 1) := by decide +kernel
theorem dL_law_474 : decode cL_law 474 = .ok (.iload_n 3, 1) := by decide +kernel
theorem dL_law_475 : decode cL_law 475 = .ok (.iconst 1, 1) := by decide +kernel
theorem dL_law_476 : decode cL_law 476 = .ok (.iadd, 1) := by decide +kernel
theorem dL_law_477 : decode cL_law 477 = .ok (.iaload, 1) := by decide +kernel
theorem dL_law_478 : decode cL_law 478 = .ok (.invokevirtual 80, 3) := by decide +kernel
theorem dL_law_481 : decode cL_law 481 = .ok (.aload_n 2, 1) := by decide +kernel
theorem dL_law_482 : decode cL_law 482 = .ok (.aload_n 0, 1) := by decide +kernel
theorem dL_law_483 : decode cL_law 483 = .ok (.iload_n 3, 1) := by decide +kernel
theorem dL_law_484 : decode cL_law 484 = .ok (.iconst 1, 1) := by decide +kernel
theorem dL_law_485 : decode cL_law 485 = .ok (.iadd, 1) := by decide +kernel
theorem dL_law_486 : decode cL_law 486 = .ok (.iaload, 1) := by decide +kernel
theorem dL_law_487 : decode cL_law 487 = .ok (.invokevirtual 83, 3) := by decide +kernel
theorem dL_law_490 : decode cL_law 490 = .ok (.if_icmp .eq 254, 3) := by decide +kernel
theorem dL_law_493 : decode cL_law 493 = .ok (.iconst 0, 1) := by decide +kernel
theorem dL_law_494 : decode cL_law 494 = .ok (.ireturn, 1) := by decide +kernel
theorem dL_law_495 : decode cL_law 495 = .ok (.aload_n 1, 1) := by decide +kernel
theorem dL_law_496 : decode cL_law 496 = .ok (.aload_n 0, 1) := by decide +kernel
theorem dL_law_497 : decode cL_law 497 = .ok (.iload_n 3, 1) := by decide +kernel
theorem dL_law_498 : decode cL_law 498 = .ok (.iconst 1, 1) := by decide +kernel
theorem dL_law_499 : decode cL_law 499 = .ok (.iadd, 1) := by decide +kernel
theorem dL_law_500 : decode cL_law 500 = .ok (.iaload, 1) := by decide +kernel
theorem dL_law_501 : decode cL_law 501 = .ok (.aload_n 0, 1) := by decide +kernel
theorem dL_law_502 : decode cL_law 502 = .ok (.iload_n 3, 1) := by decide +kernel
theorem dL_law_503 : decode cL_law 503 = .ok (.iconst 2, 1) := by decide +kernel
theorem dL_law_504 : decode cL_law 504 = .ok (.iadd, 1) := by decide +kernel
theorem dL_law_505 : decode cL_law 505 = .ok (.iaload, 1) := by decide +kernel
theorem dL_law_506 : decode cL_law 506 = .ok (.aload_n 0, 1) := by decide +kernel
theorem dL_law_507 : decode cL_law 507 = .ok (.iload_n 3, 1) := by decide +kernel
theorem dL_law_508 : decode cL_law 508 = .ok (.iconst 3, 1) := by decide +kernel
theorem dL_law_509 : decode cL_law 509 = .ok (.iadd, 1) := by decide +kernel
theorem dL_law_510 : decode cL_law 510 = .ok (.iaload, 1) := by decide +kernel
theorem dL_law_511 : decode cL_law 511 = .ok (.invokevirtual 84, 3) := by decide +kernel
theorem dL_law_514 : decode cL_law 514 = .ok (.aload_n 2, 1) := by decide +kernel
theorem dL_law_515 : decode cL_law 515 = .ok (.aload_n 0, 1) := by decide +kernel
theorem dL_law_516 : decode cL_law 516 = .ok (.iload_n 3, 1) := by decide +kernel
theorem dL_law_517 : decode cL_law 517 = .ok (.iconst 1, 1) := by decide +kernel
theorem dL_law_518 : decode cL_law 518 = .ok (.iadd, 1) := by decide +kernel
theorem dL_law_519 : decode cL_law 519 = .ok (.iaload, 1) := by decide +kernel
theorem dL_law_520 : decode cL_law 520 = .ok (.aload_n 0, 1) := by decide +kernel
theorem dL_law_521 : decode cL_law 521 = .ok (.iload_n 3, 1) := by decide +kernel
theorem dL_law_522 : decode cL_law 522 = .ok (.iconst 2, 1) := by decide +kernel
theorem dL_law_523 : decode cL_law 523 = .ok (.iadd, 1) := by decide +kernel
theorem dL_law_524 : decode cL_law 524 = .ok (.iaload, 1) := by decide +kernel
theorem dL_law_525 : decode cL_law 525 = .ok (.aload_n 0, 1) := by decide +kernel
theorem dL_law_526 : decode cL_law 526 = .ok (.iload_n 3, 1) := by decide +kernel
theorem dL_law_527 : decode cL_law 527 = .ok (.iconst 3, 1) := by decide +kernel
theorem dL_law_528 : decode cL_law 528 = .ok (.iadd, 1) := by decide +kernel
theorem dL_law_529 : decode cL_law 529 = .ok (.iaload, 1) := by decide +kernel
theorem dL_law_530 : decode cL_law 530 = .ok (.invokevirtual 88, 3) := by decide +kernel
theorem dL_law_533 : decode cL_law 533 = .ok (.if_icmp .eq 211, 3) := by decide +kernel
theorem dL_law_536 : decode cL_law 536 = .ok (.iconst 0, 1) := by decide +kernel
theorem dL_law_537 : decode cL_law 537 = .ok (.ireturn, 1) := by decide +kernel
theorem dL_law_538 : decode cL_law 538 = .ok (.aload_n 1, 1) := by decide +kernel
theorem dL_law_539 : decode cL_law 539 = .ok (.aload_n 0, 1) := by decide +kernel
theorem dL_law_540 : decode cL_law 540 = .ok (.iload_n 3, 1) := by decide +kernel
theorem dL_law_541 : decode cL_law 541 = .ok (.iconst 1, 1) := by decide +kernel
theorem dL_law_542 : decode cL_law 542 = .ok (.iadd, 1) := by decide +kernel
theorem dL_law_543 : decode cL_law 543 = .ok (.iaload, 1) := by decide +kernel
theorem dL_law_544 : decode cL_law 544 = .ok (.invokevirtual 89, 3) := by decide +kernel
theorem dL_law_547 : decode cL_law 547 = .ok (.aload_n 2, 1) := by decide +kernel
theorem dL_law_548 : decode cL_law 548 = .ok (.aload_n 0, 1) := by decide +kernel
theorem dL_law_549 : decode cL_law 549 = .ok (.iload_n 3, 1) := by decide +kernel
theorem dL_law_550 : decode cL_law 550 = .ok (.iconst 1, 1) := by decide +kernel
theorem dL_law_551 : decode cL_law 551 = .ok (.iadd, 1) := by decide +kernel
theorem dL_law_552 : decode cL_law 552 = .ok (.iaload, 1) := by decide +kernel
theorem dL_law_553 : decode cL_law 553 = .ok (.invokevirtual 92, 3) := by decide +kernel
theorem dL_law_556 : decode cL_law 556 = .ok (.if_icmp .eq 188, 3) := by decide +kernel
theorem dL_law_559 : decode cL_law 559 = .ok (.iconst 0, 1) := by decide +kernel
theorem dL_law_560 : decode cL_law 560 = .ok (.ireturn, 1) := by decide +kernel
theorem dL_law_561 : decode cL_law 561 = .ok (.aload_n 1, 1) := by decide +kernel
theorem dL_law_562 : decode cL_law 562 = .ok (.aload_n 0, 1) := by decide +kernel
theorem dL_law_563 : decode cL_law 563 = .ok (.iload_n 3, 1) := by decide +kernel
theorem dL_law_564 : decode cL_law 564 = .ok (.iconst 1, 1) := by decide +kernel
theorem dL_law_565 : decode cL_law 565 = .ok (.iadd, 1) := by decide +kernel
theorem dL_law_566 : decode cL_law 566 = .ok (.iaload, 1) := by decide +kernel
theorem dL_law_567 : decode cL_law 567 = .ok (.invokevirtual 93, 3) := by decide +kernel
theorem dL_law_570 : decode cL_law 570 = .ok (.aload_n 2, 1) := by decide +kernel
theorem dL_law_571 : decode cL_law 571 = .ok (.aload_n 0, 1) := by decide +kernel
theorem dL_law_572 : decode cL_law 572 = .ok (.iload_n 3, 1) := by decide +kernel
theorem dL_law_573 : decode cL_law 573 = .ok (.iconst 1, 1) := by decide +kernel
theorem dL_law_574 : decode cL_law 574 = .ok (.iadd, 1) := by decide +kernel
theorem dL_law_575 : decode cL_law 575 = .ok (.iaload, 1) := by decide +kernel
theorem dL_law_576 : decode cL_law 576 = .ok (.invokevirtual 96, 3) := by decide +kernel
theorem dL_law_579 : decode cL_law 579 = .ok (.if_icmp .eq 165, 3) := by decide +kernel
theorem dL_law_582 : decode cL_law 582 = .ok (.iconst 0, 1) := by decide +kernel
theorem dL_law_583 : decode cL_law 583 = .ok (.ireturn, 1) := by decide +kernel
theorem dL_law_584 : decode cL_law 584 = .ok (.aload_n 1, 1) := by decide +kernel
theorem dL_law_585 : decode cL_law 585 = .ok (.aload_n 0, 1) := by decide +kernel
theorem dL_law_586 : decode cL_law 586 = .ok (.iload_n 3, 1) := by decide +kernel
theorem dL_law_587 : decode cL_law 587 = .ok (.iconst 1, 1) := by decide +kernel
theorem dL_law_588 : decode cL_law 588 = .ok (.iadd, 1) := by decide +kernel
theorem dL_law_589 : decode cL_law 589 = .ok (.iaload, 1) := by decide +kernel
theorem dL_law_590 : decode cL_law 590 = .ok (.invokevirtual 97, 3) := by decide +kernel
theorem dL_law_593 : decode cL_law 593 = .ok (.aload_n 2, 1) := by decide +kernel
theorem dL_law_594 : decode cL_law 594 = .ok (.aload_n 0, 1) := by decide +kernel
theorem dL_law_595 : decode cL_law 595 = .ok (.iload_n 3, 1) := by decide +kernel
theorem dL_law_596 : decode cL_law 596 = .ok (.iconst 1, 1) := by decide +kernel
theorem dL_law_597 : decode cL_law 597 = .ok (.iadd, 1) := by decide +kernel
theorem dL_law_598 : decode cL_law 598 = .ok (.iaload, 1) := by decide +kernel
theorem dL_law_599 : decode cL_law 599 = .ok (.invokevirtual 100, 3) := by decide +kernel
theorem dL_law_602 : decode cL_law 602 = .ok (.if_icmp .eq 142, 3) := by decide +kernel
theorem dL_law_605 : decode cL_law 605 = .ok (.iconst 0, 1) := by decide +kernel
theorem dL_law_606 : decode cL_law 606 = .ok (.ireturn, 1) := by decide +kernel
theorem dL_law_607 : decode cL_law 607 = .ok (.aload_n 1, 1) := by decide +kernel
theorem dL_law_608 : decode cL_law 608 = .ok (.aload_n 0, 1) := by decide +kernel
theorem dL_law_609 : decode cL_law 609 = .ok (.iload_n 3, 1) := by decide +kernel
theorem dL_law_610 : decode cL_law 610 = .ok (.iconst 1, 1) := by decide +kernel
theorem dL_law_611 : decode cL_law 611 = .ok (.iadd, 1) := by decide +kernel
theorem dL_law_612 : decode cL_law 612 = .ok (.iaload, 1) := by decide +kernel
theorem dL_law_613 : decode cL_law 613 = .ok (.invokevirtual 101, 3) := by decide +kernel
theorem dL_law_616 : decode cL_law 616 = .ok (.aload_n 2, 1) := by decide +kernel
theorem dL_law_617 : decode cL_law 617 = .ok (.aload_n 0, 1) := by decide +kernel
theorem dL_law_618 : decode cL_law 618 = .ok (.iload_n 3, 1) := by decide +kernel
theorem dL_law_619 : decode cL_law 619 = .ok (.iconst 1, 1) := by decide +kernel
theorem dL_law_620 : decode cL_law 620 = .ok (.iadd, 1) := by decide +kernel
theorem dL_law_621 : decode cL_law 621 = .ok (.iaload, 1) := by decide +kernel
theorem dL_law_622 : decode cL_law 622 = .ok (.invokevirtual 104, 3) := by decide +kernel
theorem dL_law_625 : decode cL_law 625 = .ok (.if_icmp .eq 119, 3) := by decide +kernel
theorem dL_law_628 : decode cL_law 628 = .ok (.iconst 0, 1) := by decide +kernel
theorem dL_law_629 : decode cL_law 629 = .ok (.ireturn, 1) := by decide +kernel
theorem dL_law_630 : decode cL_law 630 = .ok (.aload_n 1, 1) := by decide +kernel
theorem dL_law_631 : decode cL_law 631 = .ok (.invokevirtual 105, 3) := by decide +kernel
theorem dL_law_634 : decode cL_law 634 = .ok (.aload_n 2, 1) := by decide +kernel
theorem dL_law_635 : decode cL_law 635 = .ok (.invokevirtual 108, 3) := by decide +kernel
theorem dL_law_638 : decode cL_law 638 = .ok (.if_icmp .eq 106, 3) := by decide +kernel
theorem dL_law_641 : decode cL_law 641 = .ok (.iconst 0, 1) := by decide +kernel
theorem dL_law_642 : decode cL_law 642 = .ok (.ireturn, 1) := by decide +kernel
theorem dL_law_643 : decode cL_law 643 = .ok (.aload_n 1, 1) := by decide +kernel
theorem dL_law_644 : decode cL_law 644 = .ok (.aload_n 0, 1) := by decide +kernel
theorem dL_law_645 : decode cL_law 645 = .ok (.iload_n 3, 1) := by decide +kernel
theorem dL_law_646 : decode cL_law 646 = .ok (.iconst 1, 1) := by decide +kernel
theorem dL_law_647 : decode cL_law 647 = .ok (.iadd, 1) := by decide +kernel
theorem dL_law_648 : decode cL_law 648 = .ok (.iaload, 1) := by decide +kernel
theorem dL_law_649 : decode cL_law 649 = .ok (.invokevirtual 109, 3) := by decide +kernel
theorem dL_law_652 : decode cL_law 652 = .ok (.aload_n 2, 1) := by decide +kernel
theorem dL_law_653 : decode cL_law 653 = .ok (.aload_n 0, 1) := by decide +kernel
theorem dL_law_654 : decode cL_law 654 = .ok (.iload_n 3, 1) := by decide +kernel
theorem dL_law_655 : decode cL_law 655 = .ok (.iconst 1, 1) := by decide +kernel
theorem dL_law_656 : decode cL_law 656 = .ok (.iadd, 1) := by decide +kernel
theorem dL_law_657 : decode cL_law 657 = .ok (.iaload, 1) := by decide +kernel
theorem dL_law_658 : decode cL_law 658 = .ok (.invokevirtual 112, 3) := by decide +kernel
theorem dL_law_661 : decode cL_law 661 = .ok (.if_icmp .eq 83, 3) := by decide +kernel
theorem dL_law_664 : decode cL_law 664 = .ok (.iconst 0, 1) := by decide +kernel
theorem dL_law_665 : decode cL_law 665 = .ok (.ireturn, 1) := by decide +kernel
theorem dL_law_666 : decode cL_law 666 = .ok (.aload_n 1, 1) := by decide +kernel
theorem dL_law_667 : decode cL_law 667 = .ok (.invokevirtual 113, 3) := by decide +kernel
theorem dL_law_670 : decode cL_law 670 = .ok (.aload_n 2, 1) := by decide +kernel
theorem dL_law_671 : decode cL_law 671 = .ok (.invokevirtual 116, 3) := by decide +kernel
theorem dL_law_674 : decode cL_law 674 = .ok (.if_icmp .eq 70, 3) := by decide +kernel
theorem dL_law_677 : decode cL_law 677 = .ok (.iconst 0, 1) := by decide +kernel
theorem dL_law_678 : decode cL_law 678 = .ok (.ireturn, 1) := by decide +kernel
theorem dL_law_679 : decode cL_law 679 = .ok (.aload_n 1, 1) := by decide +kernel
theorem dL_law_680 : decode cL_law 680 = .ok (.invokevirtual 117, 3) := by decide +kernel
theorem dL_law_683 : decode cL_law 683 = .ok (.aload_n 2, 1) := by decide +kernel
theorem dL_law_684 : decode cL_law 684 = .ok (.invokevirtual 120, 3) := by decide +kernel
theorem dL_law_687 : decode cL_law 687 = .ok (.if_icmp .eq 57, 3) := by decide +kernel
theorem dL_law_690 : decode cL_law 690 = .ok (.iconst 0, 1) := by decide +kernel
theorem dL_law_691 : decode cL_law 691 = .ok (.ireturn, 1) := by decide +kernel
theorem dL_law_692 : decode cL_law 692 = .ok (.aload_n 1, 1) := by decide +kernel
theorem dL_law_693 : decode cL_law 693 = .ok (.invokevirtual 121, 3) := by decide +kernel
theorem dL_law_696 : decode cL_law 696 = .ok (.aload_n 2, 1) := by decide +kernel
theorem dL_law_697 : decode cL_law 697 = .ok (.invokevirtual 124, 3) := by decide +kernel
theorem dL_law_700 : decode cL_law 700 = .ok (.if_icmp .eq 44, 3) := by decide +kernel
theorem dL_law_703 : decode cL_law 703 = .ok (.iconst 0, 1) := by decide +kernel
theorem dL_law_704 : decode cL_law 704 = .ok (.ireturn, 1) := by decide +kernel
theorem dL_law_705 : decode cL_law 705 = .ok (.aload_n 1, 1) := by decide +kernel
theorem dL_law_706 : decode cL_law 706 = .ok (.invokevirtual 125, 3) := by decide +kernel
theorem dL_law_709 : decode cL_law 709 = .ok (.aload_n 2, 1) := by decide +kernel
theorem dL_law_710 : decode cL_law 710 = .ok (.invokevirtual 128, 3) := by decide +kernel
theorem dL_law_713 : decode cL_law 713 = .ok (.if_icmp .eq 31, 3) := by decide +kernel
theorem dL_law_716 : decode cL_law 716 = .ok (.iconst 0, 1) := by decide +kernel
theorem dL_law_717 : decode cL_law 717 = .ok (.ireturn, 1) := by decide +kernel
theorem dL_law_718 : decode cL_law 718 = .ok (.aload_n 1, 1) := by decide +kernel
theorem dL_law_719 : decode cL_law 719 = .ok (.invokevirtual 129, 3) := by decide +kernel
theorem dL_law_722 : decode cL_law 722 = .ok (.aload_n 2, 1) := by decide +kernel
theorem dL_law_723 : decode cL_law 723 = .ok (.invokevirtual 132, 3) := by decide +kernel
theorem dL_law_726 : decode cL_law 726 = .ok (.if_icmp .eq 18, 3) := by decide +kernel
theorem dL_law_729 : decode cL_law 729 = .ok (.iconst 0, 1) := by decide +kernel
theorem dL_law_730 : decode cL_law 730 = .ok (.ireturn, 1) := by decide +kernel
theorem dL_law_731 : decode cL_law 731 = .ok (.aload_n 1, 1) := by decide +kernel
theorem dL_law_732 : decode cL_law 732 = .ok (.invokevirtual 133, 3) := by decide +kernel
theorem dL_law_735 : decode cL_law 735 = .ok (.aload_n 2, 1) := by decide +kernel
theorem dL_law_736 : decode cL_law 736 = .ok (.invokevirtual 136, 3) := by decide +kernel
theorem dL_law_739 : decode cL_law 739 = .ok (.if_icmp .eq 5, 3) := by decide +kernel
theorem dL_law_742 : decode cL_law 742 = .ok (.iconst 0, 1) := by decide +kernel
theorem dL_law_743 : decode cL_law 743 = .ok (.ireturn, 1) := by decide +kernel
theorem dL_law_744 : decode cL_law 744 = .ok (.iinc 3 4, 3) := by decide +kernel
theorem dL_law_747 : decode cL_law 747 = .ok (.goto (-729), 3) := by decide +kernel
theorem dL_law_750 : decode cL_law 750 = .ok (.iconst 1, 1) := by decide +kernel
theorem dL_law_751 : decode cL_law 751 = .ok (.ireturn, 1) := by decide +kernel
abbrev vwCl : List vw_C := [(RX0, TX0, 2), (RX1, TX1, 3), (RX2, TX2, 6), (RX3, TX3, 4), (RX4, TX4, 4), (RX5, TX5, 16), (RX6, TX6, 7), (RX7, TX7, 12)]
