theorem dX3_enterTurn_111 : decode cX3_enterTurn 111 = .ok (.iload 4, 2) := by decide +kernel
theorem dX3_enterTurn_113 : decode cX3_enterTurn 113 = .ok (.iaload, 1) := by decide +kernel
theorem dX3_enterTurn_114 : decode cX3_enterTurn 114 = .ok (.iastore, 1) := by decide +kernel
theorem dX3_enterTurn_115 : decode cX3_enterTurn 115 = .ok (.iinc 4 1, 3) := by decide +kernel
theorem dX3_enterTurn_118 : decode cX3_enterTurn 118 = .ok (.goto (-30), 3) := by decide +kernel
theorem dX3_enterTurn_121 : decode cX3_enterTurn 121 = .ok (.aload_n 0, 1) := by decide +kernel
theorem dX3_enterTurn_122 : decode cX3_enterTurn 122 = .ok (.dup, 1) := by decide +kernel
theorem dX3_enterTurn_123 : decode cX3_enterTurn 123 = .ok (.getfield 131, 3) := by decide +kernel
theorem dX3_enterTurn_126 : decode cX3_enterTurn 126 = .ok (.iconst 1, 1) := by decide +kernel
theorem dX3_enterTurn_127 : decode cX3_enterTurn 127 = .ok (.iadd, 1) := by decide +kernel
theorem dX3_enterTurn_128 : decode cX3_enterTurn 128 = .ok (.putfield 131, 3) := by decide +kernel
theorem dX3_enterTurn_131 : decode cX3_enterTurn 131 = .ok (.return_, 1) := by decide +kernel
set_option maxRecDepth 20000 in
theorem ggX3_step_X3_tryTurn : GoodIn wsX3_step wsX3_tryTurn := goodIn_r _ [9, 3, 1, 10, 11, 12, 13, 14, 15, 16, 17, 18, 19, 20, 21, 22, 23, 24, 25, 26, 27, 28, 29, 30, 31, 32, 33, 34, 35, 36, 37, 38, 39, 40, 41, 42, 43, 44, 45, 46, 47, 48, 49, 50, 51, 52, 53, 54, 55, 56, 57, 58, 59, 60, 61, 62, 63, 64, 65, 66, 67, 68, 69, 70, 71, 72, 73, 74, 75, 76, 77, 78, 79, 80, 81, 82, 83, 84, 85, 86, 87, 88, 89, 90, 91] (by decide +kernel) (by decide +kernel)
set_option maxRecDepth 20000 in
theorem gX3_step_X3_tryTurn : GoodIn wsX3_step (wsV RX3 171 RX3 yX3_tryTurn wsX3_tryTurn) := goodIn_app (goodIn_of _ (by decide +kernel)) ggX3_step_X3_tryTurn
theorem dX3_step_0 : decode cX3_step 0 = .ok (.iload_n 1, 1) := by decide +kernel
theorem dX3_step_1 : decode cX3_step 1 = .ok (.iconst (-1), 1) := by decide +kernel
theorem dX3_step_2 : decode cX3_step 2 = .ok (.if_icmp .lt 9, 3) := by decide +kernel
theorem dX3_step_5 : decode cX3_step 5 = .ok (.iload_n 1, 1) := by decide +kernel
theorem dX3_step_6 : decode cX3_step 6 = .ok (.bipush 60, 2) := by decide +kernel
theorem dX3_step_8 : decode cX3_step 8 = .ok (.if_icmp .lt 6, 3) := by decide +kernel
theorem dX3_step_11 : decode cX3_step 11 = .ok (.bipush (-2), 2) := by decide +kernel
theorem dX3_step_13 : decode cX3_step 13 = .ok (.ireturn, 1) := by decide +kernel
theorem dX3_step_14 : decode cX3_step 14 = .ok (.iload_n 1, 1) := by decide +kernel
theorem dX3_step_15 : decode cX3_step 15 = .ok (.iconst (-1), 1) := by decide +kernel
theorem dX3_step_16 : decode cX3_step 16 = .ok (.if_icmp .ne 11, 3) := by decide +kernel
theorem dX3_step_19 : decode cX3_step 19 = .ok (.aload_n 0, 1) := by decide +kernel
theorem dX3_step_20 : decode cX3_step 20 = .ok (.getfield 10, 3) := by decide +kernel
theorem dX3_step_23 : decode cX3_step 23 = .ok (.getfield 41, 3) := by decide +kernel
theorem dX3_step_26 : decode cX3_step 26 = .ok (.ireturn, 1) := by decide +kernel
theorem dX3_step_27 : decode cX3_step 27 = .ok (.iload_n 1, 1) := by decide +kernel
theorem dX3_step_28 : decode cX3_step 28 = .ok (.aload_n 0, 1) := by decide +kernel
theorem dX3_step_29 : decode cX3_step 29 = .ok (.getfield 10, 3) := by decide +kernel
theorem dX3_step_32 : decode cX3_step 32 = .ok (.getfield 41, 3) := by decide +kernel
theorem dX3_step_35 : decode cX3_step 35 = .ok (.if_icmp .lt 5, 3) := by decide +kernel
theorem dX3_step_38 : decode cX3_step 38 = .ok (.iconst (-1), 1) := by decide +kernel
theorem dX3_step_39 : decode cX3_step 39 = .ok (.ireturn, 1) := by decide +kernel
theorem dX3_step_40 : decode cX3_step 40 = .ok (.aload_n 0, 1) := by decide +kernel
theorem dX3_step_41 : decode cX3_step 41 = .ok (.invokevirtual 171, 3) := by decide +kernel
theorem dX3_step_44 : decode cX3_step 44 = .ok (.aload_n 0, 1) := by decide +kernel
theorem dX3_step_45 : decode cX3_step 45 = .ok (.getfield 16, 3) := by decide +kernel
theorem dX3_step_48 : decode cX3_step 48 = .ok (.getfield 174, 3) := by decide +kernel
theorem dX3_step_51 : decode cX3_step 51 = .ok (.iload_n 1, 1) := by decide +kernel
theorem dX3_step_52 : decode cX3_step 52 = .ok (.iaload, 1) := by decide +kernel
theorem dX3_step_53 : decode cX3_step 53 = .ok (.ireturn, 1) := by decide +kernel
set_option maxRecDepth 20000 in
theorem ggX3_ahead_X2_becomeLike : GoodIn wsX3_ahead wsX2_becomeLike := goodIn_r _ [8, 9, 10, 11, 12, 13, 14, 15, 16, 17, 18, 19, 20, 21, 22, 76, 77, 78, 79, 80, 81, 82, 83, 84, 85, 86, 87, 88, 89] (by decide +kernel) (by decide +kernel)
set_option maxRecDepth 20000 in
theorem gX3_ahead_X2_becomeLike : GoodIn wsX3_ahead (wsV RX3 177 RX2 yX2_becomeLike wsX2_becomeLike) := goodIn_app (goodIn_of _ (by decide +kernel)) ggX3_ahead_X2_becomeLike
set_option maxRecDepth 20000 in
theorem ggX3_ahead_X2_drawnBy : GoodIn wsX3_ahead wsX2_drawnBy := goodIn_r _ [26, 10, 27, 28, 29, 30, 7, 31, 32, 9, 33, 22, 34, 35, 36, 37, 38, 39, 40, 41, 11, 42, 43, 44, 45, 12, 46, 47, 48, 49, 13, 20, 50, 51, 52, 53, 18, 54, 55, 56, 57, 58, 21, 59, 60, 61, 62, 76, 77, 78, 79, 80, 81, 82, 83, 84, 85, 86, 87, 88, 89] (by decide +kernel) (by decide +kernel)
set_option maxRecDepth 20000 in
theorem gX3_ahead_X2_drawnBy : GoodIn wsX3_ahead (wsV RX3 182 RX2 yX2_drawnBy wsX2_drawnBy) := goodIn_app (goodIn_of _ (by decide +kernel)) ggX3_ahead_X2_drawnBy
theorem dX3_ahead_0 : decode cX3_ahead 0 = .ok (.iload_n 1, 1) := by decide +kernel
theorem dX3_ahead_1 : decode cX3_ahead 1 = .ok (.ifCond .lt 9, 3) := by decide +kernel
theorem dX3_ahead_4 : decode cX3_ahead 4 = .ok (.iload_n 1, 1) := by decide +kernel
theorem dX3_ahead_5 : decode cX3_ahead 5 = .ok (.bipush 40, 2) := by decide +kernel
theorem dX3_ahead_7 : decode cX3_ahead 7 = .ok (.if_icmp .le 6, 3) := by decide +kernel
theorem dX3_ahead_10 : decode cX3_ahead 10 = .ok (.bipush (-2), 2) := by decide +kernel
theorem dX3_ahead_12 : decode cX3_ahead 12 = .ok (.ireturn, 1) := by decide +kernel
theorem dX3_ahead_13 : decode cX3_ahead 13 = .ok (.aload_n 0, 1) := by decide +kernel
theorem dX3_ahead_14 : decode cX3_ahead 14 = .ok (.getfield 16, 3) := by decide +kernel
theorem dX3_ahead_17 : decode cX3_ahead 17 = .ok (.aload_n 0, 1) := by decide +kernel
theorem dX3_ahead_18 : decode cX3_ahead 18 = .ok (.getfield 10, 3) := by decide +kernel
theorem dX3_ahead_21 : decode cX3_ahead 21 = .ok (.invokevirtual 177, 3) := by decide +kernel
theorem dX3_ahead_24 : decode cX3_ahead 24 = .ok (.aload_n 0, 1) := by decide +kernel
theorem dX3_ahead_25 : decode cX3_ahead 25 = .ok (.getfield 16, 3) := by decide +kernel
theorem dX3_ahead_28 : decode cX3_ahead 28 = .ok (.iload_n 1, 1) := by decide +kernel
theorem dX3_ahead_29 : decode cX3_ahead 29 = .ok (.ldc 181, 2) := by decide +kernel
theorem dX3_ahead_31 : decode cX3_ahead 31 = .ok (.invokevirtual 182, 3) := by decide +kernel
theorem dX3_ahead_34 : decode cX3_ahead 34 = .ok (.ireturn, 1) := by decide +kernel
set_option maxRecDepth 20000 in
theorem ggX3_better_X3_isBasin : GoodIn wsX3_better wsX3_isBasin := goodIn_r _ [5, 6, 7, 80, 81, 82, 83, 84, 85, 86, 87, 88, 89, 90, 91, 92, 93, 94, 95, 96, 97, 98, 99, 100, 101, 102, 103, 104, 105, 106] (by decide +kernel) (by decide +kernel)
set_option maxRecDepth 20000 in
theorem gX3_better_X3_isBasin : GoodIn wsX3_better (wsV RX3 61 RX3 yX3_isBasin wsX3_isBasin) := goodIn_app (goodIn_of _ (by decide +kernel)) ggX3_better_X3_isBasin
set_option maxRecDepth 20000 in
theorem ggX3_better_X3_bestBottom : GoodIn wsX3_better wsX3_bestBottom := goodIn_r _ [11, 12, 13, 6, 14, 15, 16, 17, 18, 19, 20, 21, 22, 23, 24, 25, 26, 27, 28, 29, 30, 31, 32, 33, 34, 35, 36, 37, 38, 39, 40, 41, 42, 43, 44, 45, 46, 47, 48, 49, 50, 51, 52, 53, 54, 55, 56, 57, 58, 59, 60, 61, 62, 63, 64, 65, 66, 67, 68, 69, 70, 71, 72, 73, 74, 75, 4, 76, 80, 81, 82, 83, 84, 85, 86, 87, 88, 89, 90, 91, 92, 93, 94, 95, 96, 97, 98, 99, 100, 101, 102, 103, 104, 105, 106] (by decide +kernel) (by decide +kernel)
set_option maxRecDepth 20000 in
theorem gX3_better_X3_bestBottom : GoodIn wsX3_better (wsV RX3 185 RX3 yX3_bestBottom wsX3_bestBottom) := goodIn_app (goodIn_of _ (by decide +kernel)) ggX3_better_X3_bestBottom
set_option maxRecDepth 20000 in
theorem ggX3_better_X3_partOfChoice : GoodIn wsX3_better wsX3_partOfChoice := goodIn_r _ [79] (by decide +kernel) (by decide +kernel)
set_option maxRecDepth 20000 in
theorem gX3_better_X3_partOfChoice : GoodIn wsX3_better (va_wsS RX3 188 yX3_partOfChoice wsX3_partOfChoice) := goodIn_app (goodIn_of _ (by decide +kernel)) ggX3_better_X3_partOfChoice
theorem dX3_better_0 : decode cX3_better 0 = .ok (.aload_n 0, 1) := by decide +kernel
theorem dX3_better_1 : decode cX3_better 1 = .ok (.iload_n 1, 1) := by decide +kernel
theorem dX3_better_2 : decode cX3_better 2 = .ok (.invokevirtual 61, 3) := by decide +kernel
theorem dX3_better_5 : decode cX3_better 5 = .ok (.ifCond .eq 12, 3) := by decide +kernel
theorem dX3_better_8 : decode cX3_better 8 = .ok (.iload_n 2, 1) := by decide +kernel
theorem dX3_better_9 : decode cX3_better 9 = .ok (.ifCond .lt 8, 3) := by decide +kernel
theorem dX3_better_12 : decode cX3_better 12 = .ok (.iload_n 2, 1) := by decide +kernel
theorem dX3_better_13 : decode cX3_better 13 = .ok (.iconst 1, 1) := by decide +kernel
theorem dX3_better_14 : decode cX3_better 14 = .ok (.if_icmp .le 6, 3) := by decide +kernel
theorem dX3_better_17 : decode cX3_better 17 = .ok (.bipush (-2), 2) := by decide +kernel
theorem dX3_better_19 : decode cX3_better 19 = .ok (.ireturn, 1) := by decide +kernel
theorem dX3_better_20 : decode cX3_better 20 = .ok (.aload_n 0, 1) := by decide +kernel
theorem dX3_better_21 : decode cX3_better 21 = .ok (.iload_n 1, 1) := by decide +kernel
theorem dX3_better_22 : decode cX3_better 22 = .ok (.invokevirtual 185, 3) := by decide +kernel
theorem dX3_better_25 : decode cX3_better 25 = .ok (.iload_n 2, 1) := by decide +kernel
theorem dX3_better_26 : decode cX3_better 26 = .ok (.invokestatic 188, 3) := by decide +kernel
theorem dX3_better_29 : decode cX3_better 29 = .ok (.ireturn, 1) := by decide +kernel
set_option maxRecDepth 20000 in
theorem ggX3_needless_X3_leastNeeded : GoodIn wsX3_needless wsX3_leastNeeded := goodIn_r _ [5, 6, 7, 8, 9, 10, 11, 12, 13, 14, 15, 16, 17, 18, 19, 20, 21, 22, 23, 24, 25, 26, 27, 28, 29, 30, 31, 32, 33, 34, 35, 36, 37, 38, 39, 40, 41, 42, 43, 44, 45, 46, 47, 48, 49, 50, 51, 52, 53, 54, 55, 56, 57, 58, 59, 60, 61, 62, 63, 64, 65, 66, 67, 68, 69, 70, 71, 72, 4, 73, 77, 78, 79, 80, 81, 82, 83, 84, 85, 86, 87, 88, 89, 90, 91, 92, 93, 94, 95, 96, 97, 98, 99, 100, 101, 102, 103] (by decide +kernel) (by decide +kernel)
set_option maxRecDepth 20000 in
theorem gX3_needless_X3_leastNeeded : GoodIn wsX3_needless (wsV RX3 191 RX3 yX3_leastNeeded wsX3_leastNeeded) := goodIn_app (goodIn_of _ (by decide +kernel)) ggX3_needless_X3_leastNeeded
set_option maxRecDepth 20000 in
theorem ggX3_needless_X3_partOfChoice : GoodIn wsX3_needless wsX3_partOfChoice := goodIn_r _ [76] (by decide +kernel) (by decide +kernel)
set_option maxRecDepth 20000 in
theorem gX3_needless_X3_partOfChoice : GoodIn wsX3_needless (va_wsS RX3 188 yX3_partOfChoice wsX3_partOfChoice) := goodIn_app (goodIn_of _ (by decide +kernel)) ggX3_needless_X3_partOfChoice
theorem dX3_needless_0 : decode cX3_needless 0 = .ok (.iload_n 1, 1) := by decide +kernel
theorem dX3_needless_1 : decode cX3_needless 1 = .ok (.ifCond .lt 8, 3) := by decide +kernel
theorem dX3_needless_4 : decode cX3_needless 4 = .ok (.iload_n 1, 1) := by decide +kernel
theorem dX3_needless_5 : decode cX3_needless 5 = .ok (.iconst 1, 1) := by decide +kernel
theorem dX3_needless_6 : decode cX3_needless 6 = .ok (.if_icmp .le 6, 3) := by decide +kernel
theorem dX3_needless_9 : decode cX3_needless 9 = .ok (.bipush (-2), 2) := by decide +kernel
theorem dX3_needless_11 : decode cX3_needless 11 = .ok (.ireturn, 1) := by decide +kernel
theorem dX3_needless_12 : decode cX3_needless 12 = .ok (.aload_n 0, 1) := by decide +kernel
theorem dX3_needless_13 : decode cX3_needless 13 = .ok (.invokevirtual 191, 3) := by decide +kernel
theorem dX3_needless_16 : decode cX3_needless 16 = .ok (.iload_n 1, 1) := by decide +kernel
theorem dX3_needless_17 : decode cX3_needless 17 = .ok (.invokestatic 188, 3) := by decide +kernel
theorem dX3_needless_20 : decode cX3_needless 20 = .ok (.ireturn, 1) := by decide +kernel
set_option maxRecDepth 20000 in
theorem ggX3_tryTurn_X2_becomeLike : GoodIn wsX3_tryTurn wsX2_becomeLike := goodIn_r _ [7, 8, 9, 10, 11, 12, 13, 14, 15, 16, 17, 18, 19, 20, 21, 71, 72, 73, 74, 75, 76, 77, 78, 79, 80, 81, 82, 83, 84] (by decide +kernel) (by decide +kernel)
set_option maxRecDepth 20000 in
theorem gX3_tryTurn_X2_becomeLike : GoodIn wsX3_tryTurn (wsV RX3 177 RX2 yX2_becomeLike wsX2_becomeLike) := goodIn_app (goodIn_of _ (by decide +kernel)) ggX3_tryTurn_X2_becomeLike
set_option maxRecDepth 20000 in
theorem ggX3_tryTurn_X2_makeTurn : GoodIn wsX3_tryTurn wsX2_makeTurn := goodIn_r _ [25, 9, 26, 27, 8, 28, 21, 29, 30, 31, 32, 33, 34, 35, 6, 36, 10, 37, 38, 39, 40, 11, 41, 42, 43, 44, 12, 19, 45, 46, 47, 48, 17, 49, 50, 51, 52, 53, 20, 54, 55, 56, 57, 71, 72, 73, 74, 75, 76, 77, 78, 79, 80, 81, 82, 83, 84] (by decide +kernel) (by decide +kernel)
set_option maxRecDepth 20000 in
theorem gX3_tryTurn_X2_makeTurn : GoodIn wsX3_tryTurn (wsV RX3 158 RX2 yX2_makeTurn wsX2_makeTurn) := goodIn_app (goodIn_of _ (by decide +kernel)) ggX3_tryTurn_X2_makeTurn
theorem dX3_tryTurn_0 : decode cX3_tryTurn 0 = .ok (.aload_n 0, 1) := by decide +kernel
theorem dX3_tryTurn_1 : decode cX3_tryTurn 1 = .ok (.getfield 16, 3) := by decide +kernel
theorem dX3_tryTurn_4 : decode cX3_tryTurn 4 = .ok (.aload_n 0, 1) := by decide +kernel
theorem dX3_tryTurn_5 : decode cX3_tryTurn 5 = .ok (.getfield 10, 3) := by decide +kernel
theorem dX3_tryTurn_8 : decode cX3_tryTurn 8 = .ok (.invokevirtual 177, 3) := by decide +kernel
theorem dX3_tryTurn_11 : decode cX3_tryTurn 11 = .ok (.aload_n 0, 1) := by decide +kernel
theorem dX3_tryTurn_12 : decode cX3_tryTurn 12 = .ok (.getfield 16, 3) := by decide +kernel
theorem dX3_tryTurn_15 : decode cX3_tryTurn 15 = .ok (.invokevirtual 158, 3) := by decide +kernel
theorem dX3_tryTurn_18 : decode cX3_tryTurn 18 = .ok (.return_, 1) := by decide +kernel
theorem dX3_choiceOf_0 : decode cX3_choiceOf 0 = .ok (.iload_n 1, 1) := by decide +kernel
theorem dX3_choiceOf_1 : decode cX3_choiceOf 1 = .ok (.bipush 6, 2) := by decide +kernel
theorem dX3_choiceOf_3 : decode cX3_choiceOf 3 = .ok (.ishl, 1) := by decide +kernel
theorem dX3_choiceOf_4 : decode cX3_choiceOf 4 = .ok (.iload_n 0, 1) := by decide +kernel
theorem dX3_choiceOf_5 : decode cX3_choiceOf 5 = .ok (.ior, 1) := by decide +kernel
theorem dX3_choiceOf_6 : decode cX3_choiceOf 6 = .ok (.ireturn, 1) := by decide +kernel
theorem dX3_partOfChoice_0 : decode cX3_partOfChoice 0 = .ok (.iload_n 0, 1) := by decide +kernel
theorem dX3_partOfChoice_1 : decode cX3_partOfChoice 1 = .ok (.iconst (-1), 1) := by decide +kernel
theorem dX3_partOfChoice_2 : decode cX3_partOfChoice 2 = .ok (.if_icmp .ne 5, 3) := by decide +kernel
theorem dX3_partOfChoice_5 : decode cX3_partOfChoice 5 = .ok (.iconst (-1), 1) := by decide +kernel
theorem dX3_partOfChoice_6 : decode cX3_partOfChoice 6 = .ok (.ireturn, 1) := by decide +kernel
theorem dX3_partOfChoice_7 : decode cX3_partOfChoice 7 = .ok (.iload_n 1, 1) := by decide +kernel
theorem dX3_partOfChoice_8 : decode cX3_partOfChoice 8 = .ok (.ifCond .ne 10, 3) := by decide +kernel
theorem dX3_partOfChoice_11 : decode cX3_partOfChoice 11 = .ok (.iload_n 0, 1) := by decide +kernel
theorem dX3_partOfChoice_12 : decode cX3_partOfChoice 12 = .ok (.bipush 63, 2) := by decide +kernel
theorem dX3_partOfChoice_14 : decode cX3_partOfChoice 14 = .ok (.iand, 1) := by decide +kernel
theorem dX3_partOfChoice_15 : decode cX3_partOfChoice 15 = .ok (.goto 7, 3) := by decide +kernel
theorem dX3_partOfChoice_18 : decode cX3_partOfChoice 18 = .ok (.iload_n 0, 1) := by decide +kernel
theorem dX3_partOfChoice_19 : decode cX3_partOfChoice 19 = .ok (.bipush 6, 2) := by decide +kernel
theorem dX3_partOfChoice_21 : decode cX3_partOfChoice 21 = .ok (.ishr, 1) := by decide +kernel
theorem dX3_partOfChoice_22 : decode cX3_partOfChoice 22 = .ok (.ireturn, 1) := by decide +kernel
set_option maxRecDepth 20000 in
theorem ggX3_bestBottom_X2_becomeLike : GoodIn wsX3_bestBottom wsX2_becomeLike := goodIn_r _ [9, 10, 11, 12, 13, 14, 15, 16, 17, 18, 19, 20, 21, 22, 23, 81, 82, 83, 84, 85, 86, 87, 88, 89, 90, 91, 92, 93, 94] (by decide +kernel) (by decide +kernel)
set_option maxRecDepth 20000 in
theorem gX3_bestBottom_X2_becomeLike : GoodIn wsX3_bestBottom (wsV RX3 177 RX2 yX2_becomeLike wsX2_becomeLike) := goodIn_app (goodIn_of _ (by decide +kernel)) ggX3_bestBottom_X2_becomeLike
set_option maxRecDepth 20000 in
theorem ggX3_bestBottom_X2_drawnBy : GoodIn wsX3_bestBottom wsX2_drawnBy := goodIn_r _ [27, 11, 28, 29, 30, 31, 8, 32, 33, 10, 34, 23, 35, 36, 37, 38, 39, 40, 41, 42, 12, 43, 44, 45, 46, 13, 47, 48, 49, 50, 14, 21, 51, 52, 53, 54, 19, 55, 56, 57, 58, 59, 22, 60, 61, 62, 63, 81, 82, 83, 84, 85, 86, 87, 88, 89, 90, 91, 92, 93, 94] (by decide +kernel) (by decide +kernel)
set_option maxRecDepth 20000 in
theorem gX3_bestBottom_X2_drawnBy : GoodIn wsX3_bestBottom (wsV RX3 182 RX2 yX2_drawnBy wsX2_drawnBy) := goodIn_app (goodIn_of _ (by decide +kernel)) ggX3_bestBottom_X2_drawnBy
set_option maxRecDepth 20000 in
theorem ggX3_bestBottom_X3_choiceOf : GoodIn wsX3_bestBottom wsX3_choiceOf := goodIn_r _ [67] (by decide +kernel) (by decide +kernel)
set_option maxRecDepth 20000 in
theorem gX3_bestBottom_X3_choiceOf : GoodIn wsX3_bestBottom (va_wsS RX3 194 yX3_choiceOf wsX3_choiceOf) := goodIn_app (goodIn_of _ (by decide +kernel)) ggX3_bestBottom_X3_choiceOf
theorem dX3_bestBottom_0 : decode cX3_bestBottom 0 = .ok (.iconst (-1), 1) := by decide +kernel
theorem dX3_bestBottom_1 : decode cX3_bestBottom 1 = .ok (.istore_n 2, 1) := by decide +kernel
theorem dX3_bestBottom_2 : decode cX3_bestBottom 2 = .ok (.ldc 181, 2) := by decide +kernel
theorem dX3_bestBottom_4 : decode cX3_bestBottom 4 = .ok (.istore_n 3, 1) := by decide +kernel
theorem dX3_bestBottom_5 : decode cX3_bestBottom 5 = .ok (.iconst 0, 1) := by decide +kernel
theorem dX3_bestBottom_6 : decode cX3_bestBottom 6 = .ok (.istore 4, 2) := by decide +kernel
theorem dX3_bestBottom_8 : decode cX3_bestBottom 8 = .ok (.iload 4, 2) := by decide +kernel
theorem dX3_bestBottom_10 : decode cX3_bestBottom 10 = .ok (.bipush 60, 2) := by decide +kernel
theorem dX3_bestBottom_12 : decode cX3_bestBottom 12 = .ok (.if_icmp .ge 60, 3) := by decide +kernel
theorem dX3_bestBottom_15 : decode cX3_bestBottom 15 = .ok (.aload_n 0, 1) := by decide +kernel
theorem dX3_bestBottom_16 : decode cX3_bestBottom 16 = .ok (.getfield 16, 3) := by decide +kernel
theorem dX3_bestBottom_19 : decode cX3_bestBottom 19 = .ok (.aload_n 0, 1) := by decide +kernel
theorem dX3_bestBottom_20 : decode cX3_bestBottom 20 = .ok (.getfield 10, 3) := by decide +kernel
theorem dX3_bestBottom_23 : decode cX3_bestBottom 23 = .ok (.invokevirtual 177, 3) := by decide +kernel
theorem dX3_bestBottom_26 : decode cX3_bestBottom 26 = .ok (.aload_n 0, 1) := by decide +kernel
theorem dX3_bestBottom_27 : decode cX3_bestBottom 27 = .ok (.getfield 16, 3) := by decide +kernel
theorem dX3_bestBottom_30 : decode cX3_bestBottom 30 = .ok (.getfield 85, 3) := by decide +kernel
theorem dX3_bestBottom_33 : decode cX3_bestBottom 33 = .ok (.iload_n 1, 1) := by decide +kernel
theorem dX3_bestBottom_34 : decode cX3_bestBottom 34 = .ok (.iload 4, 2) := by decide +kernel
theorem dX3_bestBottom_36 : decode cX3_bestBottom 36 = .ok (.iastore, 1) := by decide +kernel
theorem dX3_bestBottom_37 : decode cX3_bestBottom 37 = .ok (.aload_n 0, 1) := by decide +kernel
theorem dX3_bestBottom_38 : decode cX3_bestBottom 38 = .ok (.getfield 16, 3) := by decide +kernel
theorem dX3_bestBottom_41 : decode cX3_bestBottom 41 = .ok (.bipush 10, 2) := by decide +kernel
theorem dX3_bestBottom_43 : decode cX3_bestBottom 43 = .ok (.iload_n 3, 1) := by decide +kernel
theorem dX3_bestBottom_44 : decode cX3_bestBottom 44 = .ok (.invokevirtual 182, 3) := by decide +kernel
theorem dX3_bestBottom_47 : decode cX3_bestBottom 47 = .ok (.istore 5, 2) := by decide +kernel
theorem dX3_bestBottom_49 : decode cX3_bestBottom 49 = .ok (.iload 5, 2) := by decide +kernel
theorem dX3_bestBottom_51 : decode cX3_bestBottom 51 = .ok (.iload_n 3, 1) := by decide +kernel
theorem dX3_bestBottom_52 : decode cX3_bestBottom 52 = .ok (.if_icmp .ge 14, 3) := by decide +kernel
theorem dX3_bestBottom_55 : decode cX3_bestBottom 55 = .ok (.iload 5, 2) := by decide +kernel
theorem dX3_bestBottom_57 : decode cX3_bestBottom 57 = .ok (.istore_n 3, 1) := by decide +kernel
theorem dX3_bestBottom_58 : decode cX3_bestBottom 58 = .ok (.iload 4, 2) := by decide +kernel
theorem dX3_bestBottom_60 : decode cX3_bestBottom 60 = .ok (.iload 5, 2) := by decide +kernel
theorem dX3_bestBottom_62 : decode cX3_bestBottom 62 = .ok (.invokestatic 194, 3) := by decide +kernel
theorem dX3_bestBottom_65 : decode cX3_bestBottom 65 = .ok (.istore_n 2, 1) := by decide +kernel
theorem dX3_bestBottom_66 : decode cX3_bestBottom 66 = .ok (.iinc 4 1, 3) := by decide +kernel
theorem dX3_bestBottom_69 : decode cX3_bestBottom 69 = .ok (.goto (-61), 3) := by decide +kernel
theorem dX3_bestBottom_72 : decode cX3_bestBottom 72 = .ok (.iload_n 2, 1) := by decide +kernel
theorem dX3_bestBottom_73 : decode cX3_bestBottom 73 = .ok (.ireturn, 1) := by decide +kernel
set_option maxRecDepth 20000 in
theorem ggX3_leastNeeded_X2_isOut : GoodIn wsX3_leastNeeded wsX2_isOut := goodIn_r _ [10, 11, 83, 84, 85, 86, 87, 88, 89, 90, 91, 92, 93, 94, 95, 96] (by decide +kernel) (by decide +kernel)
set_option maxRecDepth 20000 in
theorem gX3_leastNeeded_X2_isOut : GoodIn wsX3_leastNeeded (wsV RX3 98 RX2 yX2_isOut wsX2_isOut) := goodIn_app (goodIn_of _ (by decide +kernel)) ggX3_leastNeeded_X2_isOut
set_option maxRecDepth 20000 in
theorem ggX3_leastNeeded_X2_becomeLike : GoodIn wsX3_leastNeeded wsX2_becomeLike := goodIn_r _ [15, 16, 17, 18, 11, 19, 20, 21, 22, 23, 24, 25, 26, 27, 28, 83, 84, 85, 86, 87, 88, 89, 90, 91, 92, 93, 94, 95, 96] (by decide +kernel) (by decide +kernel)
set_option maxRecDepth 20000 in
theorem gX3_leastNeeded_X2_becomeLike : GoodIn wsX3_leastNeeded (wsV RX3 177 RX2 yX2_becomeLike wsX2_becomeLike) := goodIn_app (goodIn_of _ (by decide +kernel)) ggX3_leastNeeded_X2_becomeLike
set_option maxRecDepth 20000 in
theorem ggX3_leastNeeded_X2_drawnBy : GoodIn wsX3_leastNeeded wsX2_drawnBy := goodIn_r _ [32, 17, 33, 34, 35, 36, 9, 37, 38, 16, 39, 28, 40, 41, 42, 43, 44, 45, 46, 47, 18, 48, 7, 8, 10, 11, 49, 50, 51, 52, 19, 26, 53, 54, 55, 56, 24, 57, 58, 59, 60, 61, 27, 62, 63, 64, 65, 83, 84, 85, 86, 87, 88, 89, 90, 91, 92, 93, 94, 95, 96] (by decide +kernel) (by decide +kernel)
set_option maxRecDepth 20000 in
theorem gX3_leastNeeded_X2_drawnBy : GoodIn wsX3_leastNeeded (wsV RX3 182 RX2 yX2_drawnBy wsX2_drawnBy) := goodIn_app (goodIn_of _ (by decide +kernel)) ggX3_leastNeeded_X2_drawnBy
set_option maxRecDepth 20000 in
theorem ggX3_leastNeeded_X3_choiceOf : GoodIn wsX3_leastNeeded wsX3_choiceOf := goodIn_r _ [69] (by decide +kernel) (by decide +kernel)
set_option maxRecDepth 20000 in
theorem gX3_leastNeeded_X3_choiceOf : GoodIn wsX3_leastNeeded (va_wsS RX3 194 yX3_choiceOf wsX3_choiceOf) := goodIn_app (goodIn_of _ (by decide +kernel)) ggX3_leastNeeded_X3_choiceOf
theorem dX3_leastNeeded_0 : decode cX3_leastNeeded 0 = .ok (.iconst (-1), 1) := by decide +kernel
theorem dX3_leastNeeded_1 : decode cX3_leastNeeded 1 = .ok (.istore_n 1, 1) := by decide +kernel
theorem dX3_leastNeeded_2 : decode cX3_leastNeeded 2 = .ok (.ldc 181, 2) := by decide +kernel
theorem dX3_leastNeeded_4 : decode cX3_leastNeeded 4 = .ok (.istore_n 2, 1) := by decide +kernel
theorem dX3_leastNeeded_5 : decode cX3_leastNeeded 5 = .ok (.iconst 0, 1) := by decide +kernel
theorem dX3_leastNeeded_6 : decode cX3_leastNeeded 6 = .ok (.istore_n 3, 1) := by decide +kernel
theorem dX3_leastNeeded_7 : decode cX3_leastNeeded 7 = .ok (.iload_n 3, 1) := by decide +kernel
theorem dX3_leastNeeded_8 : decode cX3_leastNeeded 8 = .ok (.aload_n 0, 1) := by decide +kernel
theorem dX3_leastNeeded_9 : decode cX3_leastNeeded 9 = .ok (.getfield 10, 3) := by decide +kernel
theorem dX3_leastNeeded_12 : decode cX3_leastNeeded 12 = .ok (.getfield 48, 3) := by decide +kernel
theorem dX3_leastNeeded_15 : decode cX3_leastNeeded 15 = .ok (.if_icmp .ge 77, 3) := by decide +kernel
theorem dX3_leastNeeded_18 : decode cX3_leastNeeded 18 = .ok (.aload_n 0, 1) := by decide +kernel
theorem dX3_leastNeeded_19 : decode cX3_leastNeeded 19 = .ok (.getfield 10, 3) := by decide +kernel
theorem dX3_leastNeeded_22 : decode cX3_leastNeeded 22 = .ok (.iload_n 3, 1) := by decide +kernel
theorem dX3_leastNeeded_23 : decode cX3_leastNeeded 23 = .ok (.invokevirtual 98, 3) := by decide +kernel
theorem dX3_leastNeeded_26 : decode cX3_leastNeeded 26 = .ok (.ifCond .eq 6, 3) := by decide +kernel
theorem dX3_leastNeeded_29 : decode cX3_leastNeeded 29 = .ok (.goto 57, 3) := by decide +kernel
theorem dX3_leastNeeded_32 : decode cX3_leastNeeded 32 = .ok (.aload_n 0, 1) := by decide +kernel
theorem dX3_leastNeeded_33 : decode cX3_leastNeeded 33 = .ok (.getfield 16, 3) := by decide +kernel
theorem dX3_leastNeeded_36 : decode cX3_leastNeeded 36 = .ok (.aload_n 0, 1) := by decide +kernel
theorem dX3_leastNeeded_37 : decode cX3_leastNeeded 37 = .ok (.getfield 10, 3) := by decide +kernel
theorem dX3_leastNeeded_40 : decode cX3_leastNeeded 40 = .ok (.invokevirtual 177, 3) := by decide +kernel
theorem dX3_leastNeeded_43 : decode cX3_leastNeeded 43 = .ok (.aload_n 0, 1) := by decide +kernel
theorem dX3_leastNeeded_44 : decode cX3_leastNeeded 44 = .ok (.getfield 16, 3) := by decide +kernel
theorem dX3_leastNeeded_47 : decode cX3_leastNeeded 47 = .ok (.dup, 1) := by decide +kernel
theorem dX3_leastNeeded_48 : decode cX3_leastNeeded 48 = .ok (.getfield 58, 3) := by decide +kernel
theorem dX3_leastNeeded_51 : decode cX3_leastNeeded 51 = .ok (.iconst 1, 1) := by decide +kernel
theorem dX3_leastNeeded_52 : decode cX3_leastNeeded 52 = .ok (.iload_n 3, 1) := by decide +kernel
theorem dX3_leastNeeded_53 : decode cX3_leastNeeded 53 = .ok (.ishl, 1) := by decide +kernel
theorem dX3_leastNeeded_54 : decode cX3_leastNeeded 54 = .ok (.ior, 1) := by decide +kernel
theorem dX3_leastNeeded_55 : decode cX3_leastNeeded 55 = .ok (.putfield 58, 3) := by decide +kernel
theorem dX3_leastNeeded_58 : decode cX3_leastNeeded 58 = .ok (.aload_n 0, 1) := by decide +kernel
theorem dX3_leastNeeded_59 : decode cX3_leastNeeded 59 = .ok (.getfield 16, 3) := by decide +kernel
theorem dX3_leastNeeded_62 : decode cX3_leastNeeded 62 = .ok (.bipush 10, 2) := by decide +kernel
theorem dX3_leastNeeded_64 : decode cX3_leastNeeded 64 = .ok (.iload_n 2, 1) := by decide +kernel
theorem dX3_leastNeeded_65 : decode cX3_leastNeeded 65 = .ok (.invokevirtual 182, 3) := by decide +kernel
theorem dX3_leastNeeded_68 : decode cX3_leastNeeded 68 = .ok (.istore 4, 2) := by decide +kernel
theorem dX3_leastNeeded_70 : decode cX3_leastNeeded 70 = .ok (.iload 4, 2) := by decide +kernel
theorem dX3_leastNeeded_72 : decode cX3_leastNeeded 72 = .ok (.iload_n 2, 1) := by decide +kernel
theorem dX3_leastNeeded_73 : decode cX3_leastNeeded 73 = .ok (.if_icmp .ge 13, 3) := by decide +kernel
theorem dX3_leastNeeded_76 : decode cX3_leastNeeded 76 = .ok (.iload 4, 2) := by decide +kernel
theorem dX3_leastNeeded_78 : decode cX3_leastNeeded 78 = .ok (.istore_n 2, 1) := by decide +kernel
theorem dX3_leastNeeded_79 : decode cX3_leastNeeded 79 = .ok (.iload_n 3, 1) := by decide +kernel
theorem dX3_leastNeeded_80 : decode cX3_leastNeeded 80 = .ok (.iload 4, 2) := by decide +kernel
theorem dX3_leastNeeded_82 : decode cX3_leastNeeded 82 = .ok (.invokestatic 194, 3) := by decide +kernel
theorem dX3_leastNeeded_85 : decode cX3_leastNeeded 85 = .ok (.istore_n 1, 1) := by decide +kernel
theorem dX3_leastNeeded_86 : decode cX3_leastNeeded 86 = .ok (.iinc 3 1, 3) := by decide +kernel
theorem dX3_leastNeeded_89 : decode cX3_leastNeeded 89 = .ok (.goto (-82), 3) := by decide +kernel
theorem dX3_leastNeeded_92 : decode cX3_leastNeeded 92 = .ok (.iload_n 1, 1) := by decide +kernel
theorem dX3_leastNeeded_93 : decode cX3_leastNeeded 93 = .ok (.ireturn, 1) := by decide +kernel
set_option maxRecDepth 20000 in
theorem ggX3_sheet_X3_isSheet : GoodIn wsX3_sheet wsX3_isSheet := goodIn_r _ [5] (by decide +kernel) (by decide +kernel)
set_option maxRecDepth 20000 in
theorem gX3_sheet_X3_isSheet : GoodIn wsX3_sheet (va_wsS RX3 68 yX3_isSheet wsX3_isSheet) := goodIn_app (goodIn_of _ (by decide +kernel)) ggX3_sheet_X3_isSheet
set_option maxRecDepth 20000 in
theorem ggX3_sheet_X3_isForm : GoodIn wsX3_sheet wsX3_isForm := goodIn_r _ [8] (by decide +kernel) (by decide +kernel)
set_option maxRecDepth 20000 in
theorem gX3_sheet_X3_isForm : GoodIn wsX3_sheet (va_wsS RX3 197 yX3_isForm wsX3_isForm) := goodIn_app (goodIn_of _ (by decide +kernel)) ggX3_sheet_X3_isForm
set_option maxRecDepth 20000 in
theorem ggX3_sheet_X3_found : GoodIn wsX3_sheet wsX3_found := goodIn_r _ [12, 13, 27, 28, 29, 30, 31, 32, 33, 34, 35, 36, 37, 38, 39] (by decide +kernel) (by decide +kernel)
set_option maxRecDepth 20000 in
theorem gX3_sheet_X3_found : GoodIn wsX3_sheet (wsV RX3 75 RX3 yX3_found wsX3_found) := goodIn_app (goodIn_of _ (by decide +kernel)) ggX3_sheet_X3_found
set_option maxRecDepth 20000 in
theorem ggX3_sheet_X1_renew : GoodIn wsX3_sheet wsX1_renew := goodIn_r _ [18, 19, 20, 21, 22, 23, 24, 25, 26, 40, 41, 42, 43] (by decide +kernel) (by decide +kernel)
set_option maxRecDepth 20000 in
theorem gX3_sheet_X1_renew : GoodIn wsX3_sheet (wsV RX3 200 RX1 yX1_renew wsX1_renew) := goodIn_app (goodIn_of _ (by decide +kernel)) ggX3_sheet_X1_renew
theorem dX3_sheet_0 : decode cX3_sheet 0 = .ok (.iload_n 1, 1) := by decide +kernel
theorem dX3_sheet_1 : decode cX3_sheet 1 = .ok (.invokestatic 68, 3) := by decide +kernel
theorem dX3_sheet_4 : decode cX3_sheet 4 = .ok (.ifCond .eq 16, 3) := by decide +kernel
theorem dX3_sheet_7 : decode cX3_sheet 7 = .ok (.iload_n 2, 1) := by decide +kernel
theorem dX3_sheet_8 : decode cX3_sheet 8 = .ok (.invokestatic 197, 3) := by decide +kernel
theorem dX3_sheet_11 : decode cX3_sheet 11 = .ok (.ifCond .eq 9, 3) := by decide +kernel
theorem dX3_sheet_14 : decode cX3_sheet 14 = .ok (.iload_n 3, 1) := by decide +kernel
theorem dX3_sheet_15 : decode cX3_sheet 15 = .ok (.bipush 60, 2) := by decide +kernel
theorem dX3_sheet_17 : decode cX3_sheet 17 = .ok (.if_icmp .le 6, 3) := by decide +kernel
theorem dX3_sheet_20 : decode cX3_sheet 20 = .ok (.bipush (-2), 2) := by decide +kernel
theorem dX3_sheet_22 : decode cX3_sheet 22 = .ok (.ireturn, 1) := by decide +kernel
theorem dX3_sheet_23 : decode cX3_sheet 23 = .ok (.iload_n 3, 1) := by decide +kernel
theorem dX3_sheet_24 : decode cX3_sheet 24 = .ok (.ifCond .ge 9, 3) := by decide +kernel
theorem dX3_sheet_27 : decode cX3_sheet 27 = .ok (.aload_n 0, 1) := by decide +kernel
theorem dX3_sheet_28 : decode cX3_sheet 28 = .ok (.iconst 5, 1) := by decide +kernel
theorem dX3_sheet_29 : decode cX3_sheet 29 = .ok (.invokevirtual 75, 3) := by decide +kernel
theorem dX3_sheet_32 : decode cX3_sheet 32 = .ok (.ireturn, 1) := by decide +kernel
theorem dX3_sheet_33 : decode cX3_sheet 33 = .ok (.aload_n 0, 1) := by decide +kernel
theorem dX3_sheet_34 : decode cX3_sheet 34 = .ok (.getfield 27, 3) := by decide +kernel
theorem dX3_sheet_37 : decode cX3_sheet 37 = .ok (.iload_n 1, 1) := by decide +kernel
theorem dX3_sheet_38 : decode cX3_sheet 38 = .ok (.aaload, 1) := by decide +kernel
theorem dX3_sheet_39 : decode cX3_sheet 39 = .ok (.iload_n 2, 1) := by decide +kernel
theorem dX3_sheet_40 : decode cX3_sheet 40 = .ok (.iload_n 3, 1) := by decide +kernel
theorem dX3_sheet_41 : decode cX3_sheet 41 = .ok (.invokevirtual 200, 3) := by decide +kernel
theorem dX3_sheet_44 : decode cX3_sheet 44 = .ok (.iload_n 3, 1) := by decide +kernel
theorem dX3_sheet_45 : decode cX3_sheet 45 = .ok (.ireturn, 1) := by decide +kernel
set_option maxRecDepth 20000 in
theorem ggX3_lose_X3_isSheet : GoodIn wsX3_lose wsX3_isSheet := goodIn_r _ [7] (by decide +kernel) (by decide +kernel)
set_option maxRecDepth 20000 in
theorem gX3_lose_X3_isSheet : GoodIn wsX3_lose (va_wsS RX3 68 yX3_isSheet wsX3_isSheet) := goodIn_app (goodIn_of _ (by decide +kernel)) ggX3_lose_X3_isSheet
set_option maxRecDepth 20000 in
theorem ggX3_lose_X3_found : GoodIn wsX3_lose wsX3_found := goodIn_r _ [11, 12, 13, 14, 15, 16, 17, 18, 19, 20, 21, 22, 23, 24, 25] (by decide +kernel) (by decide +kernel)
set_option maxRecDepth 20000 in
theorem gX3_lose_X3_found : GoodIn wsX3_lose (wsV RX3 75 RX3 yX3_found wsX3_found) := goodIn_app (goodIn_of _ (by decide +kernel)) ggX3_lose_X3_found
theorem dX3_lose_0 : decode cX3_lose 0 = .ok (.iload_n 1, 1) := by decide +kernel
theorem dX3_lose_1 : decode cX3_lose 1 = .ok (.invokestatic 68, 3) := by decide +kernel
theorem dX3_lose_4 : decode cX3_lose 4 = .ok (.ifCond .ne 6, 3) := by decide +kernel
theorem dX3_lose_7 : decode cX3_lose 7 = .ok (.bipush (-2), 2) := by decide +kernel
theorem dX3_lose_9 : decode cX3_lose 9 = .ok (.ireturn, 1) := by decide +kernel
theorem dX3_lose_10 : decode cX3_lose 10 = .ok (.aload_n 0, 1) := by decide +kernel
theorem dX3_lose_11 : decode cX3_lose 11 = .ok (.getfield 27, 3) := by decide +kernel
theorem dX3_lose_14 : decode cX3_lose 14 = .ok (.iload_n 1, 1) := by decide +kernel
theorem dX3_lose_15 : decode cX3_lose 15 = .ok (.aaload, 1) := by decide +kernel
theorem dX3_lose_16 : decode cX3_lose 16 = .ok (.getfield 71, 3) := by decide +kernel
theorem dX3_lose_19 : decode cX3_lose 19 = .ok (.ifCond .eq 9, 3) := by decide +kernel
theorem dX3_lose_22 : decode cX3_lose 22 = .ok (.aload_n 0, 1) := by decide +kernel
theorem dX3_lose_23 : decode cX3_lose 23 = .ok (.iconst 1, 1) := by decide +kernel
theorem dX3_lose_24 : decode cX3_lose 24 = .ok (.invokevirtual 75, 3) := by decide +kernel
theorem dX3_lose_27 : decode cX3_lose 27 = .ok (.ireturn, 1) := by decide +kernel
theorem dX3_lose_28 : decode cX3_lose 28 = .ok (.aload_n 0, 1) := by decide +kernel
theorem dX3_lose_29 : decode cX3_lose 29 = .ok (.getfield 27, 3) := by decide +kernel
theorem dX3_lose_32 : decode cX3_lose 32 = .ok (.iload_n 1, 1) := by decide +kernel
theorem dX3_lose_33 : decode cX3_lose 33 = .ok (.aaload, 1) := by decide +kernel
theorem dX3_lose_34 : decode cX3_lose 34 = .ok (.iconst 1, 1) := by decide +kernel
theorem dX3_lose_35 : decode cX3_lose 35 = .ok (.putfield 71, 3) := by decide +kernel
theorem dX3_lose_38 : decode cX3_lose 38 = .ok (.aload_n 0, 1) := by decide +kernel
theorem dX3_lose_39 : decode cX3_lose 39 = .ok (.getfield 27, 3) := by decide +kernel
theorem dX3_lose_42 : decode cX3_lose 42 = .ok (.iload_n 1, 1) := by decide +kernel
theorem dX3_lose_43 : decode cX3_lose 43 = .ok (.aaload, 1) := by decide +kernel
theorem dX3_lose_44 : decode cX3_lose 44 = .ok (.getfield 79, 3) := by decide +kernel
theorem dX3_lose_47 : decode cX3_lose 47 = .ok (.ireturn, 1) := by decide +kernel
set_option maxRecDepth 20000 in
theorem ggX3_lay_X3_isSheet : GoodIn wsX3_lay wsX3_isSheet := goodIn_r _ [5] (by decide +kernel) (by decide +kernel)
set_option maxRecDepth 20000 in
theorem gX3_lay_X3_isSheet : GoodIn wsX3_lay (va_wsS RX3 68 yX3_isSheet wsX3_isSheet) := goodIn_app (goodIn_of _ (by decide +kernel)) ggX3_lay_X3_isSheet
set_option maxRecDepth 20000 in
theorem ggX3_lay_X3_isForm : GoodIn wsX3_lay wsX3_isForm := goodIn_r _ [8] (by decide +kernel) (by decide +kernel)
set_option maxRecDepth 20000 in
theorem gX3_lay_X3_isForm : GoodIn wsX3_lay (va_wsS RX3 197 yX3_isForm wsX3_isForm) := goodIn_app (goodIn_of _ (by decide +kernel)) ggX3_lay_X3_isForm
set_option maxRecDepth 20000 in
theorem ggX3_lay_X1_faultAt : GoodIn wsX3_lay wsX1_faultAt := goodIn_r _ [13, 14, 15, 16, 40, 41, 42, 43] (by decide +kernel) (by decide +kernel)
set_option maxRecDepth 20000 in
theorem gX3_lay_X1_faultAt : GoodIn wsX3_lay (wsV RX3 204 RX1 yX1_faultAt wsX1_faultAt) := goodIn_app (goodIn_of _ (by decide +kernel)) ggX3_lay_X1_faultAt
set_option maxRecDepth 20000 in
theorem ggX3_lay_X3_found : GoodIn wsX3_lay wsX3_found := goodIn_r _ [20, 21, 27, 28, 29, 30, 31, 32, 33, 34, 35, 36, 37, 38, 39] (by decide +kernel) (by decide +kernel)
set_option maxRecDepth 20000 in
theorem gX3_lay_X3_found : GoodIn wsX3_lay (wsV RX3 75 RX3 yX3_found wsX3_found) := goodIn_app (goodIn_of _ (by decide +kernel)) ggX3_lay_X3_found
set_option maxRecDepth 20000 in
theorem ggX3_lay_X1_put : GoodIn wsX3_lay wsX1_put := goodIn_r _ [25, 15, 26, 40, 41, 42, 43] (by decide +kernel) (by decide +kernel)
set_option maxRecDepth 20000 in
theorem gX3_lay_X1_put : GoodIn wsX3_lay (wsV RX3 207 RX1 yX1_put wsX1_put) := goodIn_app (goodIn_of _ (by decide +kernel)) ggX3_lay_X1_put
theorem dX3_lay_0 : decode cX3_lay 0 = .ok (.iload_n 1, 1) := by decide +kernel
theorem dX3_lay_1 : decode cX3_lay 1 = .ok (.invokestatic 68, 3) := by decide +kernel
theorem dX3_lay_4 : decode cX3_lay 4 = .ok (.ifCond .eq 10, 3) := by decide +kernel
theorem dX3_lay_7 : decode cX3_lay 7 = .ok (.iload_n 2, 1) := by decide +kernel
theorem dX3_lay_8 : decode cX3_lay 8 = .ok (.invokestatic 197, 3) := by decide +kernel
theorem dX3_lay_11 : decode cX3_lay 11 = .ok (.ifCond .ne 6, 3) := by decide +kernel
theorem dX3_lay_14 : decode cX3_lay 14 = .ok (.bipush (-2), 2) := by decide +kernel
theorem dX3_lay_16 : decode cX3_lay 16 = .ok (.ireturn, 1) := by decide +kernel
theorem dX3_lay_17 : decode cX3_lay 17 = .ok (.aload_n 0, 1) := by decide +kernel
theorem dX3_lay_18 : decode cX3_lay 18 = .ok (.getfield 27, 3) := by decide +kernel
theorem dX3_lay_21 : decode cX3_lay 21 = .ok (.iload_n 1, 1) := by decide +kernel
theorem dX3_lay_22 : decode cX3_lay 22 = .ok (.aaload, 1) := by decide +kernel
theorem dX3_lay_23 : decode cX3_lay 23 = .ok (.iload_n 2, 1) := by decide +kernel
theorem dX3_lay_24 : decode cX3_lay 24 = .ok (.iload_n 3, 1) := by decide +kernel
theorem dX3_lay_25 : decode cX3_lay 25 = .ok (.invokevirtual 204, 3) := by decide +kernel
theorem dX3_lay_28 : decode cX3_lay 28 = .ok (.istore 5, 2) := by decide +kernel
theorem dX3_lay_30 : decode cX3_lay 30 = .ok (.iload 5, 2) := by decide +kernel
theorem dX3_lay_32 : decode cX3_lay 32 = .ok (.ifCond .eq 10, 3) := by decide +kernel
theorem dX3_lay_35 : decode cX3_lay 35 = .ok (.aload_n 0, 1) := by decide +kernel
theorem dX3_lay_36 : decode cX3_lay 36 = .ok (.iload 5, 2) := by decide +kernel
theorem dX3_lay_38 : decode cX3_lay 38 = .ok (.invokevirtual 75, 3) := by decide +kernel
theorem dX3_lay_41 : decode cX3_lay 41 = .ok (.ireturn, 1) := by decide +kernel
theorem dX3_lay_42 : decode cX3_lay 42 = .ok (.aload_n 0, 1) := by decide +kernel
theorem dX3_lay_43 : decode cX3_lay 43 = .ok (.getfield 27, 3) := by decide +kernel
theorem dX3_lay_46 : decode cX3_lay 46 = .ok (.iload_n 1, 1) := by decide +kernel
theorem dX3_lay_47 : decode cX3_lay 47 = .ok (.aaload, 1) := by decide +kernel
theorem dX3_lay_48 : decode cX3_lay 48 = .ok (.iload_n 3, 1) := by decide +kernel
theorem dX3_lay_49 : decode cX3_lay 49 = .ok (.iload 4, 2) := by decide +kernel
theorem dX3_lay_51 : decode cX3_lay 51 = .ok (.invokevirtual 207, 3) := by decide +kernel
theorem dX3_lay_54 : decode cX3_lay 54 = .ok (.iconst 1, 1) := by decide +kernel
theorem dX3_lay_55 : decode cX3_lay 55 = .ok (.ireturn, 1) := by decide +kernel
set_option maxRecDepth 20000 in
theorem ggX3_get_X3_isSheet : GoodIn wsX3_get wsX3_isSheet := goodIn_r _ [7] (by decide +kernel) (by decide +kernel)
set_option maxRecDepth 20000 in
theorem gX3_get_X3_isSheet : GoodIn wsX3_get (va_wsS RX3 68 yX3_isSheet wsX3_isSheet) := goodIn_app (goodIn_of _ (by decide +kernel)) ggX3_get_X3_isSheet
set_option maxRecDepth 20000 in
theorem ggX3_get_X3_isForm : GoodIn wsX3_get wsX3_isForm := goodIn_r _ [10] (by decide +kernel) (by decide +kernel)
set_option maxRecDepth 20000 in
theorem gX3_get_X3_isForm : GoodIn wsX3_get (va_wsS RX3 197 yX3_isForm wsX3_isForm) := goodIn_app (goodIn_of _ (by decide +kernel)) ggX3_get_X3_isForm
set_option maxRecDepth 20000 in
theorem ggX3_get_X1_faultAt : GoodIn wsX3_get wsX1_faultAt := goodIn_r _ [15, 16, 17, 18, 37, 38, 39, 40] (by decide +kernel) (by decide +kernel)
set_option maxRecDepth 20000 in
theorem gX3_get_X1_faultAt : GoodIn wsX3_get (wsV RX3 204 RX1 yX1_faultAt wsX1_faultAt) := goodIn_app (goodIn_of _ (by decide +kernel)) ggX3_get_X1_faultAt
set_option maxRecDepth 20000 in
theorem ggX3_get_X3_found : GoodIn wsX3_get wsX3_found := goodIn_r _ [22, 23, 24, 25, 26, 27, 28, 29, 30, 31, 32, 33, 34, 35, 36] (by decide +kernel) (by decide +kernel)
set_option maxRecDepth 20000 in
theorem gX3_get_X3_found : GoodIn wsX3_get (wsV RX3 75 RX3 yX3_found wsX3_found) := goodIn_app (goodIn_of _ (by decide +kernel)) ggX3_get_X3_found
theorem dX3_get_0 : decode cX3_get 0 = .ok (.iload_n 1, 1) := by decide +kernel
theorem dX3_get_1 : decode cX3_get 1 = .ok (.invokestatic 68, 3) := by decide +kernel
theorem dX3_get_4 : decode cX3_get 4 = .ok (.ifCond .eq 10, 3) := by decide +kernel
theorem dX3_get_7 : decode cX3_get 7 = .ok (.iload_n 2, 1) := by decide +kernel
theorem dX3_get_8 : decode cX3_get 8 = .ok (.invokestatic 197, 3) := by decide +kernel
theorem dX3_get_11 : decode cX3_get 11 = .ok (.ifCond .ne 6, 3) := by decide +kernel
theorem dX3_get_14 : decode cX3_get 14 = .ok (.ldc 210, 2) := by decide +kernel
theorem dX3_get_16 : decode cX3_get 16 = .ok (.ireturn, 1) := by decide +kernel
theorem dX3_get_17 : decode cX3_get 17 = .ok (.aload_n 0, 1) := by decide +kernel
theorem dX3_get_18 : decode cX3_get 18 = .ok (.getfield 27, 3) := by decide +kernel
theorem dX3_get_21 : decode cX3_get 21 = .ok (.iload_n 1, 1) := by decide +kernel
theorem dX3_get_22 : decode cX3_get 22 = .ok (.aaload, 1) := by decide +kernel
theorem dX3_get_23 : decode cX3_get 23 = .ok (.iload_n 2, 1) := by decide +kernel
theorem dX3_get_24 : decode cX3_get 24 = .ok (.iload_n 3, 1) := by decide +kernel
theorem dX3_get_25 : decode cX3_get 25 = .ok (.invokevirtual 204, 3) := by decide +kernel
theorem dX3_get_28 : decode cX3_get 28 = .ok (.istore 4, 2) := by decide +kernel
theorem dX3_get_30 : decode cX3_get 30 = .ok (.iload 4, 2) := by decide +kernel
theorem dX3_get_32 : decode cX3_get 32 = .ok (.ifCond .eq 13, 3) := by decide +kernel
theorem dX3_get_35 : decode cX3_get 35 = .ok (.aload_n 0, 1) := by decide +kernel
theorem dX3_get_36 : decode cX3_get 36 = .ok (.iload 4, 2) := by decide +kernel
theorem dX3_get_38 : decode cX3_get 38 = .ok (.invokevirtual 75, 3) := by decide +kernel
theorem dX3_get_41 : decode cX3_get 41 = .ok (.pop, 1) := by decide +kernel
theorem dX3_get_42 : decode cX3_get 42 = .ok (.ldc 210, 2) := by decide +kernel
theorem dX3_get_44 : decode cX3_get 44 = .ok (.ireturn, 1) := by decide +kernel
theorem dX3_get_45 : decode cX3_get 45 = .ok (.aload_n 0, 1) := by decide +kernel
theorem dX3_get_46 : decode cX3_get 46 = .ok (.getfield 27, 3) := by decide +kernel
theorem dX3_get_49 : decode cX3_get 49 = .ok (.iload_n 1, 1) := by decide +kernel
theorem dX3_get_50 : decode cX3_get 50 = .ok (.aaload, 1) := by decide +kernel
theorem dX3_get_51 : decode cX3_get 51 = .ok (.getfield 82, 3) := by decide +kernel
theorem dX3_get_54 : decode cX3_get 54 = .ok (.iload_n 3, 1) := by decide +kernel
theorem dX3_get_55 : decode cX3_get 55 = .ok (.iaload, 1) := by decide +kernel
theorem dX3_get_56 : decode cX3_get 56 = .ok (.ireturn, 1) := by decide +kernel
set_option maxRecDepth 20000 in
theorem ggX3_copy_X3_isSheet : GoodIn wsX3_copy wsX3_isSheet := goodIn_r _ [12] (by decide +kernel) (by decide +kernel)
set_option maxRecDepth 20000 in
theorem gX3_copy_X3_isSheet : GoodIn wsX3_copy (va_wsS RX3 68 yX3_isSheet wsX3_isSheet) := goodIn_app (goodIn_of _ (by decide +kernel)) ggX3_copy_X3_isSheet
set_option maxRecDepth 20000 in
theorem ggX3_copy_X3_found : GoodIn wsX3_copy wsX3_found := goodIn_r _ [16, 17, 24, 25, 26, 27, 28, 29, 30, 31, 32, 33, 34, 35, 36] (by decide +kernel) (by decide +kernel)
set_option maxRecDepth 20000 in
theorem gX3_copy_X3_found : GoodIn wsX3_copy (wsV RX3 75 RX3 yX3_found wsX3_found) := goodIn_app (goodIn_of _ (by decide +kernel)) ggX3_copy_X3_found
set_option maxRecDepth 20000 in
theorem ggX3_copy_X1_hasSpan : GoodIn wsX3_copy wsX1_hasSpan := goodIn_r _ [22, 23, 37, 38, 39, 40] (by decide +kernel) (by decide +kernel)
set_option maxRecDepth 20000 in
theorem gX3_copy_X1_hasSpan : GoodIn wsX3_copy (wsV RX3 214 RX1 yX1_hasSpan wsX1_hasSpan) := goodIn_app (goodIn_of _ (by decide +kernel)) ggX3_copy_X1_hasSpan
theorem dX3_copy_0 : decode cX3_copy 0 = .ok (.iload_n 1, 1) := by decide +kernel
theorem dX3_copy_1 : decode cX3_copy 1 = .ok (.invokestatic 68, 3) := by decide +kernel
theorem dX3_copy_4 : decode cX3_copy 4 = .ok (.ifCond .eq 10, 3) := by decide +kernel
theorem dX3_copy_7 : decode cX3_copy 7 = .ok (.iload_n 3, 1) := by decide +kernel
theorem dX3_copy_8 : decode cX3_copy 8 = .ok (.invokestatic 68, 3) := by decide +kernel
theorem dX3_copy_11 : decode cX3_copy 11 = .ok (.ifCond .ne 6, 3) := by decide +kernel
theorem dX3_copy_14 : decode cX3_copy 14 = .ok (.bipush (-2), 2) := by decide +kernel
theorem dX3_copy_16 : decode cX3_copy 16 = .ok (.ireturn, 1) := by decide +kernel
theorem dX3_copy_17 : decode cX3_copy 17 = .ok (.aload_n 0, 1) := by decide +kernel
theorem dX3_copy_18 : decode cX3_copy 18 = .ok (.getfield 27, 3) := by decide +kernel
theorem dX3_copy_21 : decode cX3_copy 21 = .ok (.iload_n 1, 1) := by decide +kernel
theorem dX3_copy_22 : decode cX3_copy 22 = .ok (.aaload, 1) := by decide +kernel
theorem dX3_copy_23 : decode cX3_copy 23 = .ok (.astore 6, 2) := by decide +kernel
theorem dX3_copy_25 : decode cX3_copy 25 = .ok (.aload_n 0, 1) := by decide +kernel
theorem dX3_copy_26 : decode cX3_copy 26 = .ok (.getfield 27, 3) := by decide +kernel
theorem dX3_copy_29 : decode cX3_copy 29 = .ok (.iload_n 3, 1) := by decide +kernel
theorem dX3_copy_30 : decode cX3_copy 30 = .ok (.aaload, 1) := by decide +kernel
theorem dX3_copy_31 : decode cX3_copy 31 = .ok (.astore 7, 2) := by decide +kernel
theorem dX3_copy_33 : decode cX3_copy 33 = .ok (.aload 6, 2) := by decide +kernel
theorem dX3_copy_35 : decode cX3_copy 35 = .ok (.getfield 71, 3) := by decide +kernel
theorem dX3_copy_38 : decode cX3_copy 38 = .ok (.ifCond .ne 11, 3) := by decide +kernel
theorem dX3_copy_41 : decode cX3_copy 41 = .ok (.aload 7, 2) := by decide +kernel
theorem dX3_copy_43 : decode cX3_copy 43 = .ok (.getfield 71, 3) := by decide +kernel
theorem dX3_copy_46 : decode cX3_copy 46 = .ok (.ifCond .eq 9, 3) := by decide +kernel
theorem dX3_copy_49 : decode cX3_copy 49 = .ok (.aload_n 0, 1) := by decide +kernel
theorem dX3_copy_50 : decode cX3_copy 50 = .ok (.iconst 1, 1) := by decide +kernel
theorem dX3_copy_51 : decode cX3_copy 51 = .ok (.invokevirtual 75, 3) := by decide +kernel
theorem dX3_copy_54 : decode cX3_copy 54 = .ok (.ireturn, 1) := by decide +kernel
theorem dX3_copy_55 : decode cX3_copy 55 = .ok (.aload 6, 2) := by decide +kernel
theorem dX3_copy_57 : decode cX3_copy 57 = .ok (.getfield 211, 3) := by decide +kernel
theorem dX3_copy_60 : decode cX3_copy 60 = .ok (.aload 7, 2) := by decide +kernel
theorem dX3_copy_62 : decode cX3_copy 62 = .ok (.getfield 211, 3) := by decide +kernel
theorem dX3_copy_65 : decode cX3_copy 65 = .ok (.if_icmp .eq 9, 3) := by decide +kernel
theorem dX3_copy_68 : decode cX3_copy 68 = .ok (.aload_n 0, 1) := by decide +kernel
theorem dX3_copy_69 : decode cX3_copy 69 = .ok (.iconst 4, 1) := by decide +kernel
theorem dX3_copy_70 : decode cX3_copy 70 = .ok (.invokevirtual 75, 3) := by decide +kernel
theorem dX3_copy_73 : decode cX3_copy 73 = .ok (.ireturn, 1) := by decide +kernel
theorem dX3_copy_74 : decode cX3_copy 74 = .ok (.aload 6, 2) := by decide +kernel
theorem dX3_copy_76 : decode cX3_copy 76 = .ok (.iload_n 2, 1) := by decide +kernel
theorem dX3_copy_77 : decode cX3_copy 77 = .ok (.iload 5, 2) := by decide +kernel
theorem dX3_copy_79 : decode cX3_copy 79 = .ok (.invokevirtual 214, 3) := by decide +kernel
theorem dX3_copy_82 : decode cX3_copy 82 = .ok (.ifCond .eq 15, 3) := by decide +kernel
theorem dX3_copy_85 : decode cX3_copy 85 = .ok (.aload 7, 2) := by decide +kernel
theorem dX3_copy_87 : decode cX3_copy 87 = .ok (.iload 4, 2) := by decide +kernel
theorem dX3_copy_89 : decode cX3_copy 89 = .ok (.iload 5, 2) := by decide +kernel
theorem dX3_copy_91 : decode cX3_copy 91 = .ok (.invokevirtual 214, 3) := by decide +kernel
theorem dX3_copy_94 : decode cX3_copy 94 = .ok (.ifCond .ne 9, 3) := by decide +kernel
theorem dX3_copy_97 : decode cX3_copy 97 = .ok (.aload_n 0, 1) := by decide +kernel
theorem dX3_copy_98 : decode cX3_copy 98 = .ok (.iconst 2, 1) := by decide +kernel
theorem dX3_copy_99 : decode cX3_copy 99 = .ok (.invokevirtual 75, 3) := by decide +kernel
theorem dX3_copy_102 : decode cX3_copy 102 = .ok (.ireturn, 1) := by decide +kernel
theorem dX3_copy_103 : decode cX3_copy 103 = .ok (.aload 6, 2) := by decide +kernel
theorem dX3_copy_105 : decode cX3_copy 105 = .ok (.getfield 82, 3) := by decide +kernel
theorem dX3_copy_108 : decode cX3_copy 108 = .ok (.iload_n 2, 1) := by decide +kernel
theorem dX3_copy_109 : decode cX3_copy 109 = .ok (.aload 7, 2) := by decide +kernel
theorem dX3_copy_111 : decode cX3_copy 111 = .ok (.getfield 82, 3) := by decide +kernel
theorem dX3_copy_114 : decode cX3_copy 114 = .ok (.iload 4, 2) := by decide +kernel
theorem dX3_copy_116 : decode cX3_copy 116 = .ok (.iload 5, 2) := by decide +kernel
theorem dX3_copy_118 : decode cX3_copy 118 = .ok (.invokestatic 218, 3) := by decide +kernel
theorem dX3_copy_121 : decode cX3_copy 121 = .ok (.iconst 1, 1) := by decide +kernel
theorem dX3_copy_122 : decode cX3_copy 122 = .ok (.ireturn, 1) := by decide +kernel
set_option maxRecDepth 20000 in
theorem ggX3_write_X3_isSheet : GoodIn wsX3_write wsX3_isSheet := goodIn_r _ [15] (by decide +kernel) (by decide +kernel)
set_option maxRecDepth 20000 in
theorem gX3_write_X3_isSheet : GoodIn wsX3_write (va_wsS RX3 68 yX3_isSheet wsX3_isSheet) := goodIn_app (goodIn_of _ (by decide +kernel)) ggX3_write_X3_isSheet
set_option maxRecDepth 20000 in
theorem ggX3_write_X3_found : GoodIn wsX3_write wsX3_found := goodIn_r _ [19, 20, 84, 85, 86, 87, 88, 89, 90, 91, 92, 93, 94, 95, 96] (by decide +kernel) (by decide +kernel)
set_option maxRecDepth 20000 in
theorem gX3_write_X3_found : GoodIn wsX3_write (wsV RX3 75 RX3 yX3_found wsX3_found) := goodIn_app (goodIn_of _ (by decide +kernel)) ggX3_write_X3_found
set_option maxRecDepth 20000 in
theorem ggX3_write_X3_tryTurn : GoodIn wsX3_write wsX3_tryTurn := goodIn_r _ [24, 10, 4, 25, 26, 27, 28, 29, 30, 31, 32, 33, 34, 35, 36, 37, 38, 39, 40, 41, 42, 43, 44, 45, 46, 47, 48, 49, 50, 51, 52, 53, 54, 55, 56, 57, 58, 59, 60, 61, 62, 63, 64, 65, 66, 67, 68, 69, 70, 71, 72, 73, 74, 75, 76, 7, 8, 9, 84, 85, 86, 87, 88, 89, 90, 91, 92, 93, 94, 95, 96, 101, 102, 103, 104, 105, 106, 107, 108, 109, 110, 111, 112, 113, 114] (by decide +kernel) (by decide +kernel)
set_option maxRecDepth 20000 in
theorem gX3_write_X3_tryTurn : GoodIn wsX3_write (wsV RX3 171 RX3 yX3_tryTurn wsX3_tryTurn) := goodIn_app (goodIn_of _ (by decide +kernel)) ggX3_write_X3_tryTurn
set_option maxRecDepth 20000 in
theorem ggX3_write_X1_put : GoodIn wsX3_write wsX1_put := goodIn_r _ [81, 82, 83, 97, 98, 99, 100] (by decide +kernel) (by decide +kernel)
set_option maxRecDepth 20000 in
theorem gX3_write_X1_put : GoodIn wsX3_write (wsV RX3 207 RX1 yX1_put wsX1_put) := goodIn_app (goodIn_of _ (by decide +kernel)) ggX3_write_X1_put
theorem dX3_write_0 : decode cX3_write 0 = .ok (.iload_n 1, 1) := by decide +kernel
theorem dX3_write_1 : decode cX3_write 1 = .ok (.invokestatic 68, 3) := by decide +kernel
theorem dX3_write_4 : decode cX3_write 4 = .ok (.ifCond .ne 6, 3) := by decide +kernel
theorem dX3_write_7 : decode cX3_write 7 = .ok (.bipush (-2), 2) := by decide +kernel
theorem dX3_write_9 : decode cX3_write 9 = .ok (.ireturn, 1) := by decide +kernel
theorem dX3_write_10 : decode cX3_write 10 = .ok (.aload_n 0, 1) := by decide +kernel
theorem dX3_write_11 : decode cX3_write 11 = .ok (.getfield 27, 3) := by decide +kernel
theorem dX3_write_14 : decode cX3_write 14 = .ok (.iload_n 1, 1) := by decide +kernel
theorem dX3_write_15 : decode cX3_write 15 = .ok (.aaload, 1) := by decide +kernel
theorem dX3_write_16 : decode cX3_write 16 = .ok (.astore_n 2, 1) := by decide +kernel
theorem dX3_write_17 : decode cX3_write 17 = .ok (.aload_n 2, 1) := by decide +kernel
theorem dX3_write_18 : decode cX3_write 18 = .ok (.getfield 71, 3) := by decide +kernel
theorem dX3_write_21 : decode cX3_write 21 = .ok (.ifCond .eq 9, 3) := by decide +kernel
theorem dX3_write_24 : decode cX3_write 24 = .ok (.aload_n 0, 1) := by decide +kernel
theorem dX3_write_25 : decode cX3_write 25 = .ok (.iconst 1, 1) := by decide +kernel
theorem dX3_write_26 : decode cX3_write 26 = .ok (.invokevirtual 75, 3) := by decide +kernel
theorem dX3_write_29 : decode cX3_write 29 = .ok (.ireturn, 1) := by decide +kernel
theorem dX3_write_30 : decode cX3_write 30 = .ok (.aload_n 0, 1) := by decide +kernel
theorem dX3_write_31 : decode cX3_write 31 = .ok (.invokevirtual 171, 3) := by decide +kernel
theorem dX3_write_34 : decode cX3_write 34 = .ok (.aload_n 2, 1) := by decide +kernel
theorem dX3_write_35 : decode cX3_write 35 = .ok (.getfield 79, 3) := by decide +kernel
theorem dX3_write_38 : decode cX3_write 38 = .ok (.aload_n 0, 1) := by decide +kernel
theorem dX3_write_39 : decode cX3_write 39 = .ok (.getfield 10, 3) := by decide +kernel
theorem dX3_write_42 : decode cX3_write 42 = .ok (.getfield 41, 3) := by decide +kernel
theorem dX3_write_45 : decode cX3_write 45 = .ok (.invokestatic 224, 3) := by decide +kernel
theorem dX3_write_48 : decode cX3_write 48 = .ok (.istore_n 3, 1) := by decide +kernel
theorem dX3_write_49 : decode cX3_write 49 = .ok (.iconst 0, 1) := by decide +kernel
theorem dX3_write_50 : decode cX3_write 50 = .ok (.istore 4, 2) := by decide +kernel
theorem dX3_write_52 : decode cX3_write 52 = .ok (.iload 4, 2) := by decide +kernel
theorem dX3_write_54 : decode cX3_write 54 = .ok (.iload_n 3, 1) := by decide +kernel
theorem dX3_write_55 : decode cX3_write 55 = .ok (.if_icmp .ge 25, 3) := by decide +kernel
theorem dX3_write_58 : decode cX3_write 58 = .ok (.aload_n 2, 1) := by decide +kernel
theorem dX3_write_59 : decode cX3_write 59 = .ok (.iload 4, 2) := by decide +kernel
theorem dX3_write_61 : decode cX3_write 61 = .ok (.aload_n 0, 1) := by decide +kernel
theorem dX3_write_62 : decode cX3_write 62 = .ok (.getfield 16, 3) := by decide +kernel
theorem dX3_write_65 : decode cX3_write 65 = .ok (.getfield 174, 3) := by decide +kernel
theorem dX3_write_68 : decode cX3_write 68 = .ok (.iload 4, 2) := by decide +kernel
theorem dX3_write_70 : decode cX3_write 70 = .ok (.iaload, 1) := by decide +kernel
theorem dX3_write_71 : decode cX3_write 71 = .ok (.invokevirtual 207, 3) := by decide +kernel
theorem dX3_write_74 : decode cX3_write 74 = .ok (.iinc 4 1, 3) := by decide +kernel
theorem dX3_write_77 : decode cX3_write 77 = .ok (.goto (-25), 3) := by decide +kernel
theorem dX3_write_80 : decode cX3_write 80 = .ok (.iload_n 3, 1) := by decide +kernel
theorem dX3_write_81 : decode cX3_write 81 = .ok (.ireturn, 1) := by decide +kernel
set_option maxRecDepth 20000 in
theorem ggX3_count_X2_heldInAll : GoodIn wsX3_count wsX2_heldInAll := goodIn_r _ [15, 16, 17, 31, 32, 33, 34, 35, 36, 37, 38, 39, 40, 41, 42, 43, 44] (by decide +kernel) (by decide +kernel)
set_option maxRecDepth 20000 in
theorem gX3_count_X2_heldInAll : GoodIn wsX3_count (wsV RX3 152 RX2 yX2_heldInAll wsX2_heldInAll) := goodIn_app (goodIn_of _ (by decide +kernel)) ggX3_count_X2_heldInAll
theorem dX3_count_0 : decode cX3_count 0 = .ok (.iload_n 1, 1) := by decide +kernel
theorem dX3_count_1 : decode cX3_count 1 = .ok (.tableswitch 120 0 8 #[51, 59, 79, 84, 92, 100, 105, 110, 115], 51) := by decide +kernel
theorem dX3_count_52 : decode cX3_count 52 = .ok (.aload_n 0, 1) := by decide +kernel
theorem dX3_count_53 : decode cX3_count 53 = .ok (.getfield 10, 3) := by decide +kernel
theorem dX3_count_56 : decode cX3_count 56 = .ok (.getfield 48, 3) := by decide +kernel
theorem dX3_count_59 : decode cX3_count 59 = .ok (.ireturn, 1) := by decide +kernel
theorem dX3_count_60 : decode cX3_count 60 = .ok (.aload_n 0, 1) := by decide +kernel
theorem dX3_count_61 : decode cX3_count 61 = .ok (.getfield 21, 3) := by decide +kernel
theorem dX3_count_64 : decode cX3_count 64 = .ok (.iconst 0, 1) := by decide +kernel
theorem dX3_count_65 : decode cX3_count 65 = .ok (.aaload, 1) := by decide +kernel
theorem dX3_count_66 : decode cX3_count 66 = .ok (.getfield 104, 3) := by decide +kernel
theorem dX3_count_69 : decode cX3_count 69 = .ok (.aload_n 0, 1) := by decide +kernel
theorem dX3_count_70 : decode cX3_count 70 = .ok (.getfield 21, 3) := by decide +kernel
theorem dX3_count_73 : decode cX3_count 73 = .ok (.iconst 1, 1) := by decide +kernel
theorem dX3_count_74 : decode cX3_count 74 = .ok (.aaload, 1) := by decide +kernel
theorem dX3_count_75 : decode cX3_count 75 = .ok (.getfield 104, 3) := by decide +kernel
theorem dX3_count_78 : decode cX3_count 78 = .ok (.iadd, 1) := by decide +kernel
theorem dX3_count_79 : decode cX3_count 79 = .ok (.ireturn, 1) := by decide +kernel
theorem dX3_count_80 : decode cX3_count 80 = .ok (.aload_n 0, 1) := by decide +kernel
theorem dX3_count_81 : decode cX3_count 81 = .ok (.getfield 131, 3) := by decide +kernel
theorem dX3_count_84 : decode cX3_count 84 = .ok (.ireturn, 1) := by decide +kernel
theorem dX3_count_85 : decode cX3_count 85 = .ok (.aload_n 0, 1) := by decide +kernel
theorem dX3_count_86 : decode cX3_count 86 = .ok (.getfield 10, 3) := by decide +kernel
theorem dX3_count_89 : decode cX3_count 89 = .ok (.getfield 37, 3) := by decide +kernel
theorem dX3_count_92 : decode cX3_count 92 = .ok (.ireturn, 1) := by decide +kernel
theorem dX3_count_93 : decode cX3_count 93 = .ok (.aload_n 0, 1) := by decide +kernel
theorem dX3_count_94 : decode cX3_count 94 = .ok (.getfield 10, 3) := by decide +kernel
theorem dX3_count_97 : decode cX3_count 97 = .ok (.invokevirtual 152, 3) := by decide +kernel
theorem dX3_count_100 : decode cX3_count 100 = .ok (.ireturn, 1) := by decide +kernel
theorem dX3_count_101 : decode cX3_count 101 = .ok (.aload_n 0, 1) := by decide +kernel
theorem dX3_count_102 : decode cX3_count 102 = .ok (.getfield 143, 3) := by decide +kernel
theorem dX3_count_105 : decode cX3_count 105 = .ok (.ireturn, 1) := by decide +kernel
theorem dX3_count_106 : decode cX3_count 106 = .ok (.aload_n 0, 1) := by decide +kernel
theorem dX3_count_107 : decode cX3_count 107 = .ok (.getfield 146, 3) := by decide +kernel
theorem dX3_count_110 : decode cX3_count 110 = .ok (.ireturn, 1) := by decide +kernel
theorem dX3_count_111 : decode cX3_count 111 = .ok (.aload_n 0, 1) := by decide +kernel
theorem dX3_count_112 : decode cX3_count 112 = .ok (.getfield 105, 3) := by decide +kernel
theorem dX3_count_115 : decode cX3_count 115 = .ok (.ireturn, 1) := by decide +kernel
theorem dX3_count_116 : decode cX3_count 116 = .ok (.aload_n 0, 1) := by decide +kernel
theorem dX3_count_117 : decode cX3_count 117 = .ok (.getfield 229, 3) := by decide +kernel
theorem dX3_count_120 : decode cX3_count 120 = .ok (.ireturn, 1) := by decide +kernel
theorem dX3_count_121 : decode cX3_count 121 = .ok (.bipush (-2), 2) := by decide +kernel
theorem dX3_count_123 : decode cX3_count 123 = .ok (.ireturn, 1) := by decide +kernel
set_option maxRecDepth 20000 in
theorem ggX3_digest_X3_count : GoodIn wsX3_digest wsX3_count := goodIn_r _ [6, 7, 8, 9, 10, 11, 12, 13, 14, 15, 16, 17, 18, 19, 20, 21, 22, 23, 189, 190, 191, 192, 193, 194, 195, 196, 197, 198, 199, 200, 201, 202, 203, 204, 205, 206, 207, 208, 209, 210, 211, 212, 213, 214, 215, 216, 217] (by decide +kernel) (by decide +kernel)
set_option maxRecDepth 20000 in
theorem gX3_digest_X3_count : GoodIn wsX3_digest (wsV RX3 234 RX3 yX3_count wsX3_count) := goodIn_app (goodIn_of _ (by decide +kernel)) ggX3_digest_X3_count
set_option maxRecDepth 20000 in
theorem ggX3_digest_X3_fold : GoodIn wsX3_digest wsX3_fold := goodIn_r _ [26, 27] (by decide +kernel) (by decide +kernel)
set_option maxRecDepth 20000 in
theorem gX3_digest_X3_fold : GoodIn wsX3_digest (va_wsS RX3 237 yX3_fold wsX3_fold) := goodIn_app (goodIn_of _ (by decide +kernel)) ggX3_digest_X3_fold
set_option maxRecDepth 20000 in
theorem ggX3_digest_X3_foldBasins : GoodIn wsX3_digest wsX3_foldBasins := goodIn_r _ [31, 7, 8, 32, 33, 34, 5, 35, 36, 37, 38, 39, 40, 41, 42, 43, 44, 45, 46, 47, 20, 48, 49, 50, 51, 52, 53, 54, 55, 24, 25, 26, 27, 56, 57, 58, 59, 60, 61, 62, 63, 64, 65, 66, 67, 22, 68, 69, 70, 71, 72, 73, 74, 23, 75, 76, 77, 78, 79, 80, 81, 82, 83, 84, 85, 86, 87, 88, 89, 90, 91, 92, 93, 94, 95, 96, 97, 98, 99, 100, 101, 102, 103, 104, 105, 106, 107, 108, 109, 110, 111, 112, 113, 114, 115, 116, 117, 118, 12, 119, 189, 190, 191, 192, 193, 194, 195, 196, 197, 198, 199, 200, 201, 202, 203, 204, 205, 206, 207, 208, 209, 210, 211, 212, 213, 214, 215] (by decide +kernel) (by decide +kernel)
set_option maxRecDepth 20000 in
theorem gX3_digest_X3_foldBasins : GoodIn wsX3_digest (wsV RX3 241 RX3 yX3_foldBasins wsX3_foldBasins) := goodIn_app (goodIn_of _ (by decide +kernel)) ggX3_digest_X3_foldBasins
set_option maxRecDepth 20000 in
theorem ggX3_digest_X3_foldBoats : GoodIn wsX3_digest wsX3_foldBoats := goodIn_r _ [123, 124, 125, 126, 5, 127, 9, 10, 128, 129, 130, 131, 132, 133, 134, 135, 136, 137, 24, 25, 26, 27, 138, 139, 140, 141, 142, 143, 144, 145, 146, 147, 148, 149, 150, 7, 12, 151, 152, 153, 154, 189, 190, 191, 192, 193, 194, 195, 196, 197, 198, 199, 200, 201, 216, 217, 202, 203, 204, 205, 206, 207, 208, 209, 210, 211, 212, 213, 214, 215] (by decide +kernel) (by decide +kernel)
set_option maxRecDepth 20000 in
theorem gX3_digest_X3_foldBoats : GoodIn wsX3_digest (wsV RX3 245 RX3 yX3_foldBoats wsX3_foldBoats) := goodIn_app (goodIn_of _ (by decide +kernel)) ggX3_digest_X3_foldBoats
set_option maxRecDepth 20000 in
theorem ggX3_digest_X3_foldTurns : GoodIn wsX3_digest wsX3_foldTurns := goodIn_r _ [158, 11, 159, 160, 161, 5, 162, 163, 24, 25, 26, 27, 164, 165, 166, 167, 13, 14, 168, 7, 169, 17, 18, 19, 20, 21, 22, 23, 189, 190, 191, 192, 193, 194, 195, 196, 197, 198, 199, 200, 201, 202, 203, 204, 205, 206, 207, 208, 209, 210, 211, 212, 213, 214, 215] (by decide +kernel) (by decide +kernel)
set_option maxRecDepth 20000 in
theorem gX3_digest_X3_foldTurns : GoodIn wsX3_digest (wsV RX3 248 RX3 yX3_foldTurns wsX3_foldTurns) := goodIn_app (goodIn_of _ (by decide +kernel)) ggX3_digest_X3_foldTurns
set_option maxRecDepth 20000 in
theorem ggX3_digest_X3_foldWhatWouldBe : GoodIn wsX3_digest wsX3_foldWhatWouldBe := goodIn_r _ [173, 7, 119, 61, 174, 24, 25, 5, 26, 27, 175, 176, 177, 178, 62, 63, 64, 20, 65, 66, 67, 22, 55, 49, 68, 69, 70, 71, 72, 73, 50, 74, 23, 179, 81, 82, 83, 84, 79, 85, 86, 87, 88, 89, 90, 91, 92, 93, 94, 52, 53, 54, 95, 46, 47, 48, 96, 97, 98, 99, 100, 101, 102, 103, 104, 105, 106, 107, 108, 180, 181, 182, 183, 60, 75, 76, 77, 78, 80, 184, 185, 186, 187, 8, 188, 51, 109, 110, 111, 112, 113, 114, 189, 190, 191, 192, 193, 194, 195, 196, 197, 198, 199, 200, 201, 202, 203, 204, 205, 206, 207, 208, 209, 210, 211, 212, 213, 214, 215] (by decide +kernel) (by decide +kernel)
set_option maxRecDepth 20000 in
theorem gX3_digest_X3_foldWhatWouldBe : GoodIn wsX3_digest (wsV RX3 251 RX3 yX3_foldWhatWouldBe wsX3_foldWhatWouldBe) := goodIn_app (goodIn_of _ (by decide +kernel)) ggX3_digest_X3_foldWhatWouldBe
theorem dX3_digest_0 : decode cX3_digest 0 = .ok (.ldc2_w 232, 3) := by decide +kernel
theorem dX3_digest_3 : decode cX3_digest 3 = .ok (.lstore_n 1, 1) := by decide +kernel
theorem dX3_digest_4 : decode cX3_digest 4 = .ok (.iconst 0, 1) := by decide +kernel
theorem dX3_digest_5 : decode cX3_digest 5 = .ok (.istore_n 3, 1) := by decide +kernel
theorem dX3_digest_6 : decode cX3_digest 6 = .ok (.iload_n 3, 1) := by decide +kernel
theorem dX3_digest_7 : decode cX3_digest 7 = .ok (.bipush 7, 2) := by decide +kernel
theorem dX3_digest_9 : decode cX3_digest 9 = .ok (.if_icmp .gt 19, 3) := by decide +kernel
theorem dX3_digest_12 : decode cX3_digest 12 = .ok (.lload_n 1, 1) := by decide +kernel
theorem dX3_digest_13 : decode cX3_digest 13 = .ok (.aload_n 0, 1) := by decide +kernel
theorem dX3_digest_14 : decode cX3_digest 14 = .ok (.iload_n 3, 1) := by decide +kernel
theorem dX3_digest_15 : decode cX3_digest 15 = .ok (.invokevirtual 234, 3) := by decide +kernel
theorem dX3_digest_18 : decode cX3_digest 18 = .ok (.invokestatic 237, 3) := by decide +kernel
theorem dX3_digest_21 : decode cX3_digest 21 = .ok (.lstore_n 1, 1) := by decide +kernel
theorem dX3_digest_22 : decode cX3_digest 22 = .ok (.iinc 3 1, 3) := by decide +kernel
theorem dX3_digest_25 : decode cX3_digest 25 = .ok (.goto (-19), 3) := by decide +kernel
theorem dX3_digest_28 : decode cX3_digest 28 = .ok (.aload_n 0, 1) := by decide +kernel
theorem dX3_digest_29 : decode cX3_digest 29 = .ok (.lload_n 1, 1) := by decide +kernel
theorem dX3_digest_30 : decode cX3_digest 30 = .ok (.invokevirtual 241, 3) := by decide +kernel
theorem dX3_digest_33 : decode cX3_digest 33 = .ok (.lstore_n 1, 1) := by decide +kernel
theorem dX3_digest_34 : decode cX3_digest 34 = .ok (.aload_n 0, 1) := by decide +kernel
theorem dX3_digest_35 : decode cX3_digest 35 = .ok (.lload_n 1, 1) := by decide +kernel
theorem dX3_digest_36 : decode cX3_digest 36 = .ok (.invokevirtual 245, 3) := by decide +kernel
theorem dX3_digest_39 : decode cX3_digest 39 = .ok (.lstore_n 1, 1) := by decide +kernel
theorem dX3_digest_40 : decode cX3_digest 40 = .ok (.aload_n 0, 1) := by decide +kernel
theorem dX3_digest_41 : decode cX3_digest 41 = .ok (.lload_n 1, 1) := by decide +kernel
theorem dX3_digest_42 : decode cX3_digest 42 = .ok (.invokevirtual 248, 3) := by decide +kernel
theorem dX3_digest_45 : decode cX3_digest 45 = .ok (.lstore_n 1, 1) := by decide +kernel
theorem dX3_digest_46 : decode cX3_digest 46 = .ok (.aload_n 0, 1) := by decide +kernel
theorem dX3_digest_47 : decode cX3_digest 47 = .ok (.lload_n 1, 1) := by decide +kernel
theorem dX3_digest_48 : decode cX3_digest 48 = .ok (.invokevirtual 251, 3) := by decide +kernel
theorem dX3_digest_51 : decode cX3_digest 51 = .ok (.lreturn, 1) := by decide +kernel
theorem dX3_fold_0 : decode cX3_fold 0 = .ok (.ldc2_w 254, 3) := by decide +kernel
theorem dX3_fold_3 : decode cX3_fold 3 = .ok (.lload_n 0, 1) := by decide +kernel
theorem dX3_fold_4 : decode cX3_fold 4 = .ok (.lmul, 1) := by decide +kernel
theorem dX3_fold_5 : decode cX3_fold 5 = .ok (.iload_n 2, 1) := by decide +kernel
theorem dX3_fold_6 : decode cX3_fold 6 = .ok (.i2l, 1) := by decide +kernel
theorem dX3_fold_7 : decode cX3_fold 7 = .ok (.ladd, 1) := by decide +kernel
theorem dX3_fold_8 : decode cX3_fold 8 = .ok (.lreturn, 1) := by decide +kernel
set_option maxRecDepth 20000 in
theorem ggX3_foldBasins_X3_info : GoodIn wsX3_foldBasins wsX3_info := goodIn_r _ [7, 1, 8, 9, 10, 11, 12, 13, 14, 15, 6, 16, 2, 17, 18, 19, 20, 21, 22, 23, 24, 25, 26, 27, 28, 100, 101, 102, 103, 104, 105, 106, 107, 108, 109, 110, 111, 112, 113, 114, 115, 116, 117, 118, 119, 120, 121, 122, 123, 124, 125, 126] (by decide +kernel) (by decide +kernel)
set_option maxRecDepth 20000 in
theorem gX3_foldBasins_X3_info : GoodIn wsX3_foldBasins (wsV RX3 256 RX3 yX3_info wsX3_info) := goodIn_app (goodIn_of _ (by decide +kernel)) ggX3_foldBasins_X3_info
set_option maxRecDepth 20000 in
theorem ggX3_foldBasins_X3_fold : GoodIn wsX3_foldBasins wsX3_fold := goodIn_r _ [31, 32] (by decide +kernel) (by decide +kernel)
set_option maxRecDepth 20000 in
theorem gX3_foldBasins_X3_fold : GoodIn wsX3_foldBasins (va_wsS RX3 237 yX3_fold wsX3_fold) := goodIn_app (goodIn_of _ (by decide +kernel)) ggX3_foldBasins_X3_fold
set_option maxRecDepth 20000 in
theorem ggX3_foldBasins_X3_bestBottom : GoodIn wsX3_foldBasins wsX3_bestBottom := goodIn_r _ [36, 37, 38, 1, 8, 39, 40, 41, 20, 42, 43, 44, 45, 28, 22, 46, 47, 48, 49, 50, 51, 23, 52, 53, 54, 55, 56, 57, 58, 59, 60, 61, 62, 63, 64, 65, 66, 67, 68, 69, 70, 71, 72, 73, 25, 26, 27, 74, 18, 19, 21, 75, 76, 77, 78, 79, 80, 81, 82, 83, 84, 85, 86, 87, 88, 89, 6, 90, 100, 101, 102, 103, 104, 105, 106, 107, 108, 109, 110, 111, 112, 113, 114, 115, 116, 117, 118, 119, 120, 121, 122, 123, 124, 125, 126] (by decide +kernel) (by decide +kernel)
set_option maxRecDepth 20000 in
theorem gX3_foldBasins_X3_bestBottom : GoodIn wsX3_foldBasins (wsV RX3 185 RX3 yX3_bestBottom wsX3_bestBottom) := goodIn_app (goodIn_of _ (by decide +kernel)) ggX3_foldBasins_X3_bestBottom
set_option maxRecDepth 20000 in
theorem ggX3_foldBasins_X3_partOfChoice : GoodIn wsX3_foldBasins wsX3_partOfChoice := goodIn_r _ [93] (by decide +kernel) (by decide +kernel)
set_option maxRecDepth 20000 in
theorem gX3_foldBasins_X3_partOfChoice : GoodIn wsX3_foldBasins (va_wsS RX3 188 yX3_partOfChoice wsX3_partOfChoice) := goodIn_app (goodIn_of _ (by decide +kernel)) ggX3_foldBasins_X3_partOfChoice
set_option maxRecDepth 20000 in
theorem ggX3_foldBasins_X3_chamber : GoodIn wsX3_foldBasins wsX3_chamber := goodIn_r _ [97, 1, 98, 99, 100, 101, 102, 103, 104, 105, 106, 107, 108, 109, 110, 111, 112, 113, 114, 115, 116, 117, 118, 119, 120, 121, 122, 123, 124, 125, 126] (by decide +kernel) (by decide +kernel)
set_option maxRecDepth 20000 in
theorem gX3_foldBasins_X3_chamber : GoodIn wsX3_foldBasins (wsV RX3 259 RX3 yX3_chamber wsX3_chamber) := goodIn_app (goodIn_of _ (by decide +kernel)) ggX3_foldBasins_X3_chamber
theorem dX3_foldBasins_0 : decode cX3_foldBasins 0 = .ok (.lload_n 1, 1) := by decide +kernel
theorem dX3_foldBasins_1 : decode cX3_foldBasins 1 = .ok (.lstore_n 3, 1) := by decide +kernel
theorem dX3_foldBasins_2 : decode cX3_foldBasins 2 = .ok (.iconst 0, 1) := by decide +kernel
theorem dX3_foldBasins_3 : decode cX3_foldBasins 3 = .ok (.istore 5, 2) := by decide +kernel
theorem dX3_foldBasins_5 : decode cX3_foldBasins 5 = .ok (.iload 5, 2) := by decide +kernel
theorem dX3_foldBasins_7 : decode cX3_foldBasins 7 = .ok (.aload_n 0, 1) := by decide +kernel
theorem dX3_foldBasins_8 : decode cX3_foldBasins 8 = .ok (.getfield 10, 3) := by decide +kernel
theorem dX3_foldBasins_11 : decode cX3_foldBasins 11 = .ok (.getfield 48, 3) := by decide +kernel
theorem dX3_foldBasins_14 : decode cX3_foldBasins 14 = .ok (.if_icmp .ge 68, 3) := by decide +kernel
theorem dX3_foldBasins_17 : decode cX3_foldBasins 17 = .ok (.iconst 0, 1) := by decide +kernel
theorem dX3_foldBasins_18 : decode cX3_foldBasins 18 = .ok (.istore 6, 2) := by decide +kernel
theorem dX3_foldBasins_20 : decode cX3_foldBasins 20 = .ok (.iload 6, 2) := by decide +kernel
theorem dX3_foldBasins_22 : decode cX3_foldBasins 22 = .ok (.bipush 6, 2) := by decide +kernel
theorem dX3_foldBasins_24 : decode cX3_foldBasins 24 = .ok (.if_icmp .gt 22, 3) := by decide +kernel
theorem dX3_foldBasins_27 : decode cX3_foldBasins 27 = .ok (.lload_n 3, 1) := by decide +kernel
theorem dX3_foldBasins_28 : decode cX3_foldBasins 28 = .ok (.aload_n 0, 1) := by decide +kernel
theorem dX3_foldBasins_29 : decode cX3_foldBasins 29 = .ok (.iload 5, 2) := by decide +kernel
theorem dX3_foldBasins_31 : decode cX3_foldBasins 31 = .ok (.iload 6, 2) := by decide +kernel
theorem dX3_foldBasins_33 : decode cX3_foldBasins 33 = .ok (.invokevirtual 256, 3) := by decide +kernel
theorem dX3_foldBasins_36 : decode cX3_foldBasins 36 = .ok (.invokestatic 237, 3) := by decide +kernel
theorem dX3_foldBasins_39 : decode cX3_foldBasins 39 = .ok (.lstore_n 3, 1) := by decide +kernel
theorem dX3_foldBasins_40 : decode cX3_foldBasins 40 = .ok (.iinc 6 1, 3) := by decide +kernel
theorem dX3_foldBasins_43 : decode cX3_foldBasins 43 = .ok (.goto (-23), 3) := by decide +kernel
theorem dX3_foldBasins_46 : decode cX3_foldBasins 46 = .ok (.aload_n 0, 1) := by decide +kernel
theorem dX3_foldBasins_47 : decode cX3_foldBasins 47 = .ok (.iload 5, 2) := by decide +kernel
theorem dX3_foldBasins_49 : decode cX3_foldBasins 49 = .ok (.invokevirtual 185, 3) := by decide +kernel
theorem dX3_foldBasins_52 : decode cX3_foldBasins 52 = .ok (.istore 6, 2) := by decide +kernel
theorem dX3_foldBasins_54 : decode cX3_foldBasins 54 = .ok (.lload_n 3, 1) := by decide +kernel
theorem dX3_foldBasins_55 : decode cX3_foldBasins 55 = .ok (.iload 6, 2) := by decide +kernel
theorem dX3_foldBasins_57 : decode cX3_foldBasins 57 = .ok (.iconst 0, 1) := by decide +kernel
theorem dX3_foldBasins_58 : decode cX3_foldBasins 58 = .ok (.invokestatic 188, 3) := by decide +kernel
theorem dX3_foldBasins_61 : decode cX3_foldBasins 61 = .ok (.invokestatic 237, 3) := by decide +kernel
theorem dX3_foldBasins_64 : decode cX3_foldBasins 64 = .ok (.lstore_n 3, 1) := by decide +kernel
theorem dX3_foldBasins_65 : decode cX3_foldBasins 65 = .ok (.lload_n 3, 1) := by decide +kernel
theorem dX3_foldBasins_66 : decode cX3_foldBasins 66 = .ok (.iload 6, 2) := by decide +kernel
theorem dX3_foldBasins_68 : decode cX3_foldBasins 68 = .ok (.iconst 1, 1) := by decide +kernel
theorem dX3_foldBasins_69 : decode cX3_foldBasins 69 = .ok (.invokestatic 188, 3) := by decide +kernel
theorem dX3_foldBasins_72 : decode cX3_foldBasins 72 = .ok (.invokestatic 237, 3) := by decide +kernel
theorem dX3_foldBasins_75 : decode cX3_foldBasins 75 = .ok (.lstore_n 3, 1) := by decide +kernel
theorem dX3_foldBasins_76 : decode cX3_foldBasins 76 = .ok (.iinc 5 1, 3) := by decide +kernel
theorem dX3_foldBasins_79 : decode cX3_foldBasins 79 = .ok (.goto (-74), 3) := by decide +kernel
theorem dX3_foldBasins_82 : decode cX3_foldBasins 82 = .ok (.iconst 0, 1) := by decide +kernel
theorem dX3_foldBasins_83 : decode cX3_foldBasins 83 = .ok (.istore 5, 2) := by decide +kernel
theorem dX3_foldBasins_85 : decode cX3_foldBasins 85 = .ok (.iload 5, 2) := by decide +kernel
theorem dX3_foldBasins_87 : decode cX3_foldBasins 87 = .ok (.iconst 2, 1) := by decide +kernel
theorem dX3_foldBasins_88 : decode cX3_foldBasins 88 = .ok (.if_icmp .gt 20, 3) := by decide +kernel
theorem dX3_foldBasins_91 : decode cX3_foldBasins 91 = .ok (.lload_n 3, 1) := by decide +kernel
theorem dX3_foldBasins_92 : decode cX3_foldBasins 92 = .ok (.aload_n 0, 1) := by decide +kernel
theorem dX3_foldBasins_93 : decode cX3_foldBasins 93 = .ok (.iload 5, 2) := by decide +kernel
theorem dX3_foldBasins_95 : decode cX3_foldBasins 95 = .ok (.invokevirtual 259, 3) := by decide +kernel
theorem dX3_foldBasins_98 : decode cX3_foldBasins 98 = .ok (.invokestatic 237, 3) := by decide +kernel
theorem dX3_foldBasins_101 : decode cX3_foldBasins 101 = .ok (.lstore_n 3, 1) := by decide +kernel
theorem dX3_foldBasins_102 : decode cX3_foldBasins 102 = .ok (.iinc 5 1, 3) := by decide +kernel
theorem dX3_foldBasins_105 : decode cX3_foldBasins 105 = .ok (.goto (-20), 3) := by decide +kernel
theorem dX3_foldBasins_108 : decode cX3_foldBasins 108 = .ok (.lload_n 3, 1) := by decide +kernel
theorem dX3_foldBasins_109 : decode cX3_foldBasins 109 = .ok (.lreturn, 1) := by decide +kernel
set_option maxRecDepth 20000 in
theorem ggX3_foldBoats_X3_waits : GoodIn wsX3_foldBoats wsX3_waits := goodIn_r _ [5, 6, 7, 8, 9, 4, 10, 11, 12, 13, 14, 15, 16, 17, 41, 42, 43, 44, 45, 46, 47, 48, 49, 50, 51, 52, 53, 54, 55] (by decide +kernel) (by decide +kernel)
set_option maxRecDepth 20000 in
theorem gX3_foldBoats_X3_waits : GoodIn wsX3_foldBoats (wsV RX3 262 RX3 yX3_waits wsX3_waits) := goodIn_app (goodIn_of _ (by decide +kernel)) ggX3_foldBoats_X3_waits
set_option maxRecDepth 20000 in
theorem ggX3_foldBoats_X3_fold : GoodIn wsX3_foldBoats wsX3_fold := goodIn_r _ [20, 21] (by decide +kernel) (by decide +kernel)
set_option maxRecDepth 20000 in
theorem gX3_foldBoats_X3_fold : GoodIn wsX3_foldBoats (va_wsS RX3 237 yX3_fold wsX3_fold) := goodIn_app (goodIn_of _ (by decide +kernel)) ggX3_foldBoats_X3_fold
set_option maxRecDepth 20000 in
theorem ggX3_foldBoats_X3_next : GoodIn wsX3_foldBoats wsX3_next := goodIn_r _ [25, 6, 26, 27, 28, 4, 29, 30, 11, 12, 13, 14, 15, 16, 17, 31, 32, 33, 34, 35, 36, 37, 38, 39, 40, 41, 42, 43, 44, 45, 46, 47, 48, 49, 50, 51, 52, 53, 54, 55, 56, 57, 58, 59, 60, 61, 62, 63, 64, 65, 66, 67, 68, 69] (by decide +kernel) (by decide +kernel)
set_option maxRecDepth 20000 in
theorem gX3_foldBoats_X3_next : GoodIn wsX3_foldBoats (wsV RX3 265 RX3 yX3_next wsX3_next) := goodIn_app (goodIn_of _ (by decide +kernel)) ggX3_foldBoats_X3_next
theorem dX3_foldBoats_0 : decode cX3_foldBoats 0 = .ok (.lload_n 1, 1) := by decide +kernel
theorem dX3_foldBoats_1 : decode cX3_foldBoats 1 = .ok (.lstore_n 3, 1) := by decide +kernel
theorem dX3_foldBoats_2 : decode cX3_foldBoats 2 = .ok (.iconst 0, 1) := by decide +kernel
theorem dX3_foldBoats_3 : decode cX3_foldBoats 3 = .ok (.istore 5, 2) := by decide +kernel
theorem dX3_foldBoats_5 : decode cX3_foldBoats 5 = .ok (.iload 5, 2) := by decide +kernel
theorem dX3_foldBoats_7 : decode cX3_foldBoats 7 = .ok (.iconst 1, 1) := by decide +kernel
theorem dX3_foldBoats_8 : decode cX3_foldBoats 8 = .ok (.if_icmp .gt 45, 3) := by decide +kernel
theorem dX3_foldBoats_11 : decode cX3_foldBoats 11 = .ok (.lload_n 3, 1) := by decide +kernel
theorem dX3_foldBoats_12 : decode cX3_foldBoats 12 = .ok (.aload_n 0, 1) := by decide +kernel
theorem dX3_foldBoats_13 : decode cX3_foldBoats 13 = .ok (.iload 5, 2) := by decide +kernel
theorem dX3_foldBoats_15 : decode cX3_foldBoats 15 = .ok (.iconst (-1), 1) := by decide +kernel
theorem dX3_foldBoats_16 : decode cX3_foldBoats 16 = .ok (.invokevirtual 262, 3) := by decide +kernel
theorem dX3_foldBoats_19 : decode cX3_foldBoats 19 = .ok (.invokestatic 237, 3) := by decide +kernel
theorem dX3_foldBoats_22 : decode cX3_foldBoats 22 = .ok (.lstore_n 3, 1) := by decide +kernel
theorem dX3_foldBoats_23 : decode cX3_foldBoats 23 = .ok (.lload_n 3, 1) := by decide +kernel
theorem dX3_foldBoats_24 : decode cX3_foldBoats 24 = .ok (.aload_n 0, 1) := by decide +kernel
theorem dX3_foldBoats_25 : decode cX3_foldBoats 25 = .ok (.iload 5, 2) := by decide +kernel
theorem dX3_foldBoats_27 : decode cX3_foldBoats 27 = .ok (.iconst 0, 1) := by decide +kernel
theorem dX3_foldBoats_28 : decode cX3_foldBoats 28 = .ok (.invokevirtual 262, 3) := by decide +kernel
theorem dX3_foldBoats_31 : decode cX3_foldBoats 31 = .ok (.invokestatic 237, 3) := by decide +kernel
theorem dX3_foldBoats_34 : decode cX3_foldBoats 34 = .ok (.lstore_n 3, 1) := by decide +kernel
theorem dX3_foldBoats_35 : decode cX3_foldBoats 35 = .ok (.lload_n 3, 1) := by decide +kernel
theorem dX3_foldBoats_36 : decode cX3_foldBoats 36 = .ok (.aload_n 0, 1) := by decide +kernel
theorem dX3_foldBoats_37 : decode cX3_foldBoats 37 = .ok (.iload 5, 2) := by decide +kernel
theorem dX3_foldBoats_39 : decode cX3_foldBoats 39 = .ok (.iconst 3, 1) := by decide +kernel
theorem dX3_foldBoats_40 : decode cX3_foldBoats 40 = .ok (.invokevirtual 262, 3) := by decide +kernel
theorem dX3_foldBoats_43 : decode cX3_foldBoats 43 = .ok (.invokestatic 237, 3) := by decide +kernel
theorem dX3_foldBoats_46 : decode cX3_foldBoats 46 = .ok (.lstore_n 3, 1) := by decide +kernel
theorem dX3_foldBoats_47 : decode cX3_foldBoats 47 = .ok (.iinc 5 1, 3) := by decide +kernel
theorem dX3_foldBoats_50 : decode cX3_foldBoats 50 = .ok (.goto (-45), 3) := by decide +kernel
theorem dX3_foldBoats_53 : decode cX3_foldBoats 53 = .ok (.lload_n 3, 1) := by decide +kernel
theorem dX3_foldBoats_54 : decode cX3_foldBoats 54 = .ok (.aload_n 0, 1) := by decide +kernel
theorem dX3_foldBoats_55 : decode cX3_foldBoats 55 = .ok (.iconst 0, 1) := by decide +kernel
theorem dX3_foldBoats_56 : decode cX3_foldBoats 56 = .ok (.invokevirtual 265, 3) := by decide +kernel
theorem dX3_foldBoats_59 : decode cX3_foldBoats 59 = .ok (.invokestatic 237, 3) := by decide +kernel
theorem dX3_foldBoats_62 : decode cX3_foldBoats 62 = .ok (.lstore_n 3, 1) := by decide +kernel
theorem dX3_foldBoats_63 : decode cX3_foldBoats 63 = .ok (.lload_n 3, 1) := by decide +kernel
theorem dX3_foldBoats_64 : decode cX3_foldBoats 64 = .ok (.aload_n 0, 1) := by decide +kernel
theorem dX3_foldBoats_65 : decode cX3_foldBoats 65 = .ok (.iconst 1, 1) := by decide +kernel
theorem dX3_foldBoats_66 : decode cX3_foldBoats 66 = .ok (.invokevirtual 265, 3) := by decide +kernel
theorem dX3_foldBoats_69 : decode cX3_foldBoats 69 = .ok (.invokestatic 237, 3) := by decide +kernel
theorem dX3_foldBoats_72 : decode cX3_foldBoats 72 = .ok (.lreturn, 1) := by decide +kernel
set_option maxRecDepth 20000 in
theorem ggX3_foldTurns_X3_ledger : GoodIn wsX3_foldTurns wsX3_ledger := goodIn_r _ [6, 1, 7, 28, 29, 30, 31, 32, 33, 34, 35, 36, 37, 38, 39, 40] (by decide +kernel) (by decide +kernel)
set_option maxRecDepth 20000 in
theorem gX3_foldTurns_X3_ledger : GoodIn wsX3_foldTurns (wsV RX3 268 RX3 yX3_ledger wsX3_ledger) := goodIn_app (goodIn_of _ (by decide +kernel)) ggX3_foldTurns_X3_ledger
set_option maxRecDepth 20000 in
theorem ggX3_foldTurns_X3_fold : GoodIn wsX3_foldTurns wsX3_fold := goodIn_r _ [10, 11] (by decide +kernel) (by decide +kernel)
set_option maxRecDepth 20000 in
theorem gX3_foldTurns_X3_fold : GoodIn wsX3_foldTurns (va_wsS RX3 237 yX3_fold wsX3_fold) := goodIn_app (goodIn_of _ (by decide +kernel)) ggX3_foldTurns_X3_fold
set_option maxRecDepth 20000 in
theorem ggX3_foldTurns_X3_total : GoodIn wsX3_foldTurns wsX3_total := goodIn_r _ [15, 16, 17, 18, 19, 20, 21, 22, 23, 24, 25, 26, 27, 28, 29, 30, 31, 32, 33, 34, 35, 36, 37, 38, 39, 40, 41, 42, 43, 44, 45, 46, 47, 48, 49, 50, 51, 52, 53, 54] (by decide +kernel) (by decide +kernel)
set_option maxRecDepth 20000 in
theorem gX3_foldTurns_X3_total : GoodIn wsX3_foldTurns (wsV RX3 271 RX3 yX3_total wsX3_total) := goodIn_app (goodIn_of _ (by decide +kernel)) ggX3_foldTurns_X3_total
theorem dX3_foldTurns_0 : decode cX3_foldTurns 0 = .ok (.lload_n 1, 1) := by decide +kernel
theorem dX3_foldTurns_1 : decode cX3_foldTurns 1 = .ok (.lstore_n 3, 1) := by decide +kernel
theorem dX3_foldTurns_2 : decode cX3_foldTurns 2 = .ok (.iconst 0, 1) := by decide +kernel
theorem dX3_foldTurns_3 : decode cX3_foldTurns 3 = .ok (.istore 5, 2) := by decide +kernel
theorem dX3_foldTurns_5 : decode cX3_foldTurns 5 = .ok (.iload 5, 2) := by decide +kernel
theorem dX3_foldTurns_7 : decode cX3_foldTurns 7 = .ok (.aload_n 0, 1) := by decide +kernel
theorem dX3_foldTurns_8 : decode cX3_foldTurns 8 = .ok (.getfield 131, 3) := by decide +kernel
theorem dX3_foldTurns_11 : decode cX3_foldTurns 11 = .ok (.if_icmp .ge 38, 3) := by decide +kernel
theorem dX3_foldTurns_14 : decode cX3_foldTurns 14 = .ok (.iconst 0, 1) := by decide +kernel
theorem dX3_foldTurns_15 : decode cX3_foldTurns 15 = .ok (.istore 6, 2) := by decide +kernel
theorem dX3_foldTurns_17 : decode cX3_foldTurns 17 = .ok (.iload 6, 2) := by decide +kernel
theorem dX3_foldTurns_19 : decode cX3_foldTurns 19 = .ok (.bipush 9, 2) := by decide +kernel
theorem dX3_foldTurns_21 : decode cX3_foldTurns 21 = .ok (.if_icmp .ge 22, 3) := by decide +kernel
theorem dX3_foldTurns_24 : decode cX3_foldTurns 24 = .ok (.lload_n 3, 1) := by decide +kernel
theorem dX3_foldTurns_25 : decode cX3_foldTurns 25 = .ok (.aload_n 0, 1) := by decide +kernel
theorem dX3_foldTurns_26 : decode cX3_foldTurns 26 = .ok (.iload 5, 2) := by decide +kernel
theorem dX3_foldTurns_28 : decode cX3_foldTurns 28 = .ok (.iload 6, 2) := by decide +kernel
theorem dX3_foldTurns_30 : decode cX3_foldTurns 30 = .ok (.invokevirtual 268, 3) := by decide +kernel
theorem dX3_foldTurns_33 : decode cX3_foldTurns 33 = .ok (.invokestatic 237, 3) := by decide +kernel
theorem dX3_foldTurns_36 : decode cX3_foldTurns 36 = .ok (.lstore_n 3, 1) := by decide +kernel
theorem dX3_foldTurns_37 : decode cX3_foldTurns 37 = .ok (.iinc 6 1, 3) := by decide +kernel
theorem dX3_foldTurns_40 : decode cX3_foldTurns 40 = .ok (.goto (-23), 3) := by decide +kernel
theorem dX3_foldTurns_43 : decode cX3_foldTurns 43 = .ok (.iinc 5 1, 3) := by decide +kernel
theorem dX3_foldTurns_46 : decode cX3_foldTurns 46 = .ok (.goto (-41), 3) := by decide +kernel
theorem dX3_foldTurns_49 : decode cX3_foldTurns 49 = .ok (.iconst 0, 1) := by decide +kernel
theorem dX3_foldTurns_50 : decode cX3_foldTurns 50 = .ok (.istore 5, 2) := by decide +kernel
theorem dX3_foldTurns_52 : decode cX3_foldTurns 52 = .ok (.iload 5, 2) := by decide +kernel
theorem dX3_foldTurns_54 : decode cX3_foldTurns 54 = .ok (.iconst 4, 1) := by decide +kernel
theorem dX3_foldTurns_55 : decode cX3_foldTurns 55 = .ok (.if_icmp .gt 20, 3) := by decide +kernel
theorem dX3_foldTurns_58 : decode cX3_foldTurns 58 = .ok (.lload_n 3, 1) := by decide +kernel
theorem dX3_foldTurns_59 : decode cX3_foldTurns 59 = .ok (.aload_n 0, 1) := by decide +kernel
theorem dX3_foldTurns_60 : decode cX3_foldTurns 60 = .ok (.iload 5, 2) := by decide +kernel
theorem dX3_foldTurns_62 : decode cX3_foldTurns 62 = .ok (.invokevirtual 271, 3) := by decide +kernel
theorem dX3_foldTurns_65 : decode cX3_foldTurns 65 = .ok (.invokestatic 237, 3) := by decide +kernel
theorem dX3_foldTurns_68 : decode cX3_foldTurns 68 = .ok (.lstore_n 3, 1) := by decide +kernel
theorem dX3_foldTurns_69 : decode cX3_foldTurns 69 = .ok (.iinc 5 1, 3) := by decide +kernel
theorem dX3_foldTurns_72 : decode cX3_foldTurns 72 = .ok (.goto (-20), 3) := by decide +kernel
theorem dX3_foldTurns_75 : decode cX3_foldTurns 75 = .ok (.lload_n 3, 1) := by decide +kernel
theorem dX3_foldTurns_76 : decode cX3_foldTurns 76 = .ok (.lreturn, 1) := by decide +kernel
set_option maxRecDepth 20000 in
theorem ggX3_foldWhatWouldBe_X3_fold : GoodIn wsX3_foldWhatWouldBe wsX3_fold := goodIn_r _ [8, 9] (by decide +kernel) (by decide +kernel)
set_option maxRecDepth 20000 in
theorem gX3_foldWhatWouldBe_X3_fold : GoodIn wsX3_foldWhatWouldBe (va_wsS RX3 237 yX3_fold wsX3_fold) := goodIn_app (goodIn_of _ (by decide +kernel)) ggX3_foldWhatWouldBe_X3_fold
set_option maxRecDepth 20000 in
theorem ggX3_foldWhatWouldBe_X3_tryTurn : GoodIn wsX3_foldWhatWouldBe wsX3_tryTurn := goodIn_r _ [13, 3, 1, 14, 15, 16, 17, 18, 19, 20, 21, 22, 23, 24, 25, 26, 27, 28, 29, 30, 31, 32, 33, 34, 35, 36, 37, 38, 39, 40, 41, 42, 43, 44, 45, 46, 47, 48, 49, 50, 51, 52, 53, 54, 55, 56, 57, 58, 59, 60, 61, 62, 63, 64, 65, 66, 67, 68, 92, 93, 94, 95, 96, 97, 98, 99, 100, 101, 102, 103, 104, 105, 106, 107, 108, 109, 110, 111, 112, 113, 114, 115, 116, 117, 118] (by decide +kernel) (by decide +kernel)
set_option maxRecDepth 20000 in
theorem gX3_foldWhatWouldBe_X3_tryTurn : GoodIn wsX3_foldWhatWouldBe (wsV RX3 171 RX3 yX3_tryTurn wsX3_tryTurn) := goodIn_app (goodIn_of _ (by decide +kernel)) ggX3_foldWhatWouldBe_X3_tryTurn
set_option maxRecDepth 20000 in
theorem ggX3_foldWhatWouldBe_X3_ahead : GoodIn wsX3_foldWhatWouldBe wsX3_ahead := goodIn_r _ [72, 3, 1, 73, 14, 15, 16, 17, 18, 19, 20, 21, 22, 23, 24, 25, 26, 27, 28, 29, 30, 31, 32, 74, 75, 76, 77, 38, 78, 34, 35, 36, 37, 39, 40, 41, 42, 43, 44, 45, 46, 47, 48, 49, 50, 51, 52, 53, 54, 55, 56, 57, 58, 59, 60, 61, 62, 63, 64, 65, 66, 67, 68, 92, 93, 94, 95, 96, 97, 98, 99, 100, 101, 102, 103, 104, 105, 106, 107, 108, 109, 110, 111, 112, 113, 114, 115, 116, 117, 118] (by decide +kernel) (by decide +kernel)
set_option maxRecDepth 20000 in
theorem gX3_foldWhatWouldBe_X3_ahead : GoodIn wsX3_foldWhatWouldBe (wsV RX3 274 RX3 yX3_ahead wsX3_ahead) := goodIn_app (goodIn_of _ (by decide +kernel)) ggX3_foldWhatWouldBe_X3_ahead
set_option maxRecDepth 20000 in
theorem ggX3_foldWhatWouldBe_X3_leastNeeded : GoodIn wsX3_foldWhatWouldBe wsX3_leastNeeded := goodIn_r _ [82, 73, 1, 83, 3, 84, 85, 49, 50, 17, 51, 22, 14, 15, 16, 18, 19, 20, 21, 23, 24, 25, 26, 27, 28, 29, 30, 31, 32, 74, 75, 76, 77, 38, 78, 34, 35, 36, 37, 39, 40, 41, 42, 43, 44, 45, 46, 47, 48, 52, 53, 54, 55, 56, 57, 58, 59, 60, 61, 62, 63, 64, 65, 66, 67, 68, 86, 87, 7, 88, 92, 93, 94, 95, 96, 97, 98, 99, 100, 101, 102, 103, 104, 105, 106, 107, 108, 109, 110, 111, 112, 113, 114, 115, 116, 117, 118] (by decide +kernel) (by decide +kernel)
set_option maxRecDepth 20000 in
theorem gX3_foldWhatWouldBe_X3_leastNeeded : GoodIn wsX3_foldWhatWouldBe (wsV RX3 191 RX3 yX3_leastNeeded wsX3_leastNeeded) := goodIn_app (goodIn_of _ (by decide +kernel)) ggX3_foldWhatWouldBe_X3_leastNeeded
set_option maxRecDepth 20000 in
theorem ggX3_foldWhatWouldBe_X3_partOfChoice : GoodIn wsX3_foldWhatWouldBe wsX3_partOfChoice := goodIn_r _ [91] (by decide +kernel) (by decide +kernel)
set_option maxRecDepth 20000 in
theorem gX3_foldWhatWouldBe_X3_partOfChoice : GoodIn wsX3_foldWhatWouldBe (va_wsS RX3 188 yX3_partOfChoice wsX3_partOfChoice) := goodIn_app (goodIn_of _ (by decide +kernel)) ggX3_foldWhatWouldBe_X3_partOfChoice
theorem dX3_foldWhatWouldBe_0 : decode cX3_foldWhatWouldBe 0 = .ok (.lload_n 1, 1) := by decide +kernel
theorem dX3_foldWhatWouldBe_1 : decode cX3_foldWhatWouldBe 1 = .ok (.aload_n 0, 1) := by decide +kernel
theorem dX3_foldWhatWouldBe_2 : decode cX3_foldWhatWouldBe 2 = .ok (.getfield 10, 3) := by decide +kernel
theorem dX3_foldWhatWouldBe_5 : decode cX3_foldWhatWouldBe 5 = .ok (.getfield 41, 3) := by decide +kernel
theorem dX3_foldWhatWouldBe_8 : decode cX3_foldWhatWouldBe 8 = .ok (.invokestatic 237, 3) := by decide +kernel
theorem dX3_foldWhatWouldBe_11 : decode cX3_foldWhatWouldBe 11 = .ok (.lstore_n 3, 1) := by decide +kernel
theorem dX3_foldWhatWouldBe_12 : decode cX3_foldWhatWouldBe 12 = .ok (.aload_n 0, 1) := by decide +kernel
theorem dX3_foldWhatWouldBe_13 : decode cX3_foldWhatWouldBe 13 = .ok (.invokevirtual 171, 3) := by decide +kernel
theorem dX3_foldWhatWouldBe_16 : decode cX3_foldWhatWouldBe 16 = .ok (.iconst 0, 1) := by decide +kernel
theorem dX3_foldWhatWouldBe_17 : decode cX3_foldWhatWouldBe 17 = .ok (.istore 5, 2) := by decide +kernel
theorem dX3_foldWhatWouldBe_19 : decode cX3_foldWhatWouldBe 19 = .ok (.iload 5, 2) := by decide +kernel
theorem dX3_foldWhatWouldBe_21 : decode cX3_foldWhatWouldBe 21 = .ok (.bipush 40, 2) := by decide +kernel
theorem dX3_foldWhatWouldBe_23 : decode cX3_foldWhatWouldBe 23 = .ok (.if_icmp .gt 40, 3) := by decide +kernel
theorem dX3_foldWhatWouldBe_26 : decode cX3_foldWhatWouldBe 26 = .ok (.lload_n 3, 1) := by decide +kernel
theorem dX3_foldWhatWouldBe_27 : decode cX3_foldWhatWouldBe 27 = .ok (.iload 5, 2) := by decide +kernel
theorem dX3_foldWhatWouldBe_29 : decode cX3_foldWhatWouldBe 29 = .ok (.aload_n 0, 1) := by decide +kernel
theorem dX3_foldWhatWouldBe_30 : decode cX3_foldWhatWouldBe 30 = .ok (.getfield 10, 3) := by decide +kernel
theorem dX3_foldWhatWouldBe_33 : decode cX3_foldWhatWouldBe 33 = .ok (.getfield 41, 3) := by decide +kernel
theorem dX3_foldWhatWouldBe_36 : decode cX3_foldWhatWouldBe 36 = .ok (.if_icmp .ge 16, 3) := by decide +kernel
theorem dX3_foldWhatWouldBe_39 : decode cX3_foldWhatWouldBe 39 = .ok (.aload_n 0, 1) := by decide +kernel
theorem dX3_foldWhatWouldBe_40 : decode cX3_foldWhatWouldBe 40 = .ok (.getfield 16, 3) := by decide +kernel
theorem dX3_foldWhatWouldBe_43 : decode cX3_foldWhatWouldBe 43 = .ok (.getfield 174, 3) := by decide +kernel
theorem dX3_foldWhatWouldBe_46 : decode cX3_foldWhatWouldBe 46 = .ok (.iload 5, 2) := by decide +kernel
theorem dX3_foldWhatWouldBe_48 : decode cX3_foldWhatWouldBe 48 = .ok (.iaload, 1) := by decide +kernel
theorem dX3_foldWhatWouldBe_49 : decode cX3_foldWhatWouldBe 49 = .ok (.goto 4, 3) := by decide +kernel
theorem dX3_foldWhatWouldBe_52 : decode cX3_foldWhatWouldBe 52 = .ok (.iconst (-1), 1) := by decide +kernel
theorem dX3_foldWhatWouldBe_53 : decode cX3_foldWhatWouldBe 53 = .ok (.invokestatic 237, 3) := by decide +kernel
theorem dX3_foldWhatWouldBe_56 : decode cX3_foldWhatWouldBe 56 = .ok (.lstore_n 3, 1) := by decide +kernel
theorem dX3_foldWhatWouldBe_57 : decode cX3_foldWhatWouldBe 57 = .ok (.iinc 5 1, 3) := by decide +kernel
theorem dX3_foldWhatWouldBe_60 : decode cX3_foldWhatWouldBe 60 = .ok (.goto (-41), 3) := by decide +kernel
theorem dX3_foldWhatWouldBe_63 : decode cX3_foldWhatWouldBe 63 = .ok (.lload_n 3, 1) := by decide +kernel
theorem dX3_foldWhatWouldBe_64 : decode cX3_foldWhatWouldBe 64 = .ok (.aload_n 0, 1) := by decide +kernel
theorem dX3_foldWhatWouldBe_65 : decode cX3_foldWhatWouldBe 65 = .ok (.iconst 1, 1) := by decide +kernel
theorem dX3_foldWhatWouldBe_66 : decode cX3_foldWhatWouldBe 66 = .ok (.invokevirtual 274, 3) := by decide +kernel
theorem dX3_foldWhatWouldBe_69 : decode cX3_foldWhatWouldBe 69 = .ok (.invokestatic 237, 3) := by decide +kernel
theorem dX3_foldWhatWouldBe_72 : decode cX3_foldWhatWouldBe 72 = .ok (.lstore_n 3, 1) := by decide +kernel
theorem dX3_foldWhatWouldBe_73 : decode cX3_foldWhatWouldBe 73 = .ok (.lload_n 3, 1) := by decide +kernel
theorem dX3_foldWhatWouldBe_74 : decode cX3_foldWhatWouldBe 74 = .ok (.aload_n 0, 1) := by decide +kernel
theorem dX3_foldWhatWouldBe_75 : decode cX3_foldWhatWouldBe 75 = .ok (.iconst 2, 1) := by decide +kernel
theorem dX3_foldWhatWouldBe_76 : decode cX3_foldWhatWouldBe 76 = .ok (.invokevirtual 274, 3) := by decide +kernel
theorem dX3_foldWhatWouldBe_79 : decode cX3_foldWhatWouldBe 79 = .ok (.invokestatic 237, 3) := by decide +kernel
theorem dX3_foldWhatWouldBe_82 : decode cX3_foldWhatWouldBe 82 = .ok (.lstore_n 3, 1) := by decide +kernel
theorem dX3_foldWhatWouldBe_83 : decode cX3_foldWhatWouldBe 83 = .ok (.lload_n 3, 1) := by decide +kernel
theorem dX3_foldWhatWouldBe_84 : decode cX3_foldWhatWouldBe 84 = .ok (.aload_n 0, 1) := by decide +kernel
theorem dX3_foldWhatWouldBe_85 : decode cX3_foldWhatWouldBe 85 = .ok (.bipush 10, 2) := by decide +kernel
theorem dX3_foldWhatWouldBe_87 : decode cX3_foldWhatWouldBe 87 = .ok (.invokevirtual 274, 3) := by decide +kernel
theorem dX3_foldWhatWouldBe_90 : decode cX3_foldWhatWouldBe 90 = .ok (.invokestatic 237, 3) := by decide +kernel
theorem dX3_foldWhatWouldBe_93 : decode cX3_foldWhatWouldBe 93 = .ok (.lstore_n 3, 1) := by decide +kernel
theorem dX3_foldWhatWouldBe_94 : decode cX3_foldWhatWouldBe 94 = .ok (.aload_n 0, 1) := by decide +kernel
theorem dX3_foldWhatWouldBe_95 : decode cX3_foldWhatWouldBe 95 = .ok (.invokevirtual 191, 3) := by decide +kernel
theorem dX3_foldWhatWouldBe_98 : decode cX3_foldWhatWouldBe 98 = .ok (.istore 5, 2) := by decide +kernel
theorem dX3_foldWhatWouldBe_100 : decode cX3_foldWhatWouldBe 100 = .ok (.lload_n 3, 1) := by decide +kernel
theorem dX3_foldWhatWouldBe_101 : decode cX3_foldWhatWouldBe 101 = .ok (.iload 5, 2) := by decide +kernel
theorem dX3_foldWhatWouldBe_103 : decode cX3_foldWhatWouldBe 103 = .ok (.iconst 0, 1) := by decide +kernel
theorem dX3_foldWhatWouldBe_104 : decode cX3_foldWhatWouldBe 104 = .ok (.invokestatic 188, 3) := by decide +kernel
theorem dX3_foldWhatWouldBe_107 : decode cX3_foldWhatWouldBe 107 = .ok (.invokestatic 237, 3) := by decide +kernel
theorem dX3_foldWhatWouldBe_110 : decode cX3_foldWhatWouldBe 110 = .ok (.lstore_n 3, 1) := by decide +kernel
theorem dX3_foldWhatWouldBe_111 : decode cX3_foldWhatWouldBe 111 = .ok (.lload_n 3, 1) := by decide +kernel
theorem dX3_foldWhatWouldBe_112 : decode cX3_foldWhatWouldBe 112 = .ok (.iload 5, 2) := by decide +kernel
theorem dX3_foldWhatWouldBe_114 : decode cX3_foldWhatWouldBe 114 = .ok (.iconst 1, 1) := by decide +kernel
theorem dX3_foldWhatWouldBe_115 : decode cX3_foldWhatWouldBe 115 = .ok (.invokestatic 188, 3) := by decide +kernel
theorem dX3_foldWhatWouldBe_118 : decode cX3_foldWhatWouldBe 118 = .ok (.invokestatic 237, 3) := by decide +kernel
theorem dX3_foldWhatWouldBe_121 : decode cX3_foldWhatWouldBe 121 = .ok (.lreturn, 1) := by decide +kernel
theorem dX3_isSheet_0 : decode cX3_isSheet 0 = .ok (.iload_n 0, 1) := by decide +kernel
theorem dX3_isSheet_1 : decode cX3_isSheet 1 = .ok (.ifCond .lt 12, 3) := by decide +kernel
theorem dX3_isSheet_4 : decode cX3_isSheet 4 = .ok (.iload_n 0, 1) := by decide +kernel
theorem dX3_isSheet_5 : decode cX3_isSheet 5 = .ok (.iconst 4, 1) := by decide +kernel
theorem dX3_isSheet_6 : decode cX3_isSheet 6 = .ok (.if_icmp .ge 7, 3) := by decide +kernel
theorem dX3_isSheet_9 : decode cX3_isSheet 9 = .ok (.iconst 1, 1) := by decide +kernel
theorem dX3_isSheet_10 : decode cX3_isSheet 10 = .ok (.goto 4, 3) := by decide +kernel
theorem dX3_isSheet_13 : decode cX3_isSheet 13 = .ok (.iconst 0, 1) := by decide +kernel
theorem dX3_isSheet_14 : decode cX3_isSheet 14 = .ok (.ireturn, 1) := by decide +kernel
theorem dX3_isForm_0 : decode cX3_isForm 0 = .ok (.iload_n 0, 1) := by decide +kernel
theorem dX3_isForm_1 : decode cX3_isForm 1 = .ok (.ifCond .lt 12, 3) := by decide +kernel
theorem dX3_isForm_4 : decode cX3_isForm 4 = .ok (.iload_n 0, 1) := by decide +kernel
theorem dX3_isForm_5 : decode cX3_isForm 5 = .ok (.iconst 3, 1) := by decide +kernel
theorem dX3_isForm_6 : decode cX3_isForm 6 = .ok (.if_icmp .ge 7, 3) := by decide +kernel
theorem dX3_isForm_9 : decode cX3_isForm 9 = .ok (.iconst 1, 1) := by decide +kernel
theorem dX3_isForm_10 : decode cX3_isForm 10 = .ok (.goto 4, 3) := by decide +kernel
theorem dX3_isForm_13 : decode cX3_isForm 13 = .ok (.iconst 0, 1) := by decide +kernel
theorem dX3_isForm_14 : decode cX3_isForm 14 = .ok (.ireturn, 1) := by decide +kernel
theorem dX3_found_0 : decode cX3_found 0 = .ok (.aload_n 0, 1) := by decide +kernel
theorem dX3_found_1 : decode cX3_found 1 = .ok (.iload_n 1, 1) := by decide +kernel
theorem dX3_found_2 : decode cX3_found 2 = .ok (.putfield 229, 3) := by decide +kernel
theorem dX3_found_5 : decode cX3_found 5 = .ok (.bipush (-10), 2) := by decide +kernel
theorem dX3_found_7 : decode cX3_found 7 = .ok (.iload_n 1, 1) := by decide +kernel
theorem dX3_found_8 : decode cX3_found 8 = .ok (.isub, 1) := by decide +kernel
theorem dX3_found_9 : decode cX3_found 9 = .ok (.ireturn, 1) := by decide +kernel
theorem dX4_init_0 : decode cX4_init 0 = .ok (.aload_n 0, 1) := by decide +kernel
theorem dX4_init_1 : decode cX4_init 1 = .ok (.invokespecial 1, 3) := by decide +kernel
theorem dX4_init_4 : decode cX4_init 4 = .ok (.aload_n 0, 1) := by decide +kernel
theorem dX4_init_5 : decode cX4_init 5 = .ok (.iconst 4, 1) := by decide +kernel
theorem dX4_init_6 : decode cX4_init 6 = .ok (.newarray .int, 2) := by decide +kernel
theorem dX4_init_8 : decode cX4_init 8 = .ok (.putfield 7, 3) := by decide +kernel
theorem dX4_init_11 : decode cX4_init 11 = .ok (.aload_n 0, 1) := by decide +kernel
theorem dX4_init_12 : decode cX4_init 12 = .ok (.iconst 4, 1) := by decide +kernel
theorem dX4_init_13 : decode cX4_init 13 = .ok (.newarray .int, 2) := by decide +kernel
theorem dX4_init_15 : decode cX4_init 15 = .ok (.putfield 13, 3) := by decide +kernel
theorem dX4_init_18 : decode cX4_init 18 = .ok (.aload_n 0, 1) := by decide +kernel
theorem dX4_init_19 : decode cX4_init 19 = .ok (.sipush 240, 3) := by decide +kernel
theorem dX4_init_22 : decode cX4_init 22 = .ok (.newarray .int, 2) := by decide +kernel
theorem dX4_init_24 : decode cX4_init 24 = .ok (.putfield 16, 3) := by decide +kernel
theorem dX4_init_27 : decode cX4_init 27 = .ok (.aload_n 0, 1) := by decide +kernel
theorem dX4_init_28 : decode cX4_init 28 = .ok (.bipush 60, 2) := by decide +kernel
theorem dX4_init_30 : decode cX4_init 30 = .ok (.newarray .int, 2) := by decide +kernel
theorem dX4_init_32 : decode cX4_init 32 = .ok (.putfield 19, 3) := by decide +kernel
theorem dX4_init_35 : decode cX4_init 35 = .ok (.aload_n 0, 1) := by decide +kernel
theorem dX4_init_36 : decode cX4_init 36 = .ok (.iconst 4, 1) := by decide +kernel
theorem dX4_init_37 : decode cX4_init 37 = .ok (.newarray .int, 2) := by decide +kernel
theorem dX4_init_39 : decode cX4_init 39 = .ok (.putfield 22, 3) := by decide +kernel
theorem dX4_init_42 : decode cX4_init 42 = .ok (.aload_n 0, 1) := by decide +kernel
theorem dX4_init_43 : decode cX4_init 43 = .ok (.iconst 4, 1) := by decide +kernel
theorem dX4_init_44 : decode cX4_init 44 = .ok (.newarray .int, 2) := by decide +kernel
theorem dX4_init_46 : decode cX4_init 46 = .ok (.putfield 25, 3) := by decide +kernel
theorem dX4_init_49 : decode cX4_init 49 = .ok (.aload_n 0, 1) := by decide +kernel
theorem dX4_init_50 : decode cX4_init 50 = .ok (.iconst 4, 1) := by decide +kernel
theorem dX4_init_51 : decode cX4_init 51 = .ok (.newarray .int, 2) := by decide +kernel
theorem dX4_init_53 : decode cX4_init 53 = .ok (.putfield 28, 3) := by decide +kernel
theorem dX4_init_56 : decode cX4_init 56 = .ok (.aload_n 0, 1) := by decide +kernel
theorem dX4_init_57 : decode cX4_init 57 = .ok (.iconst 4, 1) := by decide +kernel
theorem dX4_init_58 : decode cX4_init 58 = .ok (.newarray .int, 2) := by decide +kernel
theorem dX4_init_60 : decode cX4_init 60 = .ok (.putfield 31, 3) := by decide +kernel
theorem dX4_init_63 : decode cX4_init 63 = .ok (.aload_n 0, 1) := by decide +kernel
theorem dX4_init_64 : decode cX4_init 64 = .ok (.iconst 4, 1) := by decide +kernel
theorem dX4_init_65 : decode cX4_init 65 = .ok (.newarray .int, 2) := by decide +kernel
theorem dX4_init_67 : decode cX4_init 67 = .ok (.putfield 34, 3) := by decide +kernel
theorem dX4_init_70 : decode cX4_init 70 = .ok (.aload_n 0, 1) := by decide +kernel
theorem dX4_init_71 : decode cX4_init 71 = .ok (.bipush 100, 2) := by decide +kernel
theorem dX4_init_73 : decode cX4_init 73 = .ok (.newarray .int, 2) := by decide +kernel
theorem dX4_init_75 : decode cX4_init 75 = .ok (.putfield 37, 3) := by decide +kernel
theorem dX4_init_78 : decode cX4_init 78 = .ok (.aload_n 0, 1) := by decide +kernel
theorem dX4_init_79 : decode cX4_init 79 = .ok (.bipush 100, 2) := by decide +kernel
theorem dX4_init_81 : decode cX4_init 81 = .ok (.newarray .boolean, 2) := by decide +kernel
theorem dX4_init_83 : decode cX4_init 83 = .ok (.putfield 40, 3) := by decide +kernel
theorem dX4_init_86 : decode cX4_init 86 = .ok (.aload_n 0, 1) := by decide +kernel
theorem dX4_init_87 : decode cX4_init 87 = .ok (.bipush 60, 2) := by decide +kernel
theorem dX4_init_89 : decode cX4_init 89 = .ok (.newarray .int, 2) := by decide +kernel
theorem dX4_init_91 : decode cX4_init 91 = .ok (.putfield 44, 3) := by decide +kernel
theorem dX4_init_94 : decode cX4_init 94 = .ok (.aload_n 0, 1) := by decide +kernel
theorem dX4_init_95 : decode cX4_init 95 = .ok (.iconst 4, 1) := by decide +kernel
theorem dX4_init_96 : decode cX4_init 96 = .ok (.newarray .int, 2) := by decide +kernel
theorem dX4_init_98 : decode cX4_init 98 = .ok (.putfield 47, 3) := by decide +kernel
theorem dX4_init_101 : decode cX4_init 101 = .ok (.aload_n 0, 1) := by decide +kernel
theorem dX4_init_102 : decode cX4_init 102 = .ok (.iconst 4, 1) := by decide +kernel
theorem dX4_init_103 : decode cX4_init 103 = .ok (.newarray .int, 2) := by decide +kernel
theorem dX4_init_105 : decode cX4_init 105 = .ok (.putfield 50, 3) := by decide +kernel
theorem dX4_init_108 : decode cX4_init 108 = .ok (.aload_n 0, 1) := by decide +kernel
theorem dX4_init_109 : decode cX4_init 109 = .ok (.sipush 540, 3) := by decide +kernel
theorem dX4_init_112 : decode cX4_init 112 = .ok (.newarray .int, 2) := by decide +kernel
theorem dX4_init_114 : decode cX4_init 114 = .ok (.putfield 53, 3) := by decide +kernel
theorem dX4_init_117 : decode cX4_init 117 = .ok (.iconst 0, 1) := by decide +kernel
theorem dX4_init_118 : decode cX4_init 118 = .ok (.istore_n 1, 1) := by decide +kernel
theorem dX4_init_119 : decode cX4_init 119 = .ok (.iload_n 1, 1) := by decide +kernel
theorem dX4_init_120 : decode cX4_init 120 = .ok (.iconst 4, 1) := by decide +kernel
theorem dX4_init_121 : decode cX4_init 121 = .ok (.if_icmp .ge 16, 3) := by decide +kernel
theorem dX4_init_124 : decode cX4_init 124 = .ok (.aload_n 0, 1) := by decide +kernel
theorem dX4_init_125 : decode cX4_init 125 = .ok (.getfield 7, 3) := by decide +kernel
theorem dX4_init_128 : decode cX4_init 128 = .ok (.iload_n 1, 1) := by decide +kernel
theorem dX4_init_129 : decode cX4_init 129 = .ok (.iconst (-1), 1) := by decide +kernel
theorem dX4_init_130 : decode cX4_init 130 = .ok (.iastore, 1) := by decide +kernel
theorem dX4_init_131 : decode cX4_init 131 = .ok (.iinc 1 1, 3) := by decide +kernel
theorem dX4_init_134 : decode cX4_init 134 = .ok (.goto (-15), 3) := by decide +kernel
theorem dX4_init_137 : decode cX4_init 137 = .ok (.aload_n 0, 1) := by decide +kernel
theorem dX4_init_138 : decode cX4_init 138 = .ok (.bipush 30, 2) := by decide +kernel
theorem dX4_init_140 : decode cX4_init 140 = .ok (.putfield 56, 3) := by decide +kernel
theorem dX4_init_143 : decode cX4_init 143 = .ok (.return_, 1) := by decide +kernel
theorem dX4_in_0 : decode cX4_in 0 = .ok (.lload_n 0, 1) := by decide +kernel
theorem dX4_in_1 : decode cX4_in 1 = .ok (.lload_n 2, 1) := by decide +kernel
theorem dX4_in_2 : decode cX4_in 2 = .ok (.lcmp, 1) := by decide +kernel
theorem dX4_in_3 : decode cX4_in 3 = .ok (.ifCond .lt 14, 3) := by decide +kernel
theorem dX4_in_6 : decode cX4_in 6 = .ok (.lload_n 0, 1) := by decide +kernel
theorem dX4_in_7 : decode cX4_in 7 = .ok (.lload 4, 2) := by decide +kernel
theorem dX4_in_9 : decode cX4_in 9 = .ok (.lcmp, 1) := by decide +kernel
theorem dX4_in_10 : decode cX4_in 10 = .ok (.ifCond .gt 7, 3) := by decide +kernel
theorem dX4_in_13 : decode cX4_in 13 = .ok (.iconst 1, 1) := by decide +kernel
theorem dX4_in_14 : decode cX4_in 14 = .ok (.goto 4, 3) := by decide +kernel
theorem dX4_in_17 : decode cX4_in 17 = .ok (.iconst 0, 1) := by decide +kernel
theorem dX4_in_18 : decode cX4_in 18 = .ok (.ireturn, 1) := by decide +kernel
set_option maxRecDepth 20000 in
theorem ggX4_isTwo_X4_in : GoodIn wsX4_isTwo wsX4_in := goodIn_r _ [4] (by decide +kernel) (by decide +kernel)
set_option maxRecDepth 20000 in
theorem gX4_isTwo_X4_in : GoodIn wsX4_isTwo (va_wsS RX4 60 yX4_in wsX4_in) := goodIn_app (goodIn_of _ (by decide +kernel)) ggX4_isTwo_X4_in
theorem dX4_isTwo_0 : decode cX4_isTwo 0 = .ok (.iload_n 0, 1) := by decide +kernel
theorem dX4_isTwo_1 : decode cX4_isTwo 1 = .ok (.i2l, 1) := by decide +kernel
theorem dX4_isTwo_2 : decode cX4_isTwo 2 = .ok (.lconst 0, 1) := by decide +kernel
theorem dX4_isTwo_3 : decode cX4_isTwo 3 = .ok (.lconst 1, 1) := by decide +kernel
theorem dX4_isTwo_4 : decode cX4_isTwo 4 = .ok (.invokestatic 60, 3) := by decide +kernel
theorem dX4_isTwo_7 : decode cX4_isTwo 7 = .ok (.ireturn, 1) := by decide +kernel
theorem dX4_isIn_0 : decode cX4_isIn 0 = .ok (.iload_n 0, 1) := by decide +kernel
theorem dX4_isIn_1 : decode cX4_isIn 1 = .ok (.iload_n 1, 1) := by decide +kernel
theorem dX4_isIn_2 : decode cX4_isIn 2 = .ok (.ishr, 1) := by decide +kernel
theorem dX4_isIn_3 : decode cX4_isIn 3 = .ok (.iconst 1, 1) := by decide +kernel
theorem dX4_isIn_4 : decode cX4_isIn 4 = .ok (.iand, 1) := by decide +kernel
theorem dX4_isIn_5 : decode cX4_isIn 5 = .ok (.iconst 1, 1) := by decide +kernel
theorem dX4_isIn_6 : decode cX4_isIn 6 = .ok (.if_icmp .ne 7, 3) := by decide +kernel
theorem dX4_isIn_9 : decode cX4_isIn 9 = .ok (.iconst 1, 1) := by decide +kernel
theorem dX4_isIn_10 : decode cX4_isIn 10 = .ok (.goto 4, 3) := by decide +kernel
theorem dX4_isIn_13 : decode cX4_isIn 13 = .ok (.iconst 0, 1) := by decide +kernel
theorem dX4_isIn_14 : decode cX4_isIn 14 = .ok (.ireturn, 1) := by decide +kernel
theorem dX4_lesser_0 : decode cX4_lesser 0 = .ok (.iload_n 0, 1) := by decide +kernel
theorem dX4_lesser_1 : decode cX4_lesser 1 = .ok (.iload_n 1, 1) := by decide +kernel
theorem dX4_lesser_2 : decode cX4_lesser 2 = .ok (.if_icmp .ge 7, 3) := by decide +kernel
theorem dX4_lesser_5 : decode cX4_lesser 5 = .ok (.iload_n 0, 1) := by decide +kernel
theorem dX4_lesser_6 : decode cX4_lesser 6 = .ok (.goto 4, 3) := by decide +kernel
theorem dX4_lesser_9 : decode cX4_lesser 9 = .ok (.iload_n 1, 1) := by decide +kernel
theorem dX4_lesser_10 : decode cX4_lesser 10 = .ok (.ireturn, 1) := by decide +kernel
theorem dX4_greater_0 : decode cX4_greater 0 = .ok (.iload_n 0, 1) := by decide +kernel
theorem dX4_greater_1 : decode cX4_greater 1 = .ok (.iload_n 1, 1) := by decide +kernel
theorem dX4_greater_2 : decode cX4_greater 2 = .ok (.if_icmp .le 7, 3) := by decide +kernel
theorem dX4_greater_5 : decode cX4_greater 5 = .ok (.iload_n 0, 1) := by decide +kernel
theorem dX4_greater_6 : decode cX4_greater 6 = .ok (.goto 4, 3) := by decide +kernel
theorem dX4_greater_9 : decode cX4_greater 9 = .ok (.iload_n 1, 1) := by decide +kernel
theorem dX4_greater_10 : decode cX4_greater 10 = .ok (.ireturn, 1) := by decide +kernel
theorem dX4_finds_0 : decode cX4_finds 0 = .ok (.aload_n 0, 1) := by decide +kernel
theorem dX4_finds_1 : decode cX4_finds 1 = .ok (.iload_n 1, 1) := by decide +kernel
theorem dX4_finds_2 : decode cX4_finds 2 = .ok (.putfield 64, 3) := by decide +kernel
theorem dX4_finds_5 : decode cX4_finds 5 = .ok (.bipush (-10), 2) := by decide +kernel
theorem dX4_finds_7 : decode cX4_finds 7 = .ok (.iload_n 1, 1) := by decide +kernel
theorem dX4_finds_8 : decode cX4_finds 8 = .ok (.isub, 1) := by decide +kernel
theorem dX4_finds_9 : decode cX4_finds 9 = .ok (.ireturn, 1) := by decide +kernel
set_option maxRecDepth 20000 in
theorem ggX4_isSheet_X4_in : GoodIn wsX4_isSheet wsX4_in := goodIn_r _ [5] (by decide +kernel) (by decide +kernel)
set_option maxRecDepth 20000 in
theorem gX4_isSheet_X4_in : GoodIn wsX4_isSheet (va_wsS RX4 60 yX4_in wsX4_in) := goodIn_app (goodIn_of _ (by decide +kernel)) ggX4_isSheet_X4_in
theorem dX4_isSheet_0 : decode cX4_isSheet 0 = .ok (.iload_n 0, 1) := by decide +kernel
theorem dX4_isSheet_1 : decode cX4_isSheet 1 = .ok (.i2l, 1) := by decide +kernel
theorem dX4_isSheet_2 : decode cX4_isSheet 2 = .ok (.lconst 0, 1) := by decide +kernel
theorem dX4_isSheet_3 : decode cX4_isSheet 3 = .ok (.ldc2_w 67, 3) := by decide +kernel
theorem dX4_isSheet_6 : decode cX4_isSheet 6 = .ok (.invokestatic 60, 3) := by decide +kernel
theorem dX4_isSheet_9 : decode cX4_isSheet 9 = .ok (.ireturn, 1) := by decide +kernel
set_option maxRecDepth 20000 in
theorem ggX4_sheet_X4_isSheet : GoodIn wsX4_sheet wsX4_isSheet := goodIn_r _ [8, 9, 10, 11, 7, 12] (by decide +kernel) (by decide +kernel)
set_option maxRecDepth 20000 in
theorem gX4_sheet_X4_isSheet : GoodIn wsX4_sheet (va_wsS RX4 69 yX4_isSheet wsX4_isSheet) := goodIn_app (goodIn_of _ (by decide +kernel)) ggX4_sheet_X4_isSheet
set_option maxRecDepth 20000 in
theorem ggX4_sheet_X4_in : GoodIn wsX4_sheet wsX4_in := goodIn_r _ [12] (by decide +kernel) (by decide +kernel)
set_option maxRecDepth 20000 in
theorem gX4_sheet_X4_in : GoodIn wsX4_sheet (va_wsS RX4 60 yX4_in wsX4_in) := goodIn_app (goodIn_of _ (by decide +kernel)) ggX4_sheet_X4_in
set_option maxRecDepth 20000 in
theorem ggX4_sheet_X4_finds : GoodIn wsX4_sheet wsX4_finds := goodIn_r _ [16, 17, 18, 19, 20, 21, 22, 23, 24, 25, 26, 27, 28, 29, 30, 31, 32, 33, 34, 35, 36, 37, 38, 39, 40, 41, 42, 43, 44, 45, 46, 47] (by decide +kernel) (by decide +kernel)
set_option maxRecDepth 20000 in
theorem gX4_sheet_X4_finds : GoodIn wsX4_sheet (wsV RX4 75 RX4 yX4_finds wsX4_finds) := goodIn_app (goodIn_of _ (by decide +kernel)) ggX4_sheet_X4_finds
theorem dX4_sheet_0 : decode cX4_sheet 0 = .ok (.iload_n 1, 1) := by decide +kernel
theorem dX4_sheet_1 : decode cX4_sheet 1 = .ok (.invokestatic 69, 3) := by decide +kernel
theorem dX4_sheet_4 : decode cX4_sheet 4 = .ok (.ifCond .eq 21, 3) := by decide +kernel
theorem dX4_sheet_7 : decode cX4_sheet 7 = .ok (.iload_n 2, 1) := by decide +kernel
theorem dX4_sheet_8 : decode cX4_sheet 8 = .ok (.i2l, 1) := by decide +kernel
theorem dX4_sheet_9 : decode cX4_sheet 9 = .ok (.lconst 0, 1) := by decide +kernel
theorem dX4_sheet_10 : decode cX4_sheet 10 = .ok (.ldc2_w 73, 3) := by decide +kernel
theorem dX4_sheet_13 : decode cX4_sheet 13 = .ok (.invokestatic 60, 3) := by decide +kernel
theorem dX4_sheet_16 : decode cX4_sheet 16 = .ok (.ifCond .eq 9, 3) := by decide +kernel
theorem dX4_sheet_19 : decode cX4_sheet 19 = .ok (.iload_n 3, 1) := by decide +kernel
theorem dX4_sheet_20 : decode cX4_sheet 20 = .ok (.bipush 60, 2) := by decide +kernel
theorem dX4_sheet_22 : decode cX4_sheet 22 = .ok (.if_icmp .le 6, 3) := by decide +kernel
theorem dX4_sheet_25 : decode cX4_sheet 25 = .ok (.bipush (-2), 2) := by decide +kernel
theorem dX4_sheet_27 : decode cX4_sheet 27 = .ok (.ireturn, 1) := by decide +kernel
theorem dX4_sheet_28 : decode cX4_sheet 28 = .ok (.iload_n 3, 1) := by decide +kernel
theorem dX4_sheet_29 : decode cX4_sheet 29 = .ok (.ifCond .ge 9, 3) := by decide +kernel
theorem dX4_sheet_32 : decode cX4_sheet 32 = .ok (.aload_n 0, 1) := by decide +kernel
theorem dX4_sheet_33 : decode cX4_sheet 33 = .ok (.iconst 5, 1) := by decide +kernel
theorem dX4_sheet_34 : decode cX4_sheet 34 = .ok (.invokevirtual 75, 3) := by decide +kernel
theorem dX4_sheet_37 : decode cX4_sheet 37 = .ok (.ireturn, 1) := by decide +kernel
theorem dX4_sheet_38 : decode cX4_sheet 38 = .ok (.aload_n 0, 1) := by decide +kernel
theorem dX4_sheet_39 : decode cX4_sheet 39 = .ok (.getfield 7, 3) := by decide +kernel
theorem dX4_sheet_42 : decode cX4_sheet 42 = .ok (.iload_n 1, 1) := by decide +kernel
theorem dX4_sheet_43 : decode cX4_sheet 43 = .ok (.iload_n 2, 1) := by decide +kernel
theorem dX4_sheet_44 : decode cX4_sheet 44 = .ok (.iastore, 1) := by decide +kernel
theorem dX4_sheet_45 : decode cX4_sheet 45 = .ok (.aload_n 0, 1) := by decide +kernel
theorem dX4_sheet_46 : decode cX4_sheet 46 = .ok (.getfield 13, 3) := by decide +kernel
theorem dX4_sheet_49 : decode cX4_sheet 49 = .ok (.iload_n 1, 1) := by decide +kernel
theorem dX4_sheet_50 : decode cX4_sheet 50 = .ok (.iload_n 3, 1) := by decide +kernel
theorem dX4_sheet_51 : decode cX4_sheet 51 = .ok (.iastore, 1) := by decide +kernel
theorem dX4_sheet_52 : decode cX4_sheet 52 = .ok (.iconst 0, 1) := by decide +kernel
theorem dX4_sheet_53 : decode cX4_sheet 53 = .ok (.istore 4, 2) := by decide +kernel
theorem dX4_sheet_55 : decode cX4_sheet 55 = .ok (.iload 4, 2) := by decide +kernel
theorem dX4_sheet_57 : decode cX4_sheet 57 = .ok (.iload_n 3, 1) := by decide +kernel
theorem dX4_sheet_58 : decode cX4_sheet 58 = .ok (.if_icmp .ge 22, 3) := by decide +kernel
theorem dX4_sheet_61 : decode cX4_sheet 61 = .ok (.aload_n 0, 1) := by decide +kernel
theorem dX4_sheet_62 : decode cX4_sheet 62 = .ok (.getfield 16, 3) := by decide +kernel
theorem dX4_sheet_65 : decode cX4_sheet 65 = .ok (.bipush 60, 2) := by decide +kernel
theorem dX4_sheet_67 : decode cX4_sheet 67 = .ok (.iload_n 1, 1) := by decide +kernel
theorem dX4_sheet_68 : decode cX4_sheet 68 = .ok (.imul, 1) := by decide +kernel
theorem dX4_sheet_69 : decode cX4_sheet 69 = .ok (.iload 4, 2) := by decide +kernel
theorem dX4_sheet_71 : decode cX4_sheet 71 = .ok (.iadd, 1) := by decide +kernel
theorem dX4_sheet_72 : decode cX4_sheet 72 = .ok (.iconst 0, 1) := by decide +kernel
theorem dX4_sheet_73 : decode cX4_sheet 73 = .ok (.iastore, 1) := by decide +kernel
theorem dX4_sheet_74 : decode cX4_sheet 74 = .ok (.iinc 4 1, 3) := by decide +kernel
theorem dX4_sheet_77 : decode cX4_sheet 77 = .ok (.goto (-22), 3) := by decide +kernel
theorem dX4_sheet_80 : decode cX4_sheet 80 = .ok (.iload_n 3, 1) := by decide +kernel
theorem dX4_sheet_81 : decode cX4_sheet 81 = .ok (.ireturn, 1) := by decide +kernel
set_option maxRecDepth 20000 in
theorem ggX4_lose_X4_isSheet : GoodIn wsX4_lose wsX4_isSheet := goodIn_r _ [6, 7, 8, 9, 5, 10] (by decide +kernel) (by decide +kernel)
set_option maxRecDepth 20000 in
theorem gX4_lose_X4_isSheet : GoodIn wsX4_lose (va_wsS RX4 69 yX4_isSheet wsX4_isSheet) := goodIn_app (goodIn_of _ (by decide +kernel)) ggX4_lose_X4_isSheet
set_option maxRecDepth 20000 in
theorem ggX4_lose_X4_finds : GoodIn wsX4_lose wsX4_finds := goodIn_r _ [14, 15, 16, 17, 18, 19, 20, 21, 22, 23, 24, 25, 26, 27, 28, 29, 30, 31, 32, 33, 34, 35, 36, 37, 38, 39, 40, 41, 42, 43, 44, 45] (by decide +kernel) (by decide +kernel)
set_option maxRecDepth 20000 in
theorem gX4_lose_X4_finds : GoodIn wsX4_lose (wsV RX4 75 RX4 yX4_finds wsX4_finds) := goodIn_app (goodIn_of _ (by decide +kernel)) ggX4_lose_X4_finds
theorem dX4_lose_0 : decode cX4_lose 0 = .ok (.iload_n 1, 1) := by decide +kernel
theorem dX4_lose_1 : decode cX4_lose 1 = .ok (.invokestatic 69, 3) := by decide +kernel
theorem dX4_lose_4 : decode cX4_lose 4 = .ok (.ifCond .ne 6, 3) := by decide +kernel
theorem dX4_lose_7 : decode cX4_lose 7 = .ok (.bipush (-2), 2) := by decide +kernel
theorem dX4_lose_9 : decode cX4_lose 9 = .ok (.ireturn, 1) := by decide +kernel
theorem dX4_lose_10 : decode cX4_lose 10 = .ok (.aload_n 0, 1) := by decide +kernel
theorem dX4_lose_11 : decode cX4_lose 11 = .ok (.getfield 7, 3) := by decide +kernel
theorem dX4_lose_14 : decode cX4_lose 14 = .ok (.iload_n 1, 1) := by decide +kernel
theorem dX4_lose_15 : decode cX4_lose 15 = .ok (.iaload, 1) := by decide +kernel
theorem dX4_lose_16 : decode cX4_lose 16 = .ok (.ifCond .ge 9, 3) := by decide +kernel
theorem dX4_lose_19 : decode cX4_lose 19 = .ok (.aload_n 0, 1) := by decide +kernel
theorem dX4_lose_20 : decode cX4_lose 20 = .ok (.iconst 1, 1) := by decide +kernel
theorem dX4_lose_21 : decode cX4_lose 21 = .ok (.invokevirtual 75, 3) := by decide +kernel
theorem dX4_lose_24 : decode cX4_lose 24 = .ok (.ireturn, 1) := by decide +kernel
theorem dX4_lose_25 : decode cX4_lose 25 = .ok (.aload_n 0, 1) := by decide +kernel
theorem dX4_lose_26 : decode cX4_lose 26 = .ok (.getfield 7, 3) := by decide +kernel
theorem dX4_lose_29 : decode cX4_lose 29 = .ok (.iload_n 1, 1) := by decide +kernel
theorem dX4_lose_30 : decode cX4_lose 30 = .ok (.iconst (-1), 1) := by decide +kernel
theorem dX4_lose_31 : decode cX4_lose 31 = .ok (.iastore, 1) := by decide +kernel
theorem dX4_lose_32 : decode cX4_lose 32 = .ok (.aload_n 0, 1) := by decide +kernel
theorem dX4_lose_33 : decode cX4_lose 33 = .ok (.getfield 13, 3) := by decide +kernel
theorem dX4_lose_36 : decode cX4_lose 36 = .ok (.iload_n 1, 1) := by decide +kernel
theorem dX4_lose_37 : decode cX4_lose 37 = .ok (.iaload, 1) := by decide +kernel
theorem dX4_lose_38 : decode cX4_lose 38 = .ok (.ireturn, 1) := by decide +kernel
set_option maxRecDepth 20000 in
theorem ggX4_lacks_X4_finds : GoodIn wsX4_lacks wsX4_finds := goodIn_r _ [7, 8, 12, 13, 14, 15, 16, 17, 18, 19, 20, 21, 22, 23, 24, 25, 26, 27, 28, 29, 30, 31, 32, 33, 34, 35, 36, 37, 38, 39, 40, 41] (by decide +kernel) (by decide +kernel)
set_option maxRecDepth 20000 in
theorem gX4_lacks_X4_finds : GoodIn wsX4_lacks (wsV RX4 75 RX4 yX4_finds wsX4_finds) := goodIn_app (goodIn_of _ (by decide +kernel)) ggX4_lacks_X4_finds
set_option maxRecDepth 20000 in
theorem ggX4_lacks_X4_in : GoodIn wsX4_lacks wsX4_in := goodIn_r _ [11] (by decide +kernel) (by decide +kernel)
set_option maxRecDepth 20000 in
theorem gX4_lacks_X4_in : GoodIn wsX4_lacks (va_wsS RX4 60 yX4_in wsX4_in) := goodIn_app (goodIn_of _ (by decide +kernel)) ggX4_lacks_X4_in
theorem dX4_lacks_0 : decode cX4_lacks 0 = .ok (.aload_n 0, 1) := by decide +kernel
theorem dX4_lacks_1 : decode cX4_lacks 1 = .ok (.getfield 7, 3) := by decide +kernel
theorem dX4_lacks_4 : decode cX4_lacks 4 = .ok (.iload_n 1, 1) := by decide +kernel
theorem dX4_lacks_5 : decode cX4_lacks 5 = .ok (.iaload, 1) := by decide +kernel
theorem dX4_lacks_6 : decode cX4_lacks 6 = .ok (.ifCond .ge 9, 3) := by decide +kernel
theorem dX4_lacks_9 : decode cX4_lacks 9 = .ok (.aload_n 0, 1) := by decide +kernel
theorem dX4_lacks_10 : decode cX4_lacks 10 = .ok (.iconst 1, 1) := by decide +kernel
theorem dX4_lacks_11 : decode cX4_lacks 11 = .ok (.invokevirtual 75, 3) := by decide +kernel
theorem dX4_lacks_14 : decode cX4_lacks 14 = .ok (.ireturn, 1) := by decide +kernel
theorem dX4_lacks_15 : decode cX4_lacks 15 = .ok (.aload_n 0, 1) := by decide +kernel
theorem dX4_lacks_16 : decode cX4_lacks 16 = .ok (.getfield 7, 3) := by decide +kernel
theorem dX4_lacks_19 : decode cX4_lacks 19 = .ok (.iload_n 1, 1) := by decide +kernel
theorem dX4_lacks_20 : decode cX4_lacks 20 = .ok (.iaload, 1) := by decide +kernel
theorem dX4_lacks_21 : decode cX4_lacks 21 = .ok (.iload_n 2, 1) := by decide +kernel
theorem dX4_lacks_22 : decode cX4_lacks 22 = .ok (.if_icmp .eq 9, 3) := by decide +kernel
theorem dX4_lacks_25 : decode cX4_lacks 25 = .ok (.aload_n 0, 1) := by decide +kernel
theorem dX4_lacks_26 : decode cX4_lacks 26 = .ok (.iconst 3, 1) := by decide +kernel
theorem dX4_lacks_27 : decode cX4_lacks 27 = .ok (.invokevirtual 75, 3) := by decide +kernel
theorem dX4_lacks_30 : decode cX4_lacks 30 = .ok (.ireturn, 1) := by decide +kernel
theorem dX4_lacks_31 : decode cX4_lacks 31 = .ok (.iload_n 3, 1) := by decide +kernel
theorem dX4_lacks_32 : decode cX4_lacks 32 = .ok (.i2l, 1) := by decide +kernel
theorem dX4_lacks_33 : decode cX4_lacks 33 = .ok (.lconst 0, 1) := by decide +kernel
theorem dX4_lacks_34 : decode cX4_lacks 34 = .ok (.aload_n 0, 1) := by decide +kernel
theorem dX4_lacks_35 : decode cX4_lacks 35 = .ok (.getfield 13, 3) := by decide +kernel
theorem dX4_lacks_38 : decode cX4_lacks 38 = .ok (.iload_n 1, 1) := by decide +kernel
theorem dX4_lacks_39 : decode cX4_lacks 39 = .ok (.iaload, 1) := by decide +kernel
theorem dX4_lacks_40 : decode cX4_lacks 40 = .ok (.iconst 1, 1) := by decide +kernel
theorem dX4_lacks_41 : decode cX4_lacks 41 = .ok (.isub, 1) := by decide +kernel
theorem dX4_lacks_42 : decode cX4_lacks 42 = .ok (.i2l, 1) := by decide +kernel
theorem dX4_lacks_43 : decode cX4_lacks 43 = .ok (.invokestatic 60, 3) := by decide +kernel
theorem dX4_lacks_46 : decode cX4_lacks 46 = .ok (.ifCond .eq 7, 3) := by decide +kernel
theorem dX4_lacks_49 : decode cX4_lacks 49 = .ok (.iconst 0, 1) := by decide +kernel
theorem dX4_lacks_50 : decode cX4_lacks 50 = .ok (.goto 8, 3) := by decide +kernel
theorem dX4_lacks_53 : decode cX4_lacks 53 = .ok (.aload_n 0, 1) := by decide +kernel
theorem dX4_lacks_54 : decode cX4_lacks 54 = .ok (.iconst 2, 1) := by decide +kernel
theorem dX4_lacks_55 : decode cX4_lacks 55 = .ok (.invokevirtual 75, 3) := by decide +kernel
theorem dX4_lacks_58 : decode cX4_lacks 58 = .ok (.ireturn, 1) := by decide +kernel
theorem dX4_cut_0 : decode cX4_cut 0 = .ok (.iload_n 0, 1) := by decide +kernel
theorem dX4_cut_1 : decode cX4_cut 1 = .ok (.ifCond .ne 8, 3) := by decide +kernel
theorem dX4_cut_4 : decode cX4_cut 4 = .ok (.iload_n 1, 1) := by decide +kernel
theorem dX4_cut_5 : decode cX4_cut 5 = .ok (.i2b, 1) := by decide +kernel
theorem dX4_cut_6 : decode cX4_cut 6 = .ok (.goto 14, 3) := by decide +kernel
theorem dX4_cut_9 : decode cX4_cut 9 = .ok (.iload_n 0, 1) := by decide +kernel
theorem dX4_cut_10 : decode cX4_cut 10 = .ok (.iconst 1, 1) := by decide +kernel
theorem dX4_cut_11 : decode cX4_cut 11 = .ok (.if_icmp .ne 8, 3) := by decide +kernel
theorem dX4_cut_14 : decode cX4_cut 14 = .ok (.iload_n 1, 1) := by decide +kernel
theorem dX4_cut_15 : decode cX4_cut 15 = .ok (.i2s, 1) := by decide +kernel
theorem dX4_cut_16 : decode cX4_cut 16 = .ok (.goto 4, 3) := by decide +kernel
theorem dX4_cut_19 : decode cX4_cut 19 = .ok (.iload_n 1, 1) := by decide +kernel
theorem dX4_cut_20 : decode cX4_cut 20 = .ok (.ireturn, 1) := by decide +kernel
set_option maxRecDepth 20000 in
theorem ggX4_lay_X4_isSheet : GoodIn wsX4_lay wsX4_isSheet := goodIn_r _ [6, 7, 8, 9, 5, 10] (by decide +kernel) (by decide +kernel)
set_option maxRecDepth 20000 in
theorem gX4_lay_X4_isSheet : GoodIn wsX4_lay (va_wsS RX4 69 yX4_isSheet wsX4_isSheet) := goodIn_app (goodIn_of _ (by decide +kernel)) ggX4_lay_X4_isSheet
set_option maxRecDepth 20000 in
theorem ggX4_lay_X4_in : GoodIn wsX4_lay wsX4_in := goodIn_r _ [10] (by decide +kernel) (by decide +kernel)
set_option maxRecDepth 20000 in
theorem gX4_lay_X4_in : GoodIn wsX4_lay (va_wsS RX4 60 yX4_in wsX4_in) := goodIn_app (goodIn_of _ (by decide +kernel)) ggX4_lay_X4_in
set_option maxRecDepth 20000 in
theorem ggX4_lay_X4_lacks : GoodIn wsX4_lay wsX4_lacks := goodIn_r _ [14, 15, 16, 17, 18, 19, 5, 20, 21, 8, 9, 10, 25, 26, 27, 28, 29, 30, 31, 32, 33, 34, 35, 36, 37, 38, 39, 40, 41, 42, 43, 44, 45, 46, 47, 48, 49, 50, 51, 52, 53, 54] (by decide +kernel) (by decide +kernel)
set_option maxRecDepth 20000 in
theorem gX4_lay_X4_lacks : GoodIn wsX4_lay (wsV RX4 79 RX4 yX4_lacks wsX4_lacks) := goodIn_app (goodIn_of _ (by decide +kernel)) ggX4_lay_X4_lacks
set_option maxRecDepth 20000 in
theorem ggX4_lay_X4_cut : GoodIn wsX4_lay wsX4_cut := goodIn_r _ [24] (by decide +kernel) (by decide +kernel)
set_option maxRecDepth 20000 in
theorem gX4_lay_X4_cut : GoodIn wsX4_lay (va_wsS RX4 83 yX4_cut wsX4_cut) := goodIn_app (goodIn_of _ (by decide +kernel)) ggX4_lay_X4_cut
theorem dX4_lay_0 : decode cX4_lay 0 = .ok (.iload_n 1, 1) := by decide +kernel
theorem dX4_lay_1 : decode cX4_lay 1 = .ok (.invokestatic 69, 3) := by decide +kernel
theorem dX4_lay_4 : decode cX4_lay 4 = .ok (.ifCond .eq 15, 3) := by decide +kernel
theorem dX4_lay_7 : decode cX4_lay 7 = .ok (.iload_n 2, 1) := by decide +kernel
theorem dX4_lay_8 : decode cX4_lay 8 = .ok (.i2l, 1) := by decide +kernel
theorem dX4_lay_9 : decode cX4_lay 9 = .ok (.lconst 0, 1) := by decide +kernel
theorem dX4_lay_10 : decode cX4_lay 10 = .ok (.ldc2_w 73, 3) := by decide +kernel
theorem dX4_lay_13 : decode cX4_lay 13 = .ok (.invokestatic 60, 3) := by decide +kernel
theorem dX4_lay_16 : decode cX4_lay 16 = .ok (.ifCond .ne 6, 3) := by decide +kernel
theorem dX4_lay_19 : decode cX4_lay 19 = .ok (.bipush (-2), 2) := by decide +kernel
theorem dX4_lay_21 : decode cX4_lay 21 = .ok (.ireturn, 1) := by decide +kernel
theorem dX4_lay_22 : decode cX4_lay 22 = .ok (.aload_n 0, 1) := by decide +kernel
theorem dX4_lay_23 : decode cX4_lay 23 = .ok (.iload_n 1, 1) := by decide +kernel
theorem dX4_lay_24 : decode cX4_lay 24 = .ok (.iload_n 2, 1) := by decide +kernel
theorem dX4_lay_25 : decode cX4_lay 25 = .ok (.iload_n 3, 1) := by decide +kernel
theorem dX4_lay_26 : decode cX4_lay 26 = .ok (.invokevirtual 79, 3) := by decide +kernel
theorem dX4_lay_29 : decode cX4_lay 29 = .ok (.istore 5, 2) := by decide +kernel
theorem dX4_lay_31 : decode cX4_lay 31 = .ok (.iload 5, 2) := by decide +kernel
theorem dX4_lay_33 : decode cX4_lay 33 = .ok (.ifCond .eq 6, 3) := by decide +kernel
theorem dX4_lay_36 : decode cX4_lay 36 = .ok (.iload 5, 2) := by decide +kernel
theorem dX4_lay_38 : decode cX4_lay 38 = .ok (.ireturn, 1) := by decide +kernel
theorem dX4_lay_39 : decode cX4_lay 39 = .ok (.aload_n 0, 1) := by decide +kernel
theorem dX4_lay_40 : decode cX4_lay 40 = .ok (.getfield 16, 3) := by decide +kernel
theorem dX4_lay_43 : decode cX4_lay 43 = .ok (.bipush 60, 2) := by decide +kernel
theorem dX4_lay_45 : decode cX4_lay 45 = .ok (.iload_n 1, 1) := by decide +kernel
theorem dX4_lay_46 : decode cX4_lay 46 = .ok (.imul, 1) := by decide +kernel
theorem dX4_lay_47 : decode cX4_lay 47 = .ok (.iload_n 3, 1) := by decide +kernel
theorem dX4_lay_48 : decode cX4_lay 48 = .ok (.iadd, 1) := by decide +kernel
theorem dX4_lay_49 : decode cX4_lay 49 = .ok (.iload_n 2, 1) := by decide +kernel
theorem dX4_lay_50 : decode cX4_lay 50 = .ok (.iload 4, 2) := by decide +kernel
theorem dX4_lay_52 : decode cX4_lay 52 = .ok (.invokestatic 83, 3) := by decide +kernel
theorem dX4_lay_55 : decode cX4_lay 55 = .ok (.iastore, 1) := by decide +kernel
theorem dX4_lay_56 : decode cX4_lay 56 = .ok (.iconst 1, 1) := by decide +kernel
theorem dX4_lay_57 : decode cX4_lay 57 = .ok (.ireturn, 1) := by decide +kernel
set_option maxRecDepth 20000 in
theorem ggX4_get_X4_isSheet : GoodIn wsX4_get wsX4_isSheet := goodIn_r _ [7, 8, 9, 10, 6, 11] (by decide +kernel) (by decide +kernel)
set_option maxRecDepth 20000 in
theorem gX4_get_X4_isSheet : GoodIn wsX4_get (va_wsS RX4 69 yX4_isSheet wsX4_isSheet) := goodIn_app (goodIn_of _ (by decide +kernel)) ggX4_get_X4_isSheet
set_option maxRecDepth 20000 in
theorem ggX4_get_X4_in : GoodIn wsX4_get wsX4_in := goodIn_r _ [11] (by decide +kernel) (by decide +kernel)
set_option maxRecDepth 20000 in
theorem gX4_get_X4_in : GoodIn wsX4_get (va_wsS RX4 60 yX4_in wsX4_in) := goodIn_app (goodIn_of _ (by decide +kernel)) ggX4_get_X4_in
set_option maxRecDepth 20000 in
theorem ggX4_get_X4_lacks : GoodIn wsX4_get wsX4_lacks := goodIn_r _ [15, 16, 17, 18, 19, 20, 6, 21, 22, 9, 10, 11, 23, 24, 25, 26, 27, 28, 29, 30, 31, 32, 33, 34, 35, 36, 37, 38, 39, 40, 41, 42, 43, 44, 45, 46, 47, 48, 49, 50, 51, 52] (by decide +kernel) (by decide +kernel)
set_option maxRecDepth 20000 in
theorem gX4_get_X4_lacks : GoodIn wsX4_get (wsV RX4 79 RX4 yX4_lacks wsX4_lacks) := goodIn_app (goodIn_of _ (by decide +kernel)) ggX4_get_X4_lacks
theorem dX4_get_0 : decode cX4_get 0 = .ok (.iload_n 1, 1) := by decide +kernel
theorem dX4_get_1 : decode cX4_get 1 = .ok (.invokestatic 69, 3) := by decide +kernel
theorem dX4_get_4 : decode cX4_get 4 = .ok (.ifCond .eq 25, 3) := by decide +kernel
theorem dX4_get_7 : decode cX4_get 7 = .ok (.iload_n 2, 1) := by decide +kernel
theorem dX4_get_8 : decode cX4_get 8 = .ok (.i2l, 1) := by decide +kernel
theorem dX4_get_9 : decode cX4_get 9 = .ok (.lconst 0, 1) := by decide +kernel
theorem dX4_get_10 : decode cX4_get 10 = .ok (.ldc2_w 73, 3) := by decide +kernel
theorem dX4_get_13 : decode cX4_get 13 = .ok (.invokestatic 60, 3) := by decide +kernel
theorem dX4_get_16 : decode cX4_get 16 = .ok (.ifCond .eq 13, 3) := by decide +kernel
theorem dX4_get_19 : decode cX4_get 19 = .ok (.aload_n 0, 1) := by decide +kernel
theorem dX4_get_20 : decode cX4_get 20 = .ok (.iload_n 1, 1) := by decide +kernel
theorem dX4_get_21 : decode cX4_get 21 = .ok (.iload_n 2, 1) := by decide +kernel
theorem dX4_get_22 : decode cX4_get 22 = .ok (.iload_n 3, 1) := by decide +kernel
theorem dX4_get_23 : decode cX4_get 23 = .ok (.invokevirtual 79, 3) := by decide +kernel
theorem dX4_get_26 : decode cX4_get 26 = .ok (.ifCond .eq 6, 3) := by decide +kernel
theorem dX4_get_29 : decode cX4_get 29 = .ok (.ldc 87, 2) := by decide +kernel
theorem dX4_get_31 : decode cX4_get 31 = .ok (.ireturn, 1) := by decide +kernel
theorem dX4_get_32 : decode cX4_get 32 = .ok (.aload_n 0, 1) := by decide +kernel
theorem dX4_get_33 : decode cX4_get 33 = .ok (.getfield 16, 3) := by decide +kernel
theorem dX4_get_36 : decode cX4_get 36 = .ok (.bipush 60, 2) := by decide +kernel
theorem dX4_get_38 : decode cX4_get 38 = .ok (.iload_n 1, 1) := by decide +kernel
theorem dX4_get_39 : decode cX4_get 39 = .ok (.imul, 1) := by decide +kernel
theorem dX4_get_40 : decode cX4_get 40 = .ok (.iload_n 3, 1) := by decide +kernel
theorem dX4_get_41 : decode cX4_get 41 = .ok (.iadd, 1) := by decide +kernel
theorem dX4_get_42 : decode cX4_get 42 = .ok (.iaload, 1) := by decide +kernel
theorem dX4_get_43 : decode cX4_get 43 = .ok (.ireturn, 1) := by decide +kernel
set_option maxRecDepth 20000 in
theorem ggX4_copy_X4_isSheet : GoodIn wsX4_copy wsX4_isSheet := goodIn_r _ [8, 9, 10, 11, 7, 12] (by decide +kernel) (by decide +kernel)
set_option maxRecDepth 20000 in
theorem gX4_copy_X4_isSheet : GoodIn wsX4_copy (va_wsS RX4 69 yX4_isSheet wsX4_isSheet) := goodIn_app (goodIn_of _ (by decide +kernel)) ggX4_copy_X4_isSheet
set_option maxRecDepth 20000 in
theorem ggX4_copy_X4_finds : GoodIn wsX4_copy wsX4_finds := goodIn_r _ [16, 17, 18, 19, 20, 21, 22, 23, 24, 25, 26, 27, 28, 29, 30, 31, 32, 33, 34, 35, 36, 37, 38, 39, 40, 41, 42, 43, 44, 45, 46, 47] (by decide +kernel) (by decide +kernel)
set_option maxRecDepth 20000 in
theorem gX4_copy_X4_finds : GoodIn wsX4_copy (wsV RX4 75 RX4 yX4_finds wsX4_finds) := goodIn_app (goodIn_of _ (by decide +kernel)) ggX4_copy_X4_finds
theorem dX4_copy_0 : decode cX4_copy 0 = .ok (.iload_n 1, 1) := by decide +kernel
theorem dX4_copy_1 : decode cX4_copy 1 = .ok (.invokestatic 69, 3) := by decide +kernel
theorem dX4_copy_4 : decode cX4_copy 4 = .ok (.ifCond .eq 10, 3) := by decide +kernel
theorem dX4_copy_7 : decode cX4_copy 7 = .ok (.iload_n 3, 1) := by decide +kernel
theorem dX4_copy_8 : decode cX4_copy 8 = .ok (.invokestatic 69, 3) := by decide +kernel
theorem dX4_copy_11 : decode cX4_copy 11 = .ok (.ifCond .ne 6, 3) := by decide +kernel
theorem dX4_copy_14 : decode cX4_copy 14 = .ok (.bipush (-2), 2) := by decide +kernel
theorem dX4_copy_16 : decode cX4_copy 16 = .ok (.ireturn, 1) := by decide +kernel
theorem dX4_copy_17 : decode cX4_copy 17 = .ok (.aload_n 0, 1) := by decide +kernel
theorem dX4_copy_18 : decode cX4_copy 18 = .ok (.getfield 7, 3) := by decide +kernel
theorem dX4_copy_21 : decode cX4_copy 21 = .ok (.iload_n 1, 1) := by decide +kernel
theorem dX4_copy_22 : decode cX4_copy 22 = .ok (.iaload, 1) := by decide +kernel
theorem dX4_copy_23 : decode cX4_copy 23 = .ok (.ifCond .lt 12, 3) := by decide +kernel
theorem dX4_copy_26 : decode cX4_copy 26 = .ok (.aload_n 0, 1) := by decide +kernel
theorem dX4_copy_27 : decode cX4_copy 27 = .ok (.getfield 7, 3) := by decide +kernel
theorem dX4_copy_30 : decode cX4_copy 30 = .ok (.iload_n 3, 1) := by decide +kernel
theorem dX4_copy_31 : decode cX4_copy 31 = .ok (.iaload, 1) := by decide +kernel
theorem dX4_copy_32 : decode cX4_copy 32 = .ok (.ifCond .ge 9, 3) := by decide +kernel
theorem dX4_copy_35 : decode cX4_copy 35 = .ok (.aload_n 0, 1) := by decide +kernel
theorem dX4_copy_36 : decode cX4_copy 36 = .ok (.iconst 1, 1) := by decide +kernel
theorem dX4_copy_37 : decode cX4_copy 37 = .ok (.invokevirtual 75, 3) := by decide +kernel
theorem dX4_copy_40 : decode cX4_copy 40 = .ok (.ireturn, 1) := by decide +kernel
theorem dX4_copy_41 : decode cX4_copy 41 = .ok (.aload_n 0, 1) := by decide +kernel
theorem dX4_copy_42 : decode cX4_copy 42 = .ok (.getfield 7, 3) := by decide +kernel
theorem dX4_copy_45 : decode cX4_copy 45 = .ok (.iload_n 1, 1) := by decide +kernel
theorem dX4_copy_46 : decode cX4_copy 46 = .ok (.iaload, 1) := by decide +kernel
theorem dX4_copy_47 : decode cX4_copy 47 = .ok (.aload_n 0, 1) := by decide +kernel
theorem dX4_copy_48 : decode cX4_copy 48 = .ok (.getfield 7, 3) := by decide +kernel
theorem dX4_copy_51 : decode cX4_copy 51 = .ok (.iload_n 3, 1) := by decide +kernel
theorem dX4_copy_52 : decode cX4_copy 52 = .ok (.iaload, 1) := by decide +kernel
theorem dX4_copy_53 : decode cX4_copy 53 = .ok (.if_icmp .eq 9, 3) := by decide +kernel
theorem dX4_copy_56 : decode cX4_copy 56 = .ok (.aload_n 0, 1) := by decide +kernel
theorem dX4_copy_57 : decode cX4_copy 57 = .ok (.iconst 4, 1) := by decide +kernel
theorem dX4_copy_58 : decode cX4_copy 58 = .ok (.invokevirtual 75, 3) := by decide +kernel
theorem dX4_copy_61 : decode cX4_copy 61 = .ok (.ireturn, 1) := by decide +kernel
theorem dX4_copy_62 : decode cX4_copy 62 = .ok (.iload_n 2, 1) := by decide +kernel
theorem dX4_copy_63 : decode cX4_copy 63 = .ok (.ifCond .lt 48, 3) := by decide +kernel
theorem dX4_copy_66 : decode cX4_copy 66 = .ok (.iload 4, 2) := by decide +kernel
theorem dX4_copy_68 : decode cX4_copy 68 = .ok (.ifCond .lt 43, 3) := by decide +kernel
theorem dX4_copy_71 : decode cX4_copy 71 = .ok (.iload 5, 2) := by decide +kernel
theorem dX4_copy_73 : decode cX4_copy 73 = .ok (.ifCond .lt 38, 3) := by decide +kernel
theorem dX4_copy_76 : decode cX4_copy 76 = .ok (.iload_n 2, 1) := by decide +kernel
theorem dX4_copy_77 : decode cX4_copy 77 = .ok (.i2l, 1) := by decide +kernel
theorem dX4_copy_78 : decode cX4_copy 78 = .ok (.iload 5, 2) := by decide +kernel
theorem dX4_copy_80 : decode cX4_copy 80 = .ok (.i2l, 1) := by decide +kernel
theorem dX4_copy_81 : decode cX4_copy 81 = .ok (.ladd, 1) := by decide +kernel
theorem dX4_copy_82 : decode cX4_copy 82 = .ok (.aload_n 0, 1) := by decide +kernel
theorem dX4_copy_83 : decode cX4_copy 83 = .ok (.getfield 13, 3) := by decide +kernel
theorem dX4_copy_86 : decode cX4_copy 86 = .ok (.iload_n 1, 1) := by decide +kernel
theorem dX4_copy_87 : decode cX4_copy 87 = .ok (.iaload, 1) := by decide +kernel
theorem dX4_copy_88 : decode cX4_copy 88 = .ok (.i2l, 1) := by decide +kernel
theorem dX4_copy_89 : decode cX4_copy 89 = .ok (.lcmp, 1) := by decide +kernel
theorem dX4_copy_90 : decode cX4_copy 90 = .ok (.ifCond .gt 21, 3) := by decide +kernel
theorem dX4_copy_93 : decode cX4_copy 93 = .ok (.iload 4, 2) := by decide +kernel
theorem dX4_copy_95 : decode cX4_copy 95 = .ok (.i2l, 1) := by decide +kernel
theorem dX4_copy_96 : decode cX4_copy 96 = .ok (.iload 5, 2) := by decide +kernel
theorem dX4_copy_98 : decode cX4_copy 98 = .ok (.i2l, 1) := by decide +kernel
theorem dX4_copy_99 : decode cX4_copy 99 = .ok (.ladd, 1) := by decide +kernel
theorem dX4_copy_100 : decode cX4_copy 100 = .ok (.aload_n 0, 1) := by decide +kernel
theorem dX4_copy_101 : decode cX4_copy 101 = .ok (.getfield 13, 3) := by decide +kernel
theorem dX4_copy_104 : decode cX4_copy 104 = .ok (.iload_n 3, 1) := by decide +kernel
theorem dX4_copy_105 : decode cX4_copy 105 = .ok (.iaload, 1) := by decide +kernel
theorem dX4_copy_106 : decode cX4_copy 106 = .ok (.i2l, 1) := by decide +kernel
theorem dX4_copy_107 : decode cX4_copy 107 = .ok (.lcmp, 1) := by decide +kernel
theorem dX4_copy_108 : decode cX4_copy 108 = .ok (.ifCond .le 9, 3) := by decide +kernel
theorem dX4_copy_111 : decode cX4_copy 111 = .ok (.aload_n 0, 1) := by decide +kernel
theorem dX4_copy_112 : decode cX4_copy 112 = .ok (.iconst 2, 1) := by decide +kernel
theorem dX4_copy_113 : decode cX4_copy 113 = .ok (.invokevirtual 75, 3) := by decide +kernel
theorem dX4_copy_116 : decode cX4_copy 116 = .ok (.ireturn, 1) := by decide +kernel
theorem dX4_copy_117 : decode cX4_copy 117 = .ok (.iconst 0, 1) := by decide +kernel
theorem dX4_copy_118 : decode cX4_copy 118 = .ok (.istore 6, 2) := by decide +kernel
theorem dX4_copy_120 : decode cX4_copy 120 = .ok (.iload 6, 2) := by decide +kernel
theorem dX4_copy_122 : decode cX4_copy 122 = .ok (.iload 5, 2) := by decide +kernel
theorem dX4_copy_124 : decode cX4_copy 124 = .ok (.if_icmp .ge 30, 3) := by decide +kernel
theorem dX4_copy_127 : decode cX4_copy 127 = .ok (.aload_n 0, 1) := by decide +kernel
theorem dX4_copy_128 : decode cX4_copy 128 = .ok (.getfield 19, 3) := by decide +kernel
theorem dX4_copy_131 : decode cX4_copy 131 = .ok (.iload 6, 2) := by decide +kernel
theorem dX4_copy_133 : decode cX4_copy 133 = .ok (.aload_n 0, 1) := by decide +kernel
theorem dX4_copy_134 : decode cX4_copy 134 = .ok (.getfield 16, 3) := by decide +kernel
theorem dX4_copy_137 : decode cX4_copy 137 = .ok (.bipush 60, 2) := by decide +kernel
theorem dX4_copy_139 : decode cX4_copy 139 = .ok (.iload_n 1, 1) := by decide +kernel
theorem dX4_copy_140 : decode cX4_copy 140 = .ok (.imul, 1) := by decide +kernel
theorem dX4_copy_141 : decode cX4_copy 141 = .ok (.iload_n 2, 1) := by decide +kernel
theorem dX4_copy_142 : decode cX4_copy 142 = .ok (.iadd, 1) := by decide +kernel
theorem dX4_copy_143 : decode cX4_copy 143 = .ok (.iload 6, 2) := by decide +kernel
theorem dX4_copy_145 : decode cX4_copy 145 = .ok (.iadd, 1) := by decide +kernel
theorem dX4_copy_146 : decode cX4_copy 146 = .ok (.iaload, 1) := by decide +kernel
theorem dX4_copy_147 : decode cX4_copy 147 = .ok (.iastore, 1) := by decide +kernel
theorem dX4_copy_148 : decode cX4_copy 148 = .ok (.iinc 6 1, 3) := by decide +kernel
theorem dX4_copy_151 : decode cX4_copy 151 = .ok (.goto (-31), 3) := by decide +kernel
theorem dX4_copy_154 : decode cX4_copy 154 = .ok (.iconst 0, 1) := by decide +kernel
theorem dX4_copy_155 : decode cX4_copy 155 = .ok (.istore 6, 2) := by decide +kernel
theorem dX4_copy_157 : decode cX4_copy 157 = .ok (.iload 6, 2) := by decide +kernel
theorem dX4_copy_159 : decode cX4_copy 159 = .ok (.iload 5, 2) := by decide +kernel
theorem dX4_copy_161 : decode cX4_copy 161 = .ok (.if_icmp .ge 31, 3) := by decide +kernel
theorem dX4_copy_164 : decode cX4_copy 164 = .ok (.aload_n 0, 1) := by decide +kernel
theorem dX4_copy_165 : decode cX4_copy 165 = .ok (.getfield 16, 3) := by decide +kernel
theorem dX4_copy_168 : decode cX4_copy 168 = .ok (.bipush 60, 2) := by decide +kernel
theorem dX4_copy_170 : decode cX4_copy 170 = .ok (.iload_n 3, 1) := by decide +kernel
theorem dX4_copy_171 : decode cX4_copy 171 = .ok (.imul, 1) := by decide +kernel
theorem dX4_copy_172 : decode cX4_copy 172 = .ok (.iload 4, 2) := by decide +kernel
theorem dX4_copy_174 : decode cX4_copy 174 = .ok (.iadd, 1) := by decide +kernel
theorem dX4_copy_175 : decode cX4_copy 175 = .ok (.iload 6, 2) := by decide +kernel
theorem dX4_copy_177 : decode cX4_copy 177 = .ok (.iadd, 1) := by decide +kernel
theorem dX4_copy_178 : decode cX4_copy 178 = .ok (.aload_n 0, 1) := by decide +kernel
theorem dX4_copy_179 : decode cX4_copy 179 = .ok (.getfield 19, 3) := by decide +kernel
theorem dX4_copy_182 : decode cX4_copy 182 = .ok (.iload 6, 2) := by decide +kernel
theorem dX4_copy_184 : decode cX4_copy 184 = .ok (.iaload, 1) := by decide +kernel
theorem dX4_copy_185 : decode cX4_copy 185 = .ok (.iastore, 1) := by decide +kernel
theorem dX4_copy_186 : decode cX4_copy 186 = .ok (.iinc 6 1, 3) := by decide +kernel
theorem dX4_copy_189 : decode cX4_copy 189 = .ok (.goto (-32), 3) := by decide +kernel
theorem dX4_copy_192 : decode cX4_copy 192 = .ok (.iconst 1, 1) := by decide +kernel
theorem dX4_copy_193 : decode cX4_copy 193 = .ok (.ireturn, 1) := by decide +kernel
set_option maxRecDepth 20000 in
theorem ggX4_head_X4_in : GoodIn wsX4_head wsX4_in := goodIn_r _ [7] (by decide +kernel) (by decide +kernel)
set_option maxRecDepth 20000 in
theorem gX4_head_X4_in : GoodIn wsX4_head (va_wsS RX4 60 yX4_in wsX4_in) := goodIn_app (goodIn_of _ (by decide +kernel)) ggX4_head_X4_in
theorem dX4_head_0 : decode cX4_head 0 = .ok (.iload_n 1, 1) := by decide +kernel
theorem dX4_head_1 : decode cX4_head 1 = .ok (.i2l, 1) := by decide +kernel
theorem dX4_head_2 : decode cX4_head 2 = .ok (.lconst 1, 1) := by decide +kernel
theorem dX4_head_3 : decode cX4_head 3 = .ok (.ldc2_w 88, 3) := by decide +kernel
theorem dX4_head_6 : decode cX4_head 6 = .ok (.invokestatic 60, 3) := by decide +kernel
theorem dX4_head_9 : decode cX4_head 9 = .ok (.ifCond .ne 6, 3) := by decide +kernel
theorem dX4_head_12 : decode cX4_head 12 = .ok (.bipush (-2), 2) := by decide +kernel
theorem dX4_head_14 : decode cX4_head 14 = .ok (.ireturn, 1) := by decide +kernel
theorem dX4_head_15 : decode cX4_head 15 = .ok (.aload_n 0, 1) := by decide +kernel
theorem dX4_head_16 : decode cX4_head 16 = .ok (.getfield 90, 3) := by decide +kernel
theorem dX4_head_19 : decode cX4_head 19 = .ok (.ifCond .eq 6, 3) := by decide +kernel
theorem dX4_head_22 : decode cX4_head 22 = .ok (.bipush (-3), 2) := by decide +kernel
theorem dX4_head_24 : decode cX4_head 24 = .ok (.ireturn, 1) := by decide +kernel
theorem dX4_head_25 : decode cX4_head 25 = .ok (.aload_n 0, 1) := by decide +kernel
theorem dX4_head_26 : decode cX4_head 26 = .ok (.getfield 56, 3) := by decide +kernel
theorem dX4_head_29 : decode cX4_head 29 = .ok (.istore_n 2, 1) := by decide +kernel
theorem dX4_head_30 : decode cX4_head 30 = .ok (.aload_n 0, 1) := by decide +kernel
theorem dX4_head_31 : decode cX4_head 31 = .ok (.iload_n 1, 1) := by decide +kernel
theorem dX4_head_32 : decode cX4_head 32 = .ok (.putfield 56, 3) := by decide +kernel
theorem dX4_head_35 : decode cX4_head 35 = .ok (.iload_n 2, 1) := by decide +kernel
theorem dX4_head_36 : decode cX4_head 36 = .ok (.ireturn, 1) := by decide +kernel
set_option maxRecDepth 20000 in
theorem ggX4_basin_X4_in : GoodIn wsX4_basin wsX4_in := goodIn_r _ [13] (by decide +kernel) (by decide +kernel)
set_option maxRecDepth 20000 in
theorem gX4_basin_X4_in : GoodIn wsX4_basin (va_wsS RX4 60 yX4_in wsX4_in) := goodIn_app (goodIn_of _ (by decide +kernel)) ggX4_basin_X4_in
theorem dX4_basin_0 : decode cX4_basin 0 = .ok (.iload_n 1, 1) := by decide +kernel
theorem dX4_basin_1 : decode cX4_basin 1 = .ok (.i2l, 1) := by decide +kernel
theorem dX4_basin_2 : decode cX4_basin 2 = .ok (.lconst 0, 1) := by decide +kernel
theorem dX4_basin_3 : decode cX4_basin 3 = .ok (.ldc2_w 94, 3) := by decide +kernel
theorem dX4_basin_6 : decode cX4_basin 6 = .ok (.invokestatic 60, 3) := by decide +kernel
theorem dX4_basin_9 : decode cX4_basin 9 = .ok (.ifCond .eq 27, 3) := by decide +kernel
theorem dX4_basin_12 : decode cX4_basin 12 = .ok (.iload_n 2, 1) := by decide +kernel
theorem dX4_basin_13 : decode cX4_basin 13 = .ok (.i2l, 1) := by decide +kernel
theorem dX4_basin_14 : decode cX4_basin 14 = .ok (.lconst 1, 1) := by decide +kernel
theorem dX4_basin_15 : decode cX4_basin 15 = .ok (.ldc2_w 88, 3) := by decide +kernel
theorem dX4_basin_18 : decode cX4_basin 18 = .ok (.invokestatic 60, 3) := by decide +kernel
theorem dX4_basin_21 : decode cX4_basin 21 = .ok (.ifCond .eq 15, 3) := by decide +kernel
theorem dX4_basin_24 : decode cX4_basin 24 = .ok (.iload_n 3, 1) := by decide +kernel
theorem dX4_basin_25 : decode cX4_basin 25 = .ok (.i2l, 1) := by decide +kernel
theorem dX4_basin_26 : decode cX4_basin 26 = .ok (.lconst 1, 1) := by decide +kernel
theorem dX4_basin_27 : decode cX4_basin 27 = .ok (.ldc2_w 67, 3) := by decide +kernel
theorem dX4_basin_30 : decode cX4_basin 30 = .ok (.invokestatic 60, 3) := by decide +kernel
theorem dX4_basin_33 : decode cX4_basin 33 = .ok (.ifCond .ne 6, 3) := by decide +kernel
theorem dX4_basin_36 : decode cX4_basin 36 = .ok (.bipush (-2), 2) := by decide +kernel
theorem dX4_basin_38 : decode cX4_basin 38 = .ok (.ireturn, 1) := by decide +kernel
theorem dX4_basin_39 : decode cX4_basin 39 = .ok (.aload_n 0, 1) := by decide +kernel
theorem dX4_basin_40 : decode cX4_basin 40 = .ok (.getfield 96, 3) := by decide +kernel
theorem dX4_basin_43 : decode cX4_basin 43 = .ok (.iconst 4, 1) := by decide +kernel
theorem dX4_basin_44 : decode cX4_basin 44 = .ok (.if_icmp .ne 6, 3) := by decide +kernel
theorem dX4_basin_47 : decode cX4_basin 47 = .ok (.bipush (-4), 2) := by decide +kernel
theorem dX4_basin_49 : decode cX4_basin 49 = .ok (.ireturn, 1) := by decide +kernel
theorem dX4_basin_50 : decode cX4_basin 50 = .ok (.aload_n 0, 1) := by decide +kernel
theorem dX4_basin_51 : decode cX4_basin 51 = .ok (.getfield 22, 3) := by decide +kernel
theorem dX4_basin_54 : decode cX4_basin 54 = .ok (.aload_n 0, 1) := by decide +kernel
theorem dX4_basin_55 : decode cX4_basin 55 = .ok (.getfield 96, 3) := by decide +kernel
theorem dX4_basin_58 : decode cX4_basin 58 = .ok (.iload_n 1, 1) := by decide +kernel
theorem dX4_basin_59 : decode cX4_basin 59 = .ok (.iastore, 1) := by decide +kernel
theorem dX4_basin_60 : decode cX4_basin 60 = .ok (.aload_n 0, 1) := by decide +kernel
theorem dX4_basin_61 : decode cX4_basin 61 = .ok (.getfield 25, 3) := by decide +kernel
theorem dX4_basin_64 : decode cX4_basin 64 = .ok (.aload_n 0, 1) := by decide +kernel
theorem dX4_basin_65 : decode cX4_basin 65 = .ok (.getfield 96, 3) := by decide +kernel
theorem dX4_basin_68 : decode cX4_basin 68 = .ok (.iload_n 2, 1) := by decide +kernel
theorem dX4_basin_69 : decode cX4_basin 69 = .ok (.iastore, 1) := by decide +kernel
theorem dX4_basin_70 : decode cX4_basin 70 = .ok (.aload_n 0, 1) := by decide +kernel
theorem dX4_basin_71 : decode cX4_basin 71 = .ok (.getfield 28, 3) := by decide +kernel
theorem dX4_basin_74 : decode cX4_basin 74 = .ok (.aload_n 0, 1) := by decide +kernel
theorem dX4_basin_75 : decode cX4_basin 75 = .ok (.getfield 96, 3) := by decide +kernel
theorem dX4_basin_78 : decode cX4_basin 78 = .ok (.iload_n 3, 1) := by decide +kernel
theorem dX4_basin_79 : decode cX4_basin 79 = .ok (.iastore, 1) := by decide +kernel
theorem dX4_basin_80 : decode cX4_basin 80 = .ok (.aload_n 0, 1) := by decide +kernel
theorem dX4_basin_81 : decode cX4_basin 81 = .ok (.getfield 31, 3) := by decide +kernel
theorem dX4_basin_84 : decode cX4_basin 84 = .ok (.aload_n 0, 1) := by decide +kernel
theorem dX4_basin_85 : decode cX4_basin 85 = .ok (.getfield 96, 3) := by decide +kernel
theorem dX4_basin_88 : decode cX4_basin 88 = .ok (.iconst 0, 1) := by decide +kernel
theorem dX4_basin_89 : decode cX4_basin 89 = .ok (.iastore, 1) := by decide +kernel
theorem dX4_basin_90 : decode cX4_basin 90 = .ok (.aload_n 0, 1) := by decide +kernel
theorem dX4_basin_91 : decode cX4_basin 91 = .ok (.getfield 34, 3) := by decide +kernel
theorem dX4_basin_94 : decode cX4_basin 94 = .ok (.aload_n 0, 1) := by decide +kernel
theorem dX4_basin_95 : decode cX4_basin 95 = .ok (.getfield 96, 3) := by decide +kernel
theorem dX4_basin_98 : decode cX4_basin 98 = .ok (.iconst 0, 1) := by decide +kernel
theorem dX4_basin_99 : decode cX4_basin 99 = .ok (.iastore, 1) := by decide +kernel
theorem dX4_basin_100 : decode cX4_basin 100 = .ok (.aload_n 0, 1) := by decide +kernel
theorem dX4_basin_101 : decode cX4_basin 101 = .ok (.dup, 1) := by decide +kernel
theorem dX4_basin_102 : decode cX4_basin 102 = .ok (.getfield 96, 3) := by decide +kernel
theorem dX4_basin_105 : decode cX4_basin 105 = .ok (.iconst 1, 1) := by decide +kernel
theorem dX4_basin_106 : decode cX4_basin 106 = .ok (.iadd, 1) := by decide +kernel
theorem dX4_basin_107 : decode cX4_basin 107 = .ok (.putfield 96, 3) := by decide +kernel
theorem dX4_basin_110 : decode cX4_basin 110 = .ok (.aload_n 0, 1) := by decide +kernel
theorem dX4_basin_111 : decode cX4_basin 111 = .ok (.getfield 96, 3) := by decide +kernel
theorem dX4_basin_114 : decode cX4_basin 114 = .ok (.ireturn, 1) := by decide +kernel
theorem dX4_back_0 : decode cX4_back 0 = .ok (.aload_n 0, 1) := by decide +kernel
theorem dX4_back_1 : decode cX4_back 1 = .ok (.getfield 96, 3) := by decide +kernel
theorem dX4_back_4 : decode cX4_back 4 = .ok (.ifCond .eq 17, 3) := by decide +kernel
theorem dX4_back_7 : decode cX4_back 7 = .ok (.aload_n 0, 1) := by decide +kernel
theorem dX4_back_8 : decode cX4_back 8 = .ok (.getfield 34, 3) := by decide +kernel
theorem dX4_back_11 : decode cX4_back 11 = .ok (.aload_n 0, 1) := by decide +kernel
theorem dX4_back_12 : decode cX4_back 12 = .ok (.getfield 96, 3) := by decide +kernel
theorem dX4_back_15 : decode cX4_back 15 = .ok (.iconst 1, 1) := by decide +kernel
theorem dX4_back_16 : decode cX4_back 16 = .ok (.isub, 1) := by decide +kernel
theorem dX4_back_17 : decode cX4_back 17 = .ok (.iaload, 1) := by decide +kernel
theorem dX4_back_18 : decode cX4_back 18 = .ok (.ifCond .le 6, 3) := by decide +kernel
theorem dX4_back_21 : decode cX4_back 21 = .ok (.bipush (-3), 2) := by decide +kernel
theorem dX4_back_23 : decode cX4_back 23 = .ok (.ireturn, 1) := by decide +kernel
theorem dX4_back_24 : decode cX4_back 24 = .ok (.aload_n 0, 1) := by decide +kernel
theorem dX4_back_25 : decode cX4_back 25 = .ok (.dup, 1) := by decide +kernel
theorem dX4_back_26 : decode cX4_back 26 = .ok (.getfield 96, 3) := by decide +kernel
theorem dX4_back_29 : decode cX4_back 29 = .ok (.iconst 1, 1) := by decide +kernel
theorem dX4_back_30 : decode cX4_back 30 = .ok (.isub, 1) := by decide +kernel
theorem dX4_back_31 : decode cX4_back 31 = .ok (.putfield 96, 3) := by decide +kernel
theorem dX4_back_34 : decode cX4_back 34 = .ok (.aload_n 0, 1) := by decide +kernel
theorem dX4_back_35 : decode cX4_back 35 = .ok (.dup, 1) := by decide +kernel
theorem dX4_back_36 : decode cX4_back 36 = .ok (.getfield 99, 3) := by decide +kernel
theorem dX4_back_39 : decode cX4_back 39 = .ok (.iconst 1, 1) := by decide +kernel
