theorem dX4_back_40 : decode cX4_back 40 = .ok (.aload_n 0, 1) := by decide +kernel
theorem dX4_back_41 : decode cX4_back 41 = .ok (.getfield 96, 3) := by decide +kernel
theorem dX4_back_44 : decode cX4_back 44 = .ok (.ishl, 1) := by decide +kernel
theorem dX4_back_45 : decode cX4_back 45 = .ok (.iconst (-1), 1) := by decide +kernel
theorem dX4_back_46 : decode cX4_back 46 = .ok (.ixor, 1) := by decide +kernel
theorem dX4_back_47 : decode cX4_back 47 = .ok (.iand, 1) := by decide +kernel
theorem dX4_back_48 : decode cX4_back 48 = .ok (.putfield 99, 3) := by decide +kernel
theorem dX4_back_51 : decode cX4_back 51 = .ok (.aload_n 0, 1) := by decide +kernel
theorem dX4_back_52 : decode cX4_back 52 = .ok (.getfield 96, 3) := by decide +kernel
theorem dX4_back_55 : decode cX4_back 55 = .ok (.ireturn, 1) := by decide +kernel
set_option maxRecDepth 20000 in
theorem ggX4_isBasin_X4_in : GoodIn wsX4_isBasin wsX4_in := goodIn_r _ [5] (by decide +kernel) (by decide +kernel)
set_option maxRecDepth 20000 in
theorem gX4_isBasin_X4_in : GoodIn wsX4_isBasin (va_wsS RX4 60 yX4_in wsX4_in) := goodIn_app (goodIn_of _ (by decide +kernel)) ggX4_isBasin_X4_in
theorem dX4_isBasin_0 : decode cX4_isBasin 0 = .ok (.iload_n 1, 1) := by decide +kernel
theorem dX4_isBasin_1 : decode cX4_isBasin 1 = .ok (.i2l, 1) := by decide +kernel
theorem dX4_isBasin_2 : decode cX4_isBasin 2 = .ok (.lconst 0, 1) := by decide +kernel
theorem dX4_isBasin_3 : decode cX4_isBasin 3 = .ok (.aload_n 0, 1) := by decide +kernel
theorem dX4_isBasin_4 : decode cX4_isBasin 4 = .ok (.getfield 96, 3) := by decide +kernel
theorem dX4_isBasin_7 : decode cX4_isBasin 7 = .ok (.iconst 1, 1) := by decide +kernel
theorem dX4_isBasin_8 : decode cX4_isBasin 8 = .ok (.isub, 1) := by decide +kernel
theorem dX4_isBasin_9 : decode cX4_isBasin 9 = .ok (.i2l, 1) := by decide +kernel
theorem dX4_isBasin_10 : decode cX4_isBasin 10 = .ok (.invokestatic 60, 3) := by decide +kernel
theorem dX4_isBasin_13 : decode cX4_isBasin 13 = .ok (.ireturn, 1) := by decide +kernel
set_option maxRecDepth 20000 in
theorem ggX4_out_X4_isBasin : GoodIn wsX4_out wsX4_isBasin := goodIn_r _ [6, 7, 8, 9, 5, 10, 11, 12, 13, 14, 15, 16, 17, 18, 19, 20, 21, 22, 23, 24, 25, 26, 27, 28, 29, 30, 31, 32, 33, 34, 35, 36, 37, 38, 39, 40] (by decide +kernel) (by decide +kernel)
set_option maxRecDepth 20000 in
theorem gX4_out_X4_isBasin : GoodIn wsX4_out (wsV RX4 102 RX4 yX4_isBasin wsX4_isBasin) := goodIn_app (goodIn_of _ (by decide +kernel)) ggX4_out_X4_isBasin
theorem dX4_out_0 : decode cX4_out 0 = .ok (.aload_n 0, 1) := by decide +kernel
theorem dX4_out_1 : decode cX4_out 1 = .ok (.iload_n 1, 1) := by decide +kernel
theorem dX4_out_2 : decode cX4_out 2 = .ok (.invokevirtual 102, 3) := by decide +kernel
theorem dX4_out_5 : decode cX4_out 5 = .ok (.ifCond .ne 6, 3) := by decide +kernel
theorem dX4_out_8 : decode cX4_out 8 = .ok (.bipush (-2), 2) := by decide +kernel
theorem dX4_out_10 : decode cX4_out 10 = .ok (.ireturn, 1) := by decide +kernel
theorem dX4_out_11 : decode cX4_out 11 = .ok (.aload_n 0, 1) := by decide +kernel
theorem dX4_out_12 : decode cX4_out 12 = .ok (.dup, 1) := by decide +kernel
theorem dX4_out_13 : decode cX4_out 13 = .ok (.getfield 99, 3) := by decide +kernel
theorem dX4_out_16 : decode cX4_out 16 = .ok (.iconst 1, 1) := by decide +kernel
theorem dX4_out_17 : decode cX4_out 17 = .ok (.iload_n 1, 1) := by decide +kernel
theorem dX4_out_18 : decode cX4_out 18 = .ok (.ishl, 1) := by decide +kernel
theorem dX4_out_19 : decode cX4_out 19 = .ok (.ixor, 1) := by decide +kernel
theorem dX4_out_20 : decode cX4_out 20 = .ok (.putfield 99, 3) := by decide +kernel
theorem dX4_out_23 : decode cX4_out 23 = .ok (.aload_n 0, 1) := by decide +kernel
theorem dX4_out_24 : decode cX4_out 24 = .ok (.getfield 99, 3) := by decide +kernel
theorem dX4_out_27 : decode cX4_out 27 = .ok (.ireturn, 1) := by decide +kernel
set_option maxRecDepth 20000 in
theorem ggX4_leak_X4_isBasin : GoodIn wsX4_leak wsX4_isBasin := goodIn_r _ [7, 8, 9, 10, 6, 11, 12, 13, 14, 15, 16, 17, 18, 19, 20, 21, 22, 23, 24, 25, 26, 27, 28, 29, 30, 31, 32, 33, 34, 35, 36, 37, 38, 39, 40, 41] (by decide +kernel) (by decide +kernel)
set_option maxRecDepth 20000 in
theorem gX4_leak_X4_isBasin : GoodIn wsX4_leak (wsV RX4 102 RX4 yX4_isBasin wsX4_isBasin) := goodIn_app (goodIn_of _ (by decide +kernel)) ggX4_leak_X4_isBasin
set_option maxRecDepth 20000 in
theorem ggX4_leak_X4_in : GoodIn wsX4_leak wsX4_in := goodIn_r _ [11] (by decide +kernel) (by decide +kernel)
set_option maxRecDepth 20000 in
theorem gX4_leak_X4_in : GoodIn wsX4_leak (va_wsS RX4 60 yX4_in wsX4_in) := goodIn_app (goodIn_of _ (by decide +kernel)) ggX4_leak_X4_in
theorem dX4_leak_0 : decode cX4_leak 0 = .ok (.aload_n 0, 1) := by decide +kernel
theorem dX4_leak_1 : decode cX4_leak 1 = .ok (.iload_n 1, 1) := by decide +kernel
theorem dX4_leak_2 : decode cX4_leak 2 = .ok (.invokevirtual 102, 3) := by decide +kernel
theorem dX4_leak_5 : decode cX4_leak 5 = .ok (.ifCond .eq 15, 3) := by decide +kernel
theorem dX4_leak_8 : decode cX4_leak 8 = .ok (.iload_n 2, 1) := by decide +kernel
theorem dX4_leak_9 : decode cX4_leak 9 = .ok (.i2l, 1) := by decide +kernel
theorem dX4_leak_10 : decode cX4_leak 10 = .ok (.lconst 0, 1) := by decide +kernel
theorem dX4_leak_11 : decode cX4_leak 11 = .ok (.ldc2_w 67, 3) := by decide +kernel
theorem dX4_leak_14 : decode cX4_leak 14 = .ok (.invokestatic 60, 3) := by decide +kernel
theorem dX4_leak_17 : decode cX4_leak 17 = .ok (.ifCond .ne 6, 3) := by decide +kernel
theorem dX4_leak_20 : decode cX4_leak 20 = .ok (.bipush (-2), 2) := by decide +kernel
theorem dX4_leak_22 : decode cX4_leak 22 = .ok (.ireturn, 1) := by decide +kernel
theorem dX4_leak_23 : decode cX4_leak 23 = .ok (.aload_n 0, 1) := by decide +kernel
theorem dX4_leak_24 : decode cX4_leak 24 = .ok (.getfield 31, 3) := by decide +kernel
theorem dX4_leak_27 : decode cX4_leak 27 = .ok (.iload_n 1, 1) := by decide +kernel
theorem dX4_leak_28 : decode cX4_leak 28 = .ok (.iaload, 1) := by decide +kernel
theorem dX4_leak_29 : decode cX4_leak 29 = .ok (.istore_n 3, 1) := by decide +kernel
theorem dX4_leak_30 : decode cX4_leak 30 = .ok (.aload_n 0, 1) := by decide +kernel
theorem dX4_leak_31 : decode cX4_leak 31 = .ok (.getfield 31, 3) := by decide +kernel
theorem dX4_leak_34 : decode cX4_leak 34 = .ok (.iload_n 1, 1) := by decide +kernel
theorem dX4_leak_35 : decode cX4_leak 35 = .ok (.iload_n 2, 1) := by decide +kernel
theorem dX4_leak_36 : decode cX4_leak 36 = .ok (.iastore, 1) := by decide +kernel
theorem dX4_leak_37 : decode cX4_leak 37 = .ok (.iload_n 3, 1) := by decide +kernel
theorem dX4_leak_38 : decode cX4_leak 38 = .ok (.ireturn, 1) := by decide +kernel
set_option maxRecDepth 20000 in
theorem ggX4_read_X4_isSheet : GoodIn wsX4_read wsX4_isSheet := goodIn_r _ [7, 8, 9, 10, 6, 11] (by decide +kernel) (by decide +kernel)
set_option maxRecDepth 20000 in
theorem gX4_read_X4_isSheet : GoodIn wsX4_read (va_wsS RX4 69 yX4_isSheet wsX4_isSheet) := goodIn_app (goodIn_of _ (by decide +kernel)) ggX4_read_X4_isSheet
set_option maxRecDepth 20000 in
theorem ggX4_read_X4_finds : GoodIn wsX4_read wsX4_finds := goodIn_r _ [15, 16, 29, 30, 31, 32, 33, 34, 35, 36, 37, 38, 39, 40, 41, 42, 43, 44, 45, 46, 47, 48, 49, 50, 51, 52, 53, 54, 55, 56, 57, 58] (by decide +kernel) (by decide +kernel)
set_option maxRecDepth 20000 in
theorem gX4_read_X4_finds : GoodIn wsX4_read (wsV RX4 75 RX4 yX4_finds wsX4_finds) := goodIn_app (goodIn_of _ (by decide +kernel)) ggX4_read_X4_finds
set_option maxRecDepth 20000 in
theorem ggX4_read_X4_basin : GoodIn wsX4_read wsX4_basin := goodIn_r _ [20, 21, 22, 8, 23, 24, 25, 26, 27, 28, 9, 10, 6, 11, 29, 30, 31, 32, 33, 34, 35, 36, 37, 38, 39, 40, 41, 42, 43, 44, 45, 46, 47, 48, 49, 50, 51, 52, 53, 54, 55, 56, 57, 58] (by decide +kernel) (by decide +kernel)
set_option maxRecDepth 20000 in
theorem gX4_read_X4_basin : GoodIn wsX4_read (wsV RX4 105 RX4 yX4_basin wsX4_basin) := goodIn_app (goodIn_of _ (by decide +kernel)) ggX4_read_X4_basin
theorem dX4_read_0 : decode cX4_read 0 = .ok (.iload_n 1, 1) := by decide +kernel
theorem dX4_read_1 : decode cX4_read 1 = .ok (.invokestatic 69, 3) := by decide +kernel
theorem dX4_read_4 : decode cX4_read 4 = .ok (.ifCond .ne 6, 3) := by decide +kernel
theorem dX4_read_7 : decode cX4_read 7 = .ok (.bipush (-2), 2) := by decide +kernel
theorem dX4_read_9 : decode cX4_read 9 = .ok (.ireturn, 1) := by decide +kernel
theorem dX4_read_10 : decode cX4_read 10 = .ok (.aload_n 0, 1) := by decide +kernel
theorem dX4_read_11 : decode cX4_read 11 = .ok (.getfield 7, 3) := by decide +kernel
theorem dX4_read_14 : decode cX4_read 14 = .ok (.iload_n 1, 1) := by decide +kernel
theorem dX4_read_15 : decode cX4_read 15 = .ok (.iaload, 1) := by decide +kernel
theorem dX4_read_16 : decode cX4_read 16 = .ok (.ifCond .ge 9, 3) := by decide +kernel
theorem dX4_read_19 : decode cX4_read 19 = .ok (.aload_n 0, 1) := by decide +kernel
theorem dX4_read_20 : decode cX4_read 20 = .ok (.iconst 1, 1) := by decide +kernel
theorem dX4_read_21 : decode cX4_read 21 = .ok (.invokevirtual 75, 3) := by decide +kernel
theorem dX4_read_24 : decode cX4_read 24 = .ok (.ireturn, 1) := by decide +kernel
theorem dX4_read_25 : decode cX4_read 25 = .ok (.iconst 0, 1) := by decide +kernel
theorem dX4_read_26 : decode cX4_read 26 = .ok (.istore_n 2, 1) := by decide +kernel
theorem dX4_read_27 : decode cX4_read 27 = .ok (.iconst 1, 1) := by decide +kernel
theorem dX4_read_28 : decode cX4_read 28 = .ok (.istore_n 3, 1) := by decide +kernel
theorem dX4_read_29 : decode cX4_read 29 = .ok (.iload_n 3, 1) := by decide +kernel
theorem dX4_read_30 : decode cX4_read 30 = .ok (.ifCond .eq 80, 3) := by decide +kernel
theorem dX4_read_33 : decode cX4_read 33 = .ok (.iconst 3, 1) := by decide +kernel
theorem dX4_read_34 : decode cX4_read 34 = .ok (.iload_n 2, 1) := by decide +kernel
theorem dX4_read_35 : decode cX4_read 35 = .ok (.imul, 1) := by decide +kernel
theorem dX4_read_36 : decode cX4_read 36 = .ok (.iconst 3, 1) := by decide +kernel
theorem dX4_read_37 : decode cX4_read 37 = .ok (.iadd, 1) := by decide +kernel
theorem dX4_read_38 : decode cX4_read 38 = .ok (.aload_n 0, 1) := by decide +kernel
theorem dX4_read_39 : decode cX4_read 39 = .ok (.getfield 13, 3) := by decide +kernel
theorem dX4_read_42 : decode cX4_read 42 = .ok (.iload_n 1, 1) := by decide +kernel
theorem dX4_read_43 : decode cX4_read 43 = .ok (.iaload, 1) := by decide +kernel
theorem dX4_read_44 : decode cX4_read 44 = .ok (.if_icmp .gt 66, 3) := by decide +kernel
theorem dX4_read_47 : decode cX4_read 47 = .ok (.bipush 60, 2) := by decide +kernel
theorem dX4_read_49 : decode cX4_read 49 = .ok (.iload_n 1, 1) := by decide +kernel
theorem dX4_read_50 : decode cX4_read 50 = .ok (.imul, 1) := by decide +kernel
theorem dX4_read_51 : decode cX4_read 51 = .ok (.iconst 3, 1) := by decide +kernel
theorem dX4_read_52 : decode cX4_read 52 = .ok (.iload_n 2, 1) := by decide +kernel
theorem dX4_read_53 : decode cX4_read 53 = .ok (.imul, 1) := by decide +kernel
theorem dX4_read_54 : decode cX4_read 54 = .ok (.iadd, 1) := by decide +kernel
theorem dX4_read_55 : decode cX4_read 55 = .ok (.istore 4, 2) := by decide +kernel
theorem dX4_read_57 : decode cX4_read 57 = .ok (.aload_n 0, 1) := by decide +kernel
theorem dX4_read_58 : decode cX4_read 58 = .ok (.aload_n 0, 1) := by decide +kernel
theorem dX4_read_59 : decode cX4_read 59 = .ok (.getfield 16, 3) := by decide +kernel
theorem dX4_read_62 : decode cX4_read 62 = .ok (.iload 4, 2) := by decide +kernel
theorem dX4_read_64 : decode cX4_read 64 = .ok (.iaload, 1) := by decide +kernel
theorem dX4_read_65 : decode cX4_read 65 = .ok (.aload_n 0, 1) := by decide +kernel
theorem dX4_read_66 : decode cX4_read 66 = .ok (.getfield 16, 3) := by decide +kernel
theorem dX4_read_69 : decode cX4_read 69 = .ok (.iload 4, 2) := by decide +kernel
theorem dX4_read_71 : decode cX4_read 71 = .ok (.iconst 1, 1) := by decide +kernel
theorem dX4_read_72 : decode cX4_read 72 = .ok (.iadd, 1) := by decide +kernel
theorem dX4_read_73 : decode cX4_read 73 = .ok (.iaload, 1) := by decide +kernel
theorem dX4_read_74 : decode cX4_read 74 = .ok (.aload_n 0, 1) := by decide +kernel
theorem dX4_read_75 : decode cX4_read 75 = .ok (.getfield 16, 3) := by decide +kernel
theorem dX4_read_78 : decode cX4_read 78 = .ok (.iload 4, 2) := by decide +kernel
theorem dX4_read_80 : decode cX4_read 80 = .ok (.iconst 2, 1) := by decide +kernel
theorem dX4_read_81 : decode cX4_read 81 = .ok (.iadd, 1) := by decide +kernel
theorem dX4_read_82 : decode cX4_read 82 = .ok (.iaload, 1) := by decide +kernel
theorem dX4_read_83 : decode cX4_read 83 = .ok (.invokevirtual 105, 3) := by decide +kernel
theorem dX4_read_86 : decode cX4_read 86 = .ok (.ifCond .lt 7, 3) := by decide +kernel
theorem dX4_read_89 : decode cX4_read 89 = .ok (.iconst 1, 1) := by decide +kernel
theorem dX4_read_90 : decode cX4_read 90 = .ok (.goto 4, 3) := by decide +kernel
theorem dX4_read_93 : decode cX4_read 93 = .ok (.iconst 0, 1) := by decide +kernel
theorem dX4_read_94 : decode cX4_read 94 = .ok (.istore_n 3, 1) := by decide +kernel
theorem dX4_read_95 : decode cX4_read 95 = .ok (.iload_n 2, 1) := by decide +kernel
theorem dX4_read_96 : decode cX4_read 96 = .ok (.iload_n 3, 1) := by decide +kernel
theorem dX4_read_97 : decode cX4_read 97 = .ok (.ifCond .eq 7, 3) := by decide +kernel
theorem dX4_read_100 : decode cX4_read 100 = .ok (.iconst 1, 1) := by decide +kernel
theorem dX4_read_101 : decode cX4_read 101 = .ok (.goto 4, 3) := by decide +kernel
theorem dX4_read_104 : decode cX4_read 104 = .ok (.iconst 0, 1) := by decide +kernel
theorem dX4_read_105 : decode cX4_read 105 = .ok (.iadd, 1) := by decide +kernel
theorem dX4_read_106 : decode cX4_read 106 = .ok (.istore_n 2, 1) := by decide +kernel
theorem dX4_read_107 : decode cX4_read 107 = .ok (.goto (-78), 3) := by decide +kernel
theorem dX4_read_110 : decode cX4_read 110 = .ok (.iload_n 2, 1) := by decide +kernel
theorem dX4_read_111 : decode cX4_read 111 = .ok (.ireturn, 1) := by decide +kernel
theorem dX4_levelOf_0 : decode cX4_levelOf 0 = .ok (.bipush 6, 2) := by decide +kernel
theorem dX4_levelOf_2 : decode cX4_levelOf 2 = .ok (.aload_n 0, 1) := by decide +kernel
theorem dX4_levelOf_3 : decode cX4_levelOf 3 = .ok (.getfield 22, 3) := by decide +kernel
theorem dX4_levelOf_6 : decode cX4_levelOf 6 = .ok (.iload_n 1, 1) := by decide +kernel
theorem dX4_levelOf_7 : decode cX4_levelOf 7 = .ok (.iaload, 1) := by decide +kernel
theorem dX4_levelOf_8 : decode cX4_levelOf 8 = .ok (.imul, 1) := by decide +kernel
theorem dX4_levelOf_9 : decode cX4_levelOf 9 = .ok (.iload_n 2, 1) := by decide +kernel
theorem dX4_levelOf_10 : decode cX4_levelOf 10 = .ok (.bipush 6, 2) := by decide +kernel
theorem dX4_levelOf_12 : decode cX4_levelOf 12 = .ok (.imul, 1) := by decide +kernel
theorem dX4_levelOf_13 : decode cX4_levelOf 13 = .ok (.aload_n 0, 1) := by decide +kernel
theorem dX4_levelOf_14 : decode cX4_levelOf 14 = .ok (.getfield 28, 3) := by decide +kernel
theorem dX4_levelOf_17 : decode cX4_levelOf 17 = .ok (.iload_n 1, 1) := by decide +kernel
theorem dX4_levelOf_18 : decode cX4_levelOf 18 = .ok (.iaload, 1) := by decide +kernel
theorem dX4_levelOf_19 : decode cX4_levelOf 19 = .ok (.idiv, 1) := by decide +kernel
theorem dX4_levelOf_20 : decode cX4_levelOf 20 = .ok (.iadd, 1) := by decide +kernel
theorem dX4_levelOf_21 : decode cX4_levelOf 21 = .ok (.ireturn, 1) := by decide +kernel
set_option maxRecDepth 20000 in
theorem ggX4_infoBy_X4_levelOf : GoodIn wsX4_infoBy wsX4_levelOf := goodIn_r _ [11, 1, 3, 12, 13, 14, 15, 16, 17, 18, 19, 20, 21, 22, 23, 24, 25, 26, 27, 28, 29, 30, 31, 32, 33, 34, 35, 36, 37, 38, 39, 40, 41] (by decide +kernel) (by decide +kernel)
set_option maxRecDepth 20000 in
theorem gX4_infoBy_X4_levelOf : GoodIn wsX4_infoBy (wsV RX4 108 RX4 yX4_levelOf wsX4_levelOf) := goodIn_app (goodIn_of _ (by decide +kernel)) ggX4_infoBy_X4_levelOf
theorem dX4_infoBy_0 : decode cX4_infoBy 0 = .ok (.iload_n 2, 1) := by decide +kernel
theorem dX4_infoBy_1 : decode cX4_infoBy 1 = .ok (.tableswitch 86 0 5 #[39, 46, 53, 60, 67, 74], 39) := by decide +kernel
theorem dX4_infoBy_40 : decode cX4_infoBy 40 = .ok (.aload_n 0, 1) := by decide +kernel
theorem dX4_infoBy_41 : decode cX4_infoBy 41 = .ok (.getfield 22, 3) := by decide +kernel
theorem dX4_infoBy_44 : decode cX4_infoBy 44 = .ok (.iload_n 1, 1) := by decide +kernel
theorem dX4_infoBy_45 : decode cX4_infoBy 45 = .ok (.iaload, 1) := by decide +kernel
theorem dX4_infoBy_46 : decode cX4_infoBy 46 = .ok (.ireturn, 1) := by decide +kernel
theorem dX4_infoBy_47 : decode cX4_infoBy 47 = .ok (.aload_n 0, 1) := by decide +kernel
theorem dX4_infoBy_48 : decode cX4_infoBy 48 = .ok (.getfield 25, 3) := by decide +kernel
theorem dX4_infoBy_51 : decode cX4_infoBy 51 = .ok (.iload_n 1, 1) := by decide +kernel
theorem dX4_infoBy_52 : decode cX4_infoBy 52 = .ok (.iaload, 1) := by decide +kernel
theorem dX4_infoBy_53 : decode cX4_infoBy 53 = .ok (.ireturn, 1) := by decide +kernel
theorem dX4_infoBy_54 : decode cX4_infoBy 54 = .ok (.aload_n 0, 1) := by decide +kernel
theorem dX4_infoBy_55 : decode cX4_infoBy 55 = .ok (.getfield 28, 3) := by decide +kernel
theorem dX4_infoBy_58 : decode cX4_infoBy 58 = .ok (.iload_n 1, 1) := by decide +kernel
theorem dX4_infoBy_59 : decode cX4_infoBy 59 = .ok (.iaload, 1) := by decide +kernel
theorem dX4_infoBy_60 : decode cX4_infoBy 60 = .ok (.ireturn, 1) := by decide +kernel
theorem dX4_infoBy_61 : decode cX4_infoBy 61 = .ok (.aload_n 0, 1) := by decide +kernel
theorem dX4_infoBy_62 : decode cX4_infoBy 62 = .ok (.getfield 31, 3) := by decide +kernel
theorem dX4_infoBy_65 : decode cX4_infoBy 65 = .ok (.iload_n 1, 1) := by decide +kernel
theorem dX4_infoBy_66 : decode cX4_infoBy 66 = .ok (.iaload, 1) := by decide +kernel
theorem dX4_infoBy_67 : decode cX4_infoBy 67 = .ok (.ireturn, 1) := by decide +kernel
theorem dX4_infoBy_68 : decode cX4_infoBy 68 = .ok (.aload_n 0, 1) := by decide +kernel
theorem dX4_infoBy_69 : decode cX4_infoBy 69 = .ok (.getfield 34, 3) := by decide +kernel
theorem dX4_infoBy_72 : decode cX4_infoBy 72 = .ok (.iload_n 1, 1) := by decide +kernel
theorem dX4_infoBy_73 : decode cX4_infoBy 73 = .ok (.iaload, 1) := by decide +kernel
theorem dX4_infoBy_74 : decode cX4_infoBy 74 = .ok (.ireturn, 1) := by decide +kernel
theorem dX4_infoBy_75 : decode cX4_infoBy 75 = .ok (.aload_n 0, 1) := by decide +kernel
theorem dX4_infoBy_76 : decode cX4_infoBy 76 = .ok (.iload_n 1, 1) := by decide +kernel
theorem dX4_infoBy_77 : decode cX4_infoBy 77 = .ok (.aload_n 0, 1) := by decide +kernel
theorem dX4_infoBy_78 : decode cX4_infoBy 78 = .ok (.getfield 34, 3) := by decide +kernel
theorem dX4_infoBy_81 : decode cX4_infoBy 81 = .ok (.iload_n 1, 1) := by decide +kernel
theorem dX4_infoBy_82 : decode cX4_infoBy 82 = .ok (.iaload, 1) := by decide +kernel
theorem dX4_infoBy_83 : decode cX4_infoBy 83 = .ok (.invokevirtual 108, 3) := by decide +kernel
theorem dX4_infoBy_86 : decode cX4_infoBy 86 = .ok (.ireturn, 1) := by decide +kernel
theorem dX4_infoBy_87 : decode cX4_infoBy 87 = .ok (.aload_n 0, 1) := by decide +kernel
theorem dX4_infoBy_88 : decode cX4_infoBy 88 = .ok (.getfield 99, 3) := by decide +kernel
theorem dX4_infoBy_91 : decode cX4_infoBy 91 = .ok (.iload_n 1, 1) := by decide +kernel
theorem dX4_infoBy_92 : decode cX4_infoBy 92 = .ok (.ishr, 1) := by decide +kernel
theorem dX4_infoBy_93 : decode cX4_infoBy 93 = .ok (.iconst 1, 1) := by decide +kernel
theorem dX4_infoBy_94 : decode cX4_infoBy 94 = .ok (.iand, 1) := by decide +kernel
theorem dX4_infoBy_95 : decode cX4_infoBy 95 = .ok (.ireturn, 1) := by decide +kernel
set_option maxRecDepth 20000 in
theorem ggX4_info_X4_isBasin : GoodIn wsX4_info wsX4_isBasin := goodIn_r _ [6, 7, 8, 9, 5, 10, 25, 26, 27, 28, 29, 30, 31, 32, 33, 34, 35, 36, 37, 38, 39, 40, 41, 42, 43, 44, 45, 46, 47, 48, 49, 50, 51, 52, 53, 54] (by decide +kernel) (by decide +kernel)
set_option maxRecDepth 20000 in
theorem gX4_info_X4_isBasin : GoodIn wsX4_info (wsV RX4 102 RX4 yX4_isBasin wsX4_isBasin) := goodIn_app (goodIn_of _ (by decide +kernel)) ggX4_info_X4_isBasin
set_option maxRecDepth 20000 in
theorem ggX4_info_X4_in : GoodIn wsX4_info wsX4_in := goodIn_r _ [10] (by decide +kernel) (by decide +kernel)
set_option maxRecDepth 20000 in
theorem gX4_info_X4_in : GoodIn wsX4_info (va_wsS RX4 60 yX4_in wsX4_in) := goodIn_app (goodIn_of _ (by decide +kernel)) ggX4_info_X4_in
set_option maxRecDepth 20000 in
theorem ggX4_info_X4_infoBy : GoodIn wsX4_info wsX4_infoBy := goodIn_r _ [14, 15, 16, 17, 18, 19, 20, 21, 22, 23, 5, 24, 25, 26, 27, 28, 29, 30, 31, 32, 33, 34, 35, 36, 37, 38, 39, 40, 41, 42, 43, 44, 45, 46, 47, 48, 49, 50, 51, 52, 53, 54] (by decide +kernel) (by decide +kernel)
set_option maxRecDepth 20000 in
theorem gX4_info_X4_infoBy : GoodIn wsX4_info (wsV RX4 113 RX4 yX4_infoBy wsX4_infoBy) := goodIn_app (goodIn_of _ (by decide +kernel)) ggX4_info_X4_infoBy
theorem dX4_info_0 : decode cX4_info 0 = .ok (.aload_n 0, 1) := by decide +kernel
theorem dX4_info_1 : decode cX4_info 1 = .ok (.iload_n 1, 1) := by decide +kernel
theorem dX4_info_2 : decode cX4_info 2 = .ok (.invokevirtual 102, 3) := by decide +kernel
theorem dX4_info_5 : decode cX4_info 5 = .ok (.ifCond .eq 24, 3) := by decide +kernel
theorem dX4_info_8 : decode cX4_info 8 = .ok (.iload_n 2, 1) := by decide +kernel
theorem dX4_info_9 : decode cX4_info 9 = .ok (.i2l, 1) := by decide +kernel
theorem dX4_info_10 : decode cX4_info 10 = .ok (.lconst 0, 1) := by decide +kernel
theorem dX4_info_11 : decode cX4_info 11 = .ok (.ldc2_w 111, 3) := by decide +kernel
theorem dX4_info_14 : decode cX4_info 14 = .ok (.invokestatic 60, 3) := by decide +kernel
theorem dX4_info_17 : decode cX4_info 17 = .ok (.ifCond .eq 12, 3) := by decide +kernel
theorem dX4_info_20 : decode cX4_info 20 = .ok (.aload_n 0, 1) := by decide +kernel
theorem dX4_info_21 : decode cX4_info 21 = .ok (.iload_n 1, 1) := by decide +kernel
theorem dX4_info_22 : decode cX4_info 22 = .ok (.iload_n 2, 1) := by decide +kernel
theorem dX4_info_23 : decode cX4_info 23 = .ok (.invokevirtual 113, 3) := by decide +kernel
theorem dX4_info_26 : decode cX4_info 26 = .ok (.goto 5, 3) := by decide +kernel
theorem dX4_info_29 : decode cX4_info 29 = .ok (.bipush (-2), 2) := by decide +kernel
theorem dX4_info_31 : decode cX4_info 31 = .ok (.ireturn, 1) := by decide +kernel
theorem dX4_chamberBy_0 : decode cX4_chamberBy 0 = .ok (.aload_n 0, 1) := by decide +kernel
theorem dX4_chamberBy_1 : decode cX4_chamberBy 1 = .ok (.getfield 90, 3) := by decide +kernel
theorem dX4_chamberBy_4 : decode cX4_chamberBy 4 = .ok (.ifCond .eq 10, 3) := by decide +kernel
theorem dX4_chamberBy_7 : decode cX4_chamberBy 7 = .ok (.aload_n 0, 1) := by decide +kernel
theorem dX4_chamberBy_8 : decode cX4_chamberBy 8 = .ok (.getfield 56, 3) := by decide +kernel
theorem dX4_chamberBy_11 : decode cX4_chamberBy 11 = .ok (.goto 4, 3) := by decide +kernel
theorem dX4_chamberBy_14 : decode cX4_chamberBy 14 = .ok (.iconst 0, 1) := by decide +kernel
theorem dX4_chamberBy_15 : decode cX4_chamberBy 15 = .ok (.istore_n 2, 1) := by decide +kernel
theorem dX4_chamberBy_16 : decode cX4_chamberBy 16 = .ok (.iload_n 1, 1) := by decide +kernel
theorem dX4_chamberBy_17 : decode cX4_chamberBy 17 = .ok (.ifCond .ne 7, 3) := by decide +kernel
theorem dX4_chamberBy_20 : decode cX4_chamberBy 20 = .ok (.iload_n 2, 1) := by decide +kernel
theorem dX4_chamberBy_21 : decode cX4_chamberBy 21 = .ok (.goto 19, 3) := by decide +kernel
theorem dX4_chamberBy_24 : decode cX4_chamberBy 24 = .ok (.iload_n 1, 1) := by decide +kernel
theorem dX4_chamberBy_25 : decode cX4_chamberBy 25 = .ok (.iconst 1, 1) := by decide +kernel
theorem dX4_chamberBy_26 : decode cX4_chamberBy 26 = .ok (.if_icmp .ne 10, 3) := by decide +kernel
theorem dX4_chamberBy_29 : decode cX4_chamberBy 29 = .ok (.bipush 6, 2) := by decide +kernel
theorem dX4_chamberBy_31 : decode cX4_chamberBy 31 = .ok (.iload_n 2, 1) := by decide +kernel
theorem dX4_chamberBy_32 : decode cX4_chamberBy 32 = .ok (.imul, 1) := by decide +kernel
theorem dX4_chamberBy_33 : decode cX4_chamberBy 33 = .ok (.goto 7, 3) := by decide +kernel
theorem dX4_chamberBy_36 : decode cX4_chamberBy 36 = .ok (.aload_n 0, 1) := by decide +kernel
theorem dX4_chamberBy_37 : decode cX4_chamberBy 37 = .ok (.getfield 56, 3) := by decide +kernel
theorem dX4_chamberBy_40 : decode cX4_chamberBy 40 = .ok (.ireturn, 1) := by decide +kernel
set_option maxRecDepth 20000 in
theorem ggX4_chamber_X4_in : GoodIn wsX4_chamber wsX4_in := goodIn_r _ [5] (by decide +kernel) (by decide +kernel)
set_option maxRecDepth 20000 in
theorem gX4_chamber_X4_in : GoodIn wsX4_chamber (va_wsS RX4 60 yX4_in wsX4_in) := goodIn_app (goodIn_of _ (by decide +kernel)) ggX4_chamber_X4_in
set_option maxRecDepth 20000 in
theorem ggX4_chamber_X4_chamberBy : GoodIn wsX4_chamber wsX4_chamberBy := goodIn_r _ [9, 10, 11, 12, 13, 14, 15, 16, 17, 18, 19, 20, 21, 22, 23, 24, 25, 26, 27, 28, 29, 30, 31, 32, 33, 34, 35, 36, 37, 38, 39, 40, 41] (by decide +kernel) (by decide +kernel)
set_option maxRecDepth 20000 in
theorem gX4_chamber_X4_chamberBy : GoodIn wsX4_chamber (wsV RX4 116 RX4 yX4_chamberBy wsX4_chamberBy) := goodIn_app (goodIn_of _ (by decide +kernel)) ggX4_chamber_X4_chamberBy
theorem dX4_chamber_0 : decode cX4_chamber 0 = .ok (.iload_n 1, 1) := by decide +kernel
theorem dX4_chamber_1 : decode cX4_chamber 1 = .ok (.i2l, 1) := by decide +kernel
theorem dX4_chamber_2 : decode cX4_chamber 2 = .ok (.lconst 0, 1) := by decide +kernel
theorem dX4_chamber_3 : decode cX4_chamber 3 = .ok (.ldc2_w 73, 3) := by decide +kernel
theorem dX4_chamber_6 : decode cX4_chamber 6 = .ok (.invokestatic 60, 3) := by decide +kernel
theorem dX4_chamber_9 : decode cX4_chamber 9 = .ok (.ifCond .eq 11, 3) := by decide +kernel
theorem dX4_chamber_12 : decode cX4_chamber 12 = .ok (.aload_n 0, 1) := by decide +kernel
theorem dX4_chamber_13 : decode cX4_chamber 13 = .ok (.iload_n 1, 1) := by decide +kernel
theorem dX4_chamber_14 : decode cX4_chamber 14 = .ok (.invokevirtual 116, 3) := by decide +kernel
theorem dX4_chamber_17 : decode cX4_chamber 17 = .ok (.goto 5, 3) := by decide +kernel
theorem dX4_chamber_20 : decode cX4_chamber 20 = .ok (.bipush (-2), 2) := by decide +kernel
theorem dX4_chamber_22 : decode cX4_chamber 22 = .ok (.ireturn, 1) := by decide +kernel
theorem dX4_manyWait_0 : decode cX4_manyWait 0 = .ok (.iconst 0, 1) := by decide +kernel
theorem dX4_manyWait_1 : decode cX4_manyWait 1 = .ok (.istore_n 2, 1) := by decide +kernel
theorem dX4_manyWait_2 : decode cX4_manyWait 2 = .ok (.iconst 0, 1) := by decide +kernel
theorem dX4_manyWait_3 : decode cX4_manyWait 3 = .ok (.istore_n 3, 1) := by decide +kernel
theorem dX4_manyWait_4 : decode cX4_manyWait 4 = .ok (.iload_n 3, 1) := by decide +kernel
theorem dX4_manyWait_5 : decode cX4_manyWait 5 = .ok (.aload_n 0, 1) := by decide +kernel
theorem dX4_manyWait_6 : decode cX4_manyWait 6 = .ok (.getfield 119, 3) := by decide +kernel
theorem dX4_manyWait_9 : decode cX4_manyWait 9 = .ok (.if_icmp .ge 36, 3) := by decide +kernel
theorem dX4_manyWait_12 : decode cX4_manyWait 12 = .ok (.iload_n 2, 1) := by decide +kernel
theorem dX4_manyWait_13 : decode cX4_manyWait 13 = .ok (.aload_n 0, 1) := by decide +kernel
theorem dX4_manyWait_14 : decode cX4_manyWait 14 = .ok (.getfield 40, 3) := by decide +kernel
theorem dX4_manyWait_17 : decode cX4_manyWait 17 = .ok (.iload_n 3, 1) := by decide +kernel
theorem dX4_manyWait_18 : decode cX4_manyWait 18 = .ok (.baload, 1) := by decide +kernel
theorem dX4_manyWait_19 : decode cX4_manyWait 19 = .ok (.ifCond .eq 17, 3) := by decide +kernel
theorem dX4_manyWait_22 : decode cX4_manyWait 22 = .ok (.aload_n 0, 1) := by decide +kernel
theorem dX4_manyWait_23 : decode cX4_manyWait 23 = .ok (.getfield 37, 3) := by decide +kernel
theorem dX4_manyWait_26 : decode cX4_manyWait 26 = .ok (.iload_n 3, 1) := by decide +kernel
theorem dX4_manyWait_27 : decode cX4_manyWait 27 = .ok (.iaload, 1) := by decide +kernel
theorem dX4_manyWait_28 : decode cX4_manyWait 28 = .ok (.iload_n 1, 1) := by decide +kernel
theorem dX4_manyWait_29 : decode cX4_manyWait 29 = .ok (.if_icmp .ne 7, 3) := by decide +kernel
theorem dX4_manyWait_32 : decode cX4_manyWait 32 = .ok (.iconst 1, 1) := by decide +kernel
theorem dX4_manyWait_33 : decode cX4_manyWait 33 = .ok (.goto 4, 3) := by decide +kernel
theorem dX4_manyWait_36 : decode cX4_manyWait 36 = .ok (.iconst 0, 1) := by decide +kernel
theorem dX4_manyWait_37 : decode cX4_manyWait 37 = .ok (.iadd, 1) := by decide +kernel
theorem dX4_manyWait_38 : decode cX4_manyWait 38 = .ok (.istore_n 2, 1) := by decide +kernel
theorem dX4_manyWait_39 : decode cX4_manyWait 39 = .ok (.iinc 3 1, 3) := by decide +kernel
theorem dX4_manyWait_42 : decode cX4_manyWait 42 = .ok (.goto (-38), 3) := by decide +kernel
theorem dX4_manyWait_45 : decode cX4_manyWait 45 = .ok (.iload_n 2, 1) := by decide +kernel
theorem dX4_manyWait_46 : decode cX4_manyWait 46 = .ok (.ireturn, 1) := by decide +kernel
set_option maxRecDepth 20000 in
theorem ggX4_boat_X4_isTwo : GoodIn wsX4_boat wsX4_isTwo := goodIn_r _ [7, 8, 9, 6, 10] (by decide +kernel) (by decide +kernel)
set_option maxRecDepth 20000 in
theorem gX4_boat_X4_isTwo : GoodIn wsX4_boat (va_wsS RX4 122 yX4_isTwo wsX4_isTwo) := goodIn_app (goodIn_of _ (by decide +kernel)) ggX4_boat_X4_isTwo
set_option maxRecDepth 20000 in
theorem ggX4_boat_X4_manyWait : GoodIn wsX4_boat wsX4_manyWait := goodIn_r _ [14, 1, 3, 2, 15, 16, 17, 18, 19, 20, 21, 22, 23, 24, 25, 26, 27, 28, 29, 30, 31, 32, 33, 34, 35, 36, 37, 38, 39, 40, 41, 42, 43, 44] (by decide +kernel) (by decide +kernel)
set_option maxRecDepth 20000 in
theorem gX4_boat_X4_manyWait : GoodIn wsX4_boat (wsV RX4 125 RX4 yX4_manyWait wsX4_manyWait) := goodIn_app (goodIn_of _ (by decide +kernel)) ggX4_boat_X4_manyWait
theorem dX4_boat_0 : decode cX4_boat 0 = .ok (.iload_n 1, 1) := by decide +kernel
theorem dX4_boat_1 : decode cX4_boat 1 = .ok (.invokestatic 122, 3) := by decide +kernel
theorem dX4_boat_4 : decode cX4_boat 4 = .ok (.ifCond .ne 6, 3) := by decide +kernel
theorem dX4_boat_7 : decode cX4_boat 7 = .ok (.bipush (-2), 2) := by decide +kernel
theorem dX4_boat_9 : decode cX4_boat 9 = .ok (.ireturn, 1) := by decide +kernel
theorem dX4_boat_10 : decode cX4_boat 10 = .ok (.aload_n 0, 1) := by decide +kernel
theorem dX4_boat_11 : decode cX4_boat 11 = .ok (.getfield 119, 3) := by decide +kernel
theorem dX4_boat_14 : decode cX4_boat 14 = .ok (.bipush 100, 2) := by decide +kernel
theorem dX4_boat_16 : decode cX4_boat 16 = .ok (.if_icmp .eq 13, 3) := by decide +kernel
theorem dX4_boat_19 : decode cX4_boat 19 = .ok (.aload_n 0, 1) := by decide +kernel
theorem dX4_boat_20 : decode cX4_boat 20 = .ok (.iload_n 1, 1) := by decide +kernel
theorem dX4_boat_21 : decode cX4_boat 21 = .ok (.invokevirtual 125, 3) := by decide +kernel
theorem dX4_boat_24 : decode cX4_boat 24 = .ok (.bipush 16, 2) := by decide +kernel
theorem dX4_boat_26 : decode cX4_boat 26 = .ok (.if_icmp .ne 6, 3) := by decide +kernel
theorem dX4_boat_29 : decode cX4_boat 29 = .ok (.bipush (-4), 2) := by decide +kernel
theorem dX4_boat_31 : decode cX4_boat 31 = .ok (.ireturn, 1) := by decide +kernel
theorem dX4_boat_32 : decode cX4_boat 32 = .ok (.aload_n 0, 1) := by decide +kernel
theorem dX4_boat_33 : decode cX4_boat 33 = .ok (.getfield 37, 3) := by decide +kernel
theorem dX4_boat_36 : decode cX4_boat 36 = .ok (.aload_n 0, 1) := by decide +kernel
theorem dX4_boat_37 : decode cX4_boat 37 = .ok (.getfield 119, 3) := by decide +kernel
theorem dX4_boat_40 : decode cX4_boat 40 = .ok (.iload_n 1, 1) := by decide +kernel
theorem dX4_boat_41 : decode cX4_boat 41 = .ok (.iastore, 1) := by decide +kernel
theorem dX4_boat_42 : decode cX4_boat 42 = .ok (.aload_n 0, 1) := by decide +kernel
theorem dX4_boat_43 : decode cX4_boat 43 = .ok (.getfield 40, 3) := by decide +kernel
theorem dX4_boat_46 : decode cX4_boat 46 = .ok (.aload_n 0, 1) := by decide +kernel
theorem dX4_boat_47 : decode cX4_boat 47 = .ok (.getfield 119, 3) := by decide +kernel
theorem dX4_boat_50 : decode cX4_boat 50 = .ok (.iconst 1, 1) := by decide +kernel
theorem dX4_boat_51 : decode cX4_boat 51 = .ok (.bastore, 1) := by decide +kernel
theorem dX4_boat_52 : decode cX4_boat 52 = .ok (.aload_n 0, 1) := by decide +kernel
theorem dX4_boat_53 : decode cX4_boat 53 = .ok (.dup, 1) := by decide +kernel
theorem dX4_boat_54 : decode cX4_boat 54 = .ok (.getfield 119, 3) := by decide +kernel
theorem dX4_boat_57 : decode cX4_boat 57 = .ok (.iconst 1, 1) := by decide +kernel
theorem dX4_boat_58 : decode cX4_boat 58 = .ok (.iadd, 1) := by decide +kernel
theorem dX4_boat_59 : decode cX4_boat 59 = .ok (.putfield 119, 3) := by decide +kernel
theorem dX4_boat_62 : decode cX4_boat 62 = .ok (.aload_n 0, 1) := by decide +kernel
theorem dX4_boat_63 : decode cX4_boat 63 = .ok (.getfield 119, 3) := by decide +kernel
theorem dX4_boat_66 : decode cX4_boat 66 = .ok (.iconst 1, 1) := by decide +kernel
theorem dX4_boat_67 : decode cX4_boat 67 = .ok (.isub, 1) := by decide +kernel
theorem dX4_boat_68 : decode cX4_boat 68 = .ok (.ireturn, 1) := by decide +kernel
set_option maxRecDepth 20000 in
theorem ggX4_leave_X4_manyWait : GoodIn wsX4_leave wsX4_manyWait := goodIn_r _ [8, 1, 2, 3, 9, 10, 11, 12, 13, 14, 15, 16, 17, 18, 19, 20, 21, 22, 23, 24, 25, 26, 27, 28, 29, 30, 31, 32, 33, 34, 35, 36, 37, 38] (by decide +kernel) (by decide +kernel)
set_option maxRecDepth 20000 in
theorem gX4_leave_X4_manyWait : GoodIn wsX4_leave (wsV RX4 125 RX4 yX4_manyWait wsX4_manyWait) := goodIn_app (goodIn_of _ (by decide +kernel)) ggX4_leave_X4_manyWait
theorem dX4_leave_0 : decode cX4_leave 0 = .ok (.iload_n 1, 1) := by decide +kernel
theorem dX4_leave_1 : decode cX4_leave 1 = .ok (.ifCond .ge 6, 3) := by decide +kernel
theorem dX4_leave_4 : decode cX4_leave 4 = .ok (.bipush (-2), 2) := by decide +kernel
theorem dX4_leave_6 : decode cX4_leave 6 = .ok (.ireturn, 1) := by decide +kernel
theorem dX4_leave_7 : decode cX4_leave 7 = .ok (.iload_n 1, 1) := by decide +kernel
theorem dX4_leave_8 : decode cX4_leave 8 = .ok (.aload_n 0, 1) := by decide +kernel
theorem dX4_leave_9 : decode cX4_leave 9 = .ok (.getfield 119, 3) := by decide +kernel
theorem dX4_leave_12 : decode cX4_leave 12 = .ok (.if_icmp .ge 12, 3) := by decide +kernel
theorem dX4_leave_15 : decode cX4_leave 15 = .ok (.aload_n 0, 1) := by decide +kernel
theorem dX4_leave_16 : decode cX4_leave 16 = .ok (.getfield 40, 3) := by decide +kernel
theorem dX4_leave_19 : decode cX4_leave 19 = .ok (.iload_n 1, 1) := by decide +kernel
theorem dX4_leave_20 : decode cX4_leave 20 = .ok (.baload, 1) := by decide +kernel
theorem dX4_leave_21 : decode cX4_leave 21 = .ok (.ifCond .ne 6, 3) := by decide +kernel
theorem dX4_leave_24 : decode cX4_leave 24 = .ok (.bipush (-3), 2) := by decide +kernel
theorem dX4_leave_26 : decode cX4_leave 26 = .ok (.ireturn, 1) := by decide +kernel
theorem dX4_leave_27 : decode cX4_leave 27 = .ok (.aload_n 0, 1) := by decide +kernel
theorem dX4_leave_28 : decode cX4_leave 28 = .ok (.getfield 40, 3) := by decide +kernel
theorem dX4_leave_31 : decode cX4_leave 31 = .ok (.iload_n 1, 1) := by decide +kernel
theorem dX4_leave_32 : decode cX4_leave 32 = .ok (.iconst 0, 1) := by decide +kernel
theorem dX4_leave_33 : decode cX4_leave 33 = .ok (.bastore, 1) := by decide +kernel
theorem dX4_leave_34 : decode cX4_leave 34 = .ok (.aload_n 0, 1) := by decide +kernel
theorem dX4_leave_35 : decode cX4_leave 35 = .ok (.aload_n 0, 1) := by decide +kernel
theorem dX4_leave_36 : decode cX4_leave 36 = .ok (.getfield 37, 3) := by decide +kernel
theorem dX4_leave_39 : decode cX4_leave 39 = .ok (.iload_n 1, 1) := by decide +kernel
theorem dX4_leave_40 : decode cX4_leave 40 = .ok (.iaload, 1) := by decide +kernel
theorem dX4_leave_41 : decode cX4_leave 41 = .ok (.invokevirtual 125, 3) := by decide +kernel
theorem dX4_leave_44 : decode cX4_leave 44 = .ok (.ireturn, 1) := by decide +kernel
theorem dX4_waitsBy_0 : decode cX4_waitsBy 0 = .ok (.iconst 0, 1) := by decide +kernel
theorem dX4_waitsBy_1 : decode cX4_waitsBy 1 = .ok (.istore_n 3, 1) := by decide +kernel
theorem dX4_waitsBy_2 : decode cX4_waitsBy 2 = .ok (.iconst (-1), 1) := by decide +kernel
theorem dX4_waitsBy_3 : decode cX4_waitsBy 3 = .ok (.istore 4, 2) := by decide +kernel
theorem dX4_waitsBy_5 : decode cX4_waitsBy 5 = .ok (.iconst 0, 1) := by decide +kernel
theorem dX4_waitsBy_6 : decode cX4_waitsBy 6 = .ok (.istore 5, 2) := by decide +kernel
theorem dX4_waitsBy_8 : decode cX4_waitsBy 8 = .ok (.iload 5, 2) := by decide +kernel
theorem dX4_waitsBy_10 : decode cX4_waitsBy 10 = .ok (.aload_n 0, 1) := by decide +kernel
theorem dX4_waitsBy_11 : decode cX4_waitsBy 11 = .ok (.getfield 119, 3) := by decide +kernel
theorem dX4_waitsBy_14 : decode cX4_waitsBy 14 = .ok (.if_icmp .ge 47, 3) := by decide +kernel
theorem dX4_waitsBy_17 : decode cX4_waitsBy 17 = .ok (.aload_n 0, 1) := by decide +kernel
theorem dX4_waitsBy_18 : decode cX4_waitsBy 18 = .ok (.getfield 40, 3) := by decide +kernel
theorem dX4_waitsBy_21 : decode cX4_waitsBy 21 = .ok (.iload 5, 2) := by decide +kernel
theorem dX4_waitsBy_23 : decode cX4_waitsBy 23 = .ok (.baload, 1) := by decide +kernel
theorem dX4_waitsBy_24 : decode cX4_waitsBy 24 = .ok (.ifCond .eq 31, 3) := by decide +kernel
theorem dX4_waitsBy_27 : decode cX4_waitsBy 27 = .ok (.aload_n 0, 1) := by decide +kernel
theorem dX4_waitsBy_28 : decode cX4_waitsBy 28 = .ok (.getfield 37, 3) := by decide +kernel
theorem dX4_waitsBy_31 : decode cX4_waitsBy 31 = .ok (.iload 5, 2) := by decide +kernel
theorem dX4_waitsBy_33 : decode cX4_waitsBy 33 = .ok (.iaload, 1) := by decide +kernel
theorem dX4_waitsBy_34 : decode cX4_waitsBy 34 = .ok (.iload_n 1, 1) := by decide +kernel
theorem dX4_waitsBy_35 : decode cX4_waitsBy 35 = .ok (.if_icmp .ne 20, 3) := by decide +kernel
theorem dX4_waitsBy_38 : decode cX4_waitsBy 38 = .ok (.iload_n 3, 1) := by decide +kernel
theorem dX4_waitsBy_39 : decode cX4_waitsBy 39 = .ok (.iload_n 2, 1) := by decide +kernel
theorem dX4_waitsBy_40 : decode cX4_waitsBy 40 = .ok (.if_icmp .ne 8, 3) := by decide +kernel
theorem dX4_waitsBy_43 : decode cX4_waitsBy 43 = .ok (.iload 5, 2) := by decide +kernel
theorem dX4_waitsBy_45 : decode cX4_waitsBy 45 = .ok (.goto 5, 3) := by decide +kernel
theorem dX4_waitsBy_48 : decode cX4_waitsBy 48 = .ok (.iload 4, 2) := by decide +kernel
theorem dX4_waitsBy_50 : decode cX4_waitsBy 50 = .ok (.istore 4, 2) := by decide +kernel
theorem dX4_waitsBy_52 : decode cX4_waitsBy 52 = .ok (.iinc 3 1, 3) := by decide +kernel
theorem dX4_waitsBy_55 : decode cX4_waitsBy 55 = .ok (.iinc 5 1, 3) := by decide +kernel
theorem dX4_waitsBy_58 : decode cX4_waitsBy 58 = .ok (.goto (-50), 3) := by decide +kernel
theorem dX4_waitsBy_61 : decode cX4_waitsBy 61 = .ok (.iload_n 2, 1) := by decide +kernel
theorem dX4_waitsBy_62 : decode cX4_waitsBy 62 = .ok (.iconst (-1), 1) := by decide +kernel
theorem dX4_waitsBy_63 : decode cX4_waitsBy 63 = .ok (.if_icmp .ne 7, 3) := by decide +kernel
theorem dX4_waitsBy_66 : decode cX4_waitsBy 66 = .ok (.iload_n 3, 1) := by decide +kernel
theorem dX4_waitsBy_67 : decode cX4_waitsBy 67 = .ok (.goto 5, 3) := by decide +kernel
theorem dX4_waitsBy_70 : decode cX4_waitsBy 70 = .ok (.iload 4, 2) := by decide +kernel
theorem dX4_waitsBy_72 : decode cX4_waitsBy 72 = .ok (.ireturn, 1) := by decide +kernel
set_option maxRecDepth 20000 in
theorem ggX4_waits_X4_isTwo : GoodIn wsX4_waits wsX4_isTwo := goodIn_r _ [6, 7, 8, 5, 9] (by decide +kernel) (by decide +kernel)
set_option maxRecDepth 20000 in
theorem gX4_waits_X4_isTwo : GoodIn wsX4_waits (va_wsS RX4 122 yX4_isTwo wsX4_isTwo) := goodIn_app (goodIn_of _ (by decide +kernel)) ggX4_waits_X4_isTwo
set_option maxRecDepth 20000 in
theorem ggX4_waits_X4_in : GoodIn wsX4_waits wsX4_in := goodIn_r _ [9] (by decide +kernel) (by decide +kernel)
set_option maxRecDepth 20000 in
theorem gX4_waits_X4_in : GoodIn wsX4_waits (va_wsS RX4 60 yX4_in wsX4_in) := goodIn_app (goodIn_of _ (by decide +kernel)) ggX4_waits_X4_in
set_option maxRecDepth 20000 in
theorem ggX4_waits_X4_waitsBy : GoodIn wsX4_waits wsX4_waitsBy := goodIn_r _ [13, 14, 15, 16, 17, 18, 19, 20, 21, 22, 23, 24, 25, 26, 27, 28, 29, 30, 31, 32, 33, 34, 35, 36, 37, 38, 39, 40, 41, 42, 43, 44, 45, 46] (by decide +kernel) (by decide +kernel)
set_option maxRecDepth 20000 in
theorem gX4_waits_X4_waitsBy : GoodIn wsX4_waits (wsV RX4 132 RX4 yX4_waitsBy wsX4_waitsBy) := goodIn_app (goodIn_of _ (by decide +kernel)) ggX4_waits_X4_waitsBy
theorem dX4_waits_0 : decode cX4_waits 0 = .ok (.iload_n 1, 1) := by decide +kernel
theorem dX4_waits_1 : decode cX4_waits 1 = .ok (.invokestatic 122, 3) := by decide +kernel
theorem dX4_waits_4 : decode cX4_waits 4 = .ok (.ifCond .eq 26, 3) := by decide +kernel
theorem dX4_waits_7 : decode cX4_waits 7 = .ok (.iload_n 2, 1) := by decide +kernel
theorem dX4_waits_8 : decode cX4_waits 8 = .ok (.i2l, 1) := by decide +kernel
theorem dX4_waits_9 : decode cX4_waits 9 = .ok (.ldc2_w 128, 3) := by decide +kernel
theorem dX4_waits_12 : decode cX4_waits 12 = .ok (.ldc2_w 130, 3) := by decide +kernel
theorem dX4_waits_15 : decode cX4_waits 15 = .ok (.invokestatic 60, 3) := by decide +kernel
theorem dX4_waits_18 : decode cX4_waits 18 = .ok (.ifCond .eq 12, 3) := by decide +kernel
theorem dX4_waits_21 : decode cX4_waits 21 = .ok (.aload_n 0, 1) := by decide +kernel
theorem dX4_waits_22 : decode cX4_waits 22 = .ok (.iload_n 1, 1) := by decide +kernel
theorem dX4_waits_23 : decode cX4_waits 23 = .ok (.iload_n 2, 1) := by decide +kernel
theorem dX4_waits_24 : decode cX4_waits 24 = .ok (.invokevirtual 132, 3) := by decide +kernel
theorem dX4_waits_27 : decode cX4_waits 27 = .ok (.goto 5, 3) := by decide +kernel
theorem dX4_waits_30 : decode cX4_waits 30 = .ok (.bipush (-2), 2) := by decide +kernel
theorem dX4_waits_32 : decode cX4_waits 32 = .ok (.ireturn, 1) := by decide +kernel
set_option maxRecDepth 20000 in
theorem ggX4_rule_X4_isTwo : GoodIn wsX4_rule wsX4_isTwo := goodIn_r _ [5, 6, 7, 4, 8] (by decide +kernel) (by decide +kernel)
set_option maxRecDepth 20000 in
theorem gX4_rule_X4_isTwo : GoodIn wsX4_rule (va_wsS RX4 122 yX4_isTwo wsX4_isTwo) := goodIn_app (goodIn_of _ (by decide +kernel)) ggX4_rule_X4_isTwo
theorem dX4_rule_0 : decode cX4_rule 0 = .ok (.iload_n 1, 1) := by decide +kernel
theorem dX4_rule_1 : decode cX4_rule 1 = .ok (.invokestatic 122, 3) := by decide +kernel
theorem dX4_rule_4 : decode cX4_rule 4 = .ok (.ifCond .ne 6, 3) := by decide +kernel
theorem dX4_rule_7 : decode cX4_rule 7 = .ok (.bipush (-2), 2) := by decide +kernel
theorem dX4_rule_9 : decode cX4_rule 9 = .ok (.ireturn, 1) := by decide +kernel
theorem dX4_rule_10 : decode cX4_rule 10 = .ok (.aload_n 0, 1) := by decide +kernel
theorem dX4_rule_11 : decode cX4_rule 11 = .ok (.getfield 135, 3) := by decide +kernel
theorem dX4_rule_14 : decode cX4_rule 14 = .ok (.istore_n 2, 1) := by decide +kernel
theorem dX4_rule_15 : decode cX4_rule 15 = .ok (.aload_n 0, 1) := by decide +kernel
theorem dX4_rule_16 : decode cX4_rule 16 = .ok (.iload_n 1, 1) := by decide +kernel
theorem dX4_rule_17 : decode cX4_rule 17 = .ok (.putfield 135, 3) := by decide +kernel
theorem dX4_rule_20 : decode cX4_rule 20 = .ok (.iload_n 2, 1) := by decide +kernel
theorem dX4_rule_21 : decode cX4_rule 21 = .ok (.ireturn, 1) := by decide +kernel
theorem dX4_isSide_0 : decode cX4_isSide 0 = .ok (.aload_n 0, 1) := by decide +kernel
theorem dX4_isSide_1 : decode cX4_isSide 1 = .ok (.getfield 90, 3) := by decide +kernel
theorem dX4_isSide_4 : decode cX4_isSide 4 = .ok (.iload_n 1, 1) := by decide +kernel
theorem dX4_isSide_5 : decode cX4_isSide 5 = .ok (.ifCond .ne 7, 3) := by decide +kernel
theorem dX4_isSide_8 : decode cX4_isSide 8 = .ok (.iconst 1, 1) := by decide +kernel
theorem dX4_isSide_9 : decode cX4_isSide 9 = .ok (.goto 4, 3) := by decide +kernel
theorem dX4_isSide_12 : decode cX4_isSide 12 = .ok (.iconst 0, 1) := by decide +kernel
theorem dX4_isSide_13 : decode cX4_isSide 13 = .ok (.if_icmp .ne 7, 3) := by decide +kernel
theorem dX4_isSide_16 : decode cX4_isSide 16 = .ok (.iconst 1, 1) := by decide +kernel
theorem dX4_isSide_17 : decode cX4_isSide 17 = .ok (.goto 4, 3) := by decide +kernel
theorem dX4_isSide_20 : decode cX4_isSide 20 = .ok (.iconst 0, 1) := by decide +kernel
theorem dX4_isSide_21 : decode cX4_isSide 21 = .ok (.ireturn, 1) := by decide +kernel
set_option maxRecDepth 20000 in
theorem ggX4_nextBoat_X4_isSide : GoodIn wsX4_nextBoat wsX4_isSide := goodIn_r _ [9, 10, 11, 12, 13, 14, 15, 16, 17, 18, 19, 20, 21, 22, 23, 24, 25, 26, 27, 28, 29, 30, 31, 32, 33, 34, 35, 36, 37, 38, 39, 40] (by decide +kernel) (by decide +kernel)
set_option maxRecDepth 20000 in
theorem gX4_nextBoat_X4_isSide : GoodIn wsX4_nextBoat (wsV RX4 138 RX4 yX4_isSide wsX4_isSide) := goodIn_app (goodIn_of _ (by decide +kernel)) ggX4_nextBoat_X4_isSide
theorem dX4_nextBoat_0 : decode cX4_nextBoat 0 = .ok (.iconst (-1), 1) := by decide +kernel
theorem dX4_nextBoat_1 : decode cX4_nextBoat 1 = .ok (.istore_n 1, 1) := by decide +kernel
theorem dX4_nextBoat_2 : decode cX4_nextBoat 2 = .ok (.iconst (-1), 1) := by decide +kernel
theorem dX4_nextBoat_3 : decode cX4_nextBoat 3 = .ok (.istore_n 2, 1) := by decide +kernel
theorem dX4_nextBoat_4 : decode cX4_nextBoat 4 = .ok (.aload_n 0, 1) := by decide +kernel
theorem dX4_nextBoat_5 : decode cX4_nextBoat 5 = .ok (.getfield 119, 3) := by decide +kernel
theorem dX4_nextBoat_8 : decode cX4_nextBoat 8 = .ok (.iconst 1, 1) := by decide +kernel
theorem dX4_nextBoat_9 : decode cX4_nextBoat 9 = .ok (.isub, 1) := by decide +kernel
theorem dX4_nextBoat_10 : decode cX4_nextBoat 10 = .ok (.istore_n 3, 1) := by decide +kernel
theorem dX4_nextBoat_11 : decode cX4_nextBoat 11 = .ok (.iload_n 3, 1) := by decide +kernel
theorem dX4_nextBoat_12 : decode cX4_nextBoat 12 = .ok (.ifCond .lt 52, 3) := by decide +kernel
theorem dX4_nextBoat_15 : decode cX4_nextBoat 15 = .ok (.aload_n 0, 1) := by decide +kernel
theorem dX4_nextBoat_16 : decode cX4_nextBoat 16 = .ok (.getfield 40, 3) := by decide +kernel
theorem dX4_nextBoat_19 : decode cX4_nextBoat 19 = .ok (.iload_n 3, 1) := by decide +kernel
theorem dX4_nextBoat_20 : decode cX4_nextBoat 20 = .ok (.baload, 1) := by decide +kernel
theorem dX4_nextBoat_21 : decode cX4_nextBoat 21 = .ok (.ifCond .eq 7, 3) := by decide +kernel
theorem dX4_nextBoat_24 : decode cX4_nextBoat 24 = .ok (.iload_n 3, 1) := by decide +kernel
theorem dX4_nextBoat_25 : decode cX4_nextBoat 25 = .ok (.goto 4, 3) := by decide +kernel
theorem dX4_nextBoat_28 : decode cX4_nextBoat 28 = .ok (.iload_n 1, 1) := by decide +kernel
theorem dX4_nextBoat_29 : decode cX4_nextBoat 29 = .ok (.istore_n 1, 1) := by decide +kernel
theorem dX4_nextBoat_30 : decode cX4_nextBoat 30 = .ok (.aload_n 0, 1) := by decide +kernel
theorem dX4_nextBoat_31 : decode cX4_nextBoat 31 = .ok (.getfield 40, 3) := by decide +kernel
theorem dX4_nextBoat_34 : decode cX4_nextBoat 34 = .ok (.iload_n 3, 1) := by decide +kernel
theorem dX4_nextBoat_35 : decode cX4_nextBoat 35 = .ok (.baload, 1) := by decide +kernel
theorem dX4_nextBoat_36 : decode cX4_nextBoat 36 = .ok (.ifCond .eq 20, 3) := by decide +kernel
theorem dX4_nextBoat_39 : decode cX4_nextBoat 39 = .ok (.aload_n 0, 1) := by decide +kernel
theorem dX4_nextBoat_40 : decode cX4_nextBoat 40 = .ok (.aload_n 0, 1) := by decide +kernel
theorem dX4_nextBoat_41 : decode cX4_nextBoat 41 = .ok (.getfield 37, 3) := by decide +kernel
theorem dX4_nextBoat_44 : decode cX4_nextBoat 44 = .ok (.iload_n 3, 1) := by decide +kernel
theorem dX4_nextBoat_45 : decode cX4_nextBoat 45 = .ok (.iaload, 1) := by decide +kernel
theorem dX4_nextBoat_46 : decode cX4_nextBoat 46 = .ok (.invokevirtual 138, 3) := by decide +kernel
theorem dX4_nextBoat_49 : decode cX4_nextBoat 49 = .ok (.ifCond .eq 7, 3) := by decide +kernel
theorem dX4_nextBoat_52 : decode cX4_nextBoat 52 = .ok (.iload_n 3, 1) := by decide +kernel
theorem dX4_nextBoat_53 : decode cX4_nextBoat 53 = .ok (.goto 4, 3) := by decide +kernel
theorem dX4_nextBoat_56 : decode cX4_nextBoat 56 = .ok (.iload_n 2, 1) := by decide +kernel
theorem dX4_nextBoat_57 : decode cX4_nextBoat 57 = .ok (.istore_n 2, 1) := by decide +kernel
theorem dX4_nextBoat_58 : decode cX4_nextBoat 58 = .ok (.iinc 3 (-1), 3) := by decide +kernel
theorem dX4_nextBoat_61 : decode cX4_nextBoat 61 = .ok (.goto (-50), 3) := by decide +kernel
theorem dX4_nextBoat_64 : decode cX4_nextBoat 64 = .ok (.aload_n 0, 1) := by decide +kernel
theorem dX4_nextBoat_65 : decode cX4_nextBoat 65 = .ok (.getfield 135, 3) := by decide +kernel
theorem dX4_nextBoat_68 : decode cX4_nextBoat 68 = .ok (.iconst 1, 1) := by decide +kernel
theorem dX4_nextBoat_69 : decode cX4_nextBoat 69 = .ok (.if_icmp .ne 12, 3) := by decide +kernel
theorem dX4_nextBoat_72 : decode cX4_nextBoat 72 = .ok (.iload_n 2, 1) := by decide +kernel
theorem dX4_nextBoat_73 : decode cX4_nextBoat 73 = .ok (.iconst (-1), 1) := by decide +kernel
theorem dX4_nextBoat_74 : decode cX4_nextBoat 74 = .ok (.if_icmp .eq 7, 3) := by decide +kernel
theorem dX4_nextBoat_77 : decode cX4_nextBoat 77 = .ok (.iload_n 2, 1) := by decide +kernel
theorem dX4_nextBoat_78 : decode cX4_nextBoat 78 = .ok (.goto 4, 3) := by decide +kernel
theorem dX4_nextBoat_81 : decode cX4_nextBoat 81 = .ok (.iload_n 1, 1) := by decide +kernel
theorem dX4_nextBoat_82 : decode cX4_nextBoat 82 = .ok (.ireturn, 1) := by decide +kernel
set_option maxRecDepth 20000 in
theorem ggX4_nextBy_X4_nextBoat : GoodIn wsX4_nextBy wsX4_nextBoat := goodIn_r _ [6, 7, 8, 1, 9, 10, 11, 12, 5, 13, 14, 15, 16, 17, 18, 19, 20, 21, 22, 23, 24, 25, 26, 27, 28, 29, 30, 31, 32, 33, 34, 35, 36, 37, 38, 39, 40, 41, 42, 43, 44] (by decide +kernel) (by decide +kernel)
set_option maxRecDepth 20000 in
theorem gX4_nextBy_X4_nextBoat : GoodIn wsX4_nextBy (wsV RX4 141 RX4 yX4_nextBoat wsX4_nextBoat) := goodIn_app (goodIn_of _ (by decide +kernel)) ggX4_nextBy_X4_nextBoat
set_option maxRecDepth 20000 in
theorem ggX4_nextBy_X4_isSide : GoodIn wsX4_nextBy wsX4_isSide := goodIn_r _ [13, 14, 15, 16, 17, 18, 19, 20, 21, 22, 23, 24, 25, 26, 27, 28, 29, 30, 31, 32, 33, 34, 35, 36, 37, 38, 39, 40, 41, 42, 43, 44] (by decide +kernel) (by decide +kernel)
set_option maxRecDepth 20000 in
theorem gX4_nextBy_X4_isSide : GoodIn wsX4_nextBy (wsV RX4 138 RX4 yX4_isSide wsX4_isSide) := goodIn_app (goodIn_of _ (by decide +kernel)) ggX4_nextBy_X4_isSide
theorem dX4_nextBy_0 : decode cX4_nextBy 0 = .ok (.aload_n 0, 1) := by decide +kernel
theorem dX4_nextBy_1 : decode cX4_nextBy 1 = .ok (.invokevirtual 141, 3) := by decide +kernel
theorem dX4_nextBy_4 : decode cX4_nextBy 4 = .ok (.istore_n 2, 1) := by decide +kernel
theorem dX4_nextBy_5 : decode cX4_nextBy 5 = .ok (.iload_n 1, 1) := by decide +kernel
theorem dX4_nextBy_6 : decode cX4_nextBy 6 = .ok (.ifCond .ne 7, 3) := by decide +kernel
theorem dX4_nextBy_9 : decode cX4_nextBy 9 = .ok (.iload_n 2, 1) := by decide +kernel
theorem dX4_nextBy_10 : decode cX4_nextBy 10 = .ok (.goto 30, 3) := by decide +kernel
theorem dX4_nextBy_13 : decode cX4_nextBy 13 = .ok (.iload_n 2, 1) := by decide +kernel
theorem dX4_nextBy_14 : decode cX4_nextBy 14 = .ok (.iconst (-1), 1) := by decide +kernel
theorem dX4_nextBy_15 : decode cX4_nextBy 15 = .ok (.if_icmp .ne 7, 3) := by decide +kernel
theorem dX4_nextBy_18 : decode cX4_nextBy 18 = .ok (.iconst 0, 1) := by decide +kernel
theorem dX4_nextBy_19 : decode cX4_nextBy 19 = .ok (.goto 21, 3) := by decide +kernel
theorem dX4_nextBy_22 : decode cX4_nextBy 22 = .ok (.aload_n 0, 1) := by decide +kernel
theorem dX4_nextBy_23 : decode cX4_nextBy 23 = .ok (.aload_n 0, 1) := by decide +kernel
theorem dX4_nextBy_24 : decode cX4_nextBy 24 = .ok (.getfield 37, 3) := by decide +kernel
theorem dX4_nextBy_27 : decode cX4_nextBy 27 = .ok (.iload_n 2, 1) := by decide +kernel
theorem dX4_nextBy_28 : decode cX4_nextBy 28 = .ok (.iaload, 1) := by decide +kernel
theorem dX4_nextBy_29 : decode cX4_nextBy 29 = .ok (.invokevirtual 138, 3) := by decide +kernel
theorem dX4_nextBy_32 : decode cX4_nextBy 32 = .ok (.ifCond .eq 7, 3) := by decide +kernel
theorem dX4_nextBy_35 : decode cX4_nextBy 35 = .ok (.iconst 1, 1) := by decide +kernel
theorem dX4_nextBy_36 : decode cX4_nextBy 36 = .ok (.goto 4, 3) := by decide +kernel
theorem dX4_nextBy_39 : decode cX4_nextBy 39 = .ok (.iconst 2, 1) := by decide +kernel
theorem dX4_nextBy_40 : decode cX4_nextBy 40 = .ok (.ireturn, 1) := by decide +kernel
set_option maxRecDepth 20000 in
theorem ggX4_next_X4_isTwo : GoodIn wsX4_next wsX4_isTwo := goodIn_r _ [4, 5, 6, 3, 7] (by decide +kernel) (by decide +kernel)
set_option maxRecDepth 20000 in
theorem gX4_next_X4_isTwo : GoodIn wsX4_next (va_wsS RX4 122 yX4_isTwo wsX4_isTwo) := goodIn_app (goodIn_of _ (by decide +kernel)) ggX4_next_X4_isTwo
set_option maxRecDepth 20000 in
theorem ggX4_next_X4_nextBy : GoodIn wsX4_next wsX4_nextBy := goodIn_r _ [11, 12, 13, 14, 15, 3, 16, 17, 18, 19, 20, 21, 22, 23, 24, 25, 26, 27, 28, 29, 30, 31, 32, 33, 34, 35, 36, 37, 38, 39, 40, 41, 42, 43, 44, 45, 46, 47, 48, 49, 50, 51, 52, 53, 54] (by decide +kernel) (by decide +kernel)
set_option maxRecDepth 20000 in
theorem gX4_next_X4_nextBy : GoodIn wsX4_next (wsV RX4 145 RX4 yX4_nextBy wsX4_nextBy) := goodIn_app (goodIn_of _ (by decide +kernel)) ggX4_next_X4_nextBy
theorem dX4_next_0 : decode cX4_next 0 = .ok (.iload_n 1, 1) := by decide +kernel
theorem dX4_next_1 : decode cX4_next 1 = .ok (.invokestatic 122, 3) := by decide +kernel
theorem dX4_next_4 : decode cX4_next 4 = .ok (.ifCond .eq 11, 3) := by decide +kernel
theorem dX4_next_7 : decode cX4_next 7 = .ok (.aload_n 0, 1) := by decide +kernel
theorem dX4_next_8 : decode cX4_next 8 = .ok (.iload_n 1, 1) := by decide +kernel
theorem dX4_next_9 : decode cX4_next 9 = .ok (.invokevirtual 145, 3) := by decide +kernel
theorem dX4_next_12 : decode cX4_next 12 = .ok (.goto 5, 3) := by decide +kernel
theorem dX4_next_15 : decode cX4_next 15 = .ok (.bipush (-2), 2) := by decide +kernel
theorem dX4_next_17 : decode cX4_next 17 = .ok (.ireturn, 1) := by decide +kernel
set_option maxRecDepth 20000 in
theorem ggX4_goesTo_X4_levelOf : GoodIn wsX4_goesTo wsX4_levelOf := goodIn_r _ [9, 10, 11, 18, 19, 20, 21, 22, 23, 24, 25, 26, 27, 28, 29, 30, 31, 32, 33, 34, 35, 36, 37, 38, 39, 40, 41, 42, 43, 44, 45, 46, 47] (by decide +kernel) (by decide +kernel)
set_option maxRecDepth 20000 in
theorem gX4_goesTo_X4_levelOf : GoodIn wsX4_goesTo (wsV RX4 108 RX4 yX4_levelOf wsX4_levelOf) := goodIn_app (goodIn_of _ (by decide +kernel)) ggX4_goesTo_X4_levelOf
set_option maxRecDepth 20000 in
theorem ggX4_goesTo_X4_isIn : GoodIn wsX4_goesTo wsX4_isIn := goodIn_r _ [14] (by decide +kernel) (by decide +kernel)
set_option maxRecDepth 20000 in
theorem gX4_goesTo_X4_isIn : GoodIn wsX4_goesTo (va_wsS RX4 148 yX4_isIn wsX4_isIn) := goodIn_app (goodIn_of _ (by decide +kernel)) ggX4_goesTo_X4_isIn
set_option maxRecDepth 20000 in
theorem ggX4_goesTo_X4_greater : GoodIn wsX4_goesTo wsX4_greater := goodIn_r _ [17] (by decide +kernel) (by decide +kernel)
set_option maxRecDepth 20000 in
theorem gX4_goesTo_X4_greater : GoodIn wsX4_goesTo (va_wsS RX4 152 yX4_greater wsX4_greater) := goodIn_app (goodIn_of _ (by decide +kernel)) ggX4_goesTo_X4_greater
theorem dX4_goesTo_0 : decode cX4_goesTo 0 = .ok (.iconst (-1), 1) := by decide +kernel
theorem dX4_goesTo_1 : decode cX4_goesTo 1 = .ok (.istore_n 2, 1) := by decide +kernel
theorem dX4_goesTo_2 : decode cX4_goesTo 2 = .ok (.iconst (-1), 1) := by decide +kernel
theorem dX4_goesTo_3 : decode cX4_goesTo 3 = .ok (.istore_n 3, 1) := by decide +kernel
theorem dX4_goesTo_4 : decode cX4_goesTo 4 = .ok (.iconst 0, 1) := by decide +kernel
theorem dX4_goesTo_5 : decode cX4_goesTo 5 = .ok (.istore 4, 2) := by decide +kernel
theorem dX4_goesTo_7 : decode cX4_goesTo 7 = .ok (.iload 4, 2) := by decide +kernel
theorem dX4_goesTo_9 : decode cX4_goesTo 9 = .ok (.aload_n 0, 1) := by decide +kernel
theorem dX4_goesTo_10 : decode cX4_goesTo 10 = .ok (.getfield 96, 3) := by decide +kernel
theorem dX4_goesTo_13 : decode cX4_goesTo 13 = .ok (.if_icmp .ge 105, 3) := by decide +kernel
theorem dX4_goesTo_16 : decode cX4_goesTo 16 = .ok (.aload_n 0, 1) := by decide +kernel
theorem dX4_goesTo_17 : decode cX4_goesTo 17 = .ok (.iload 4, 2) := by decide +kernel
theorem dX4_goesTo_19 : decode cX4_goesTo 19 = .ok (.aload_n 0, 1) := by decide +kernel
theorem dX4_goesTo_20 : decode cX4_goesTo 20 = .ok (.getfield 34, 3) := by decide +kernel
theorem dX4_goesTo_23 : decode cX4_goesTo 23 = .ok (.iload 4, 2) := by decide +kernel
theorem dX4_goesTo_25 : decode cX4_goesTo 25 = .ok (.iaload, 1) := by decide +kernel
theorem dX4_goesTo_26 : decode cX4_goesTo 26 = .ok (.iconst 1, 1) := by decide +kernel
theorem dX4_goesTo_27 : decode cX4_goesTo 27 = .ok (.iadd, 1) := by decide +kernel
theorem dX4_goesTo_28 : decode cX4_goesTo 28 = .ok (.invokevirtual 108, 3) := by decide +kernel
theorem dX4_goesTo_31 : decode cX4_goesTo 31 = .ok (.istore 5, 2) := by decide +kernel
theorem dX4_goesTo_33 : decode cX4_goesTo 33 = .ok (.aload_n 0, 1) := by decide +kernel
theorem dX4_goesTo_34 : decode cX4_goesTo 34 = .ok (.getfield 99, 3) := by decide +kernel
theorem dX4_goesTo_37 : decode cX4_goesTo 37 = .ok (.iload 4, 2) := by decide +kernel
theorem dX4_goesTo_39 : decode cX4_goesTo 39 = .ok (.invokestatic 148, 3) := by decide +kernel
theorem dX4_goesTo_42 : decode cX4_goesTo 42 = .ok (.ifCond .ne 33, 3) := by decide +kernel
theorem dX4_goesTo_45 : decode cX4_goesTo 45 = .ok (.aload_n 0, 1) := by decide +kernel
theorem dX4_goesTo_46 : decode cX4_goesTo 46 = .ok (.getfield 34, 3) := by decide +kernel
theorem dX4_goesTo_49 : decode cX4_goesTo 49 = .ok (.iload 4, 2) := by decide +kernel
theorem dX4_goesTo_51 : decode cX4_goesTo 51 = .ok (.iaload, 1) := by decide +kernel
theorem dX4_goesTo_52 : decode cX4_goesTo 52 = .ok (.aload_n 0, 1) := by decide +kernel
theorem dX4_goesTo_53 : decode cX4_goesTo 53 = .ok (.getfield 25, 3) := by decide +kernel
theorem dX4_goesTo_56 : decode cX4_goesTo 56 = .ok (.iload 4, 2) := by decide +kernel
theorem dX4_goesTo_58 : decode cX4_goesTo 58 = .ok (.iaload, 1) := by decide +kernel
theorem dX4_goesTo_59 : decode cX4_goesTo 59 = .ok (.if_icmp .ge 16, 3) := by decide +kernel
theorem dX4_goesTo_62 : decode cX4_goesTo 62 = .ok (.iload 5, 2) := by decide +kernel
theorem dX4_goesTo_64 : decode cX4_goesTo 64 = .ok (.bipush 6, 2) := by decide +kernel
theorem dX4_goesTo_66 : decode cX4_goesTo 66 = .ok (.iload_n 1, 1) := by decide +kernel
theorem dX4_goesTo_67 : decode cX4_goesTo 67 = .ok (.imul, 1) := by decide +kernel
theorem dX4_goesTo_68 : decode cX4_goesTo 68 = .ok (.if_icmp .gt 7, 3) := by decide +kernel
theorem dX4_goesTo_71 : decode cX4_goesTo 71 = .ok (.iconst 1, 1) := by decide +kernel
theorem dX4_goesTo_72 : decode cX4_goesTo 72 = .ok (.goto 4, 3) := by decide +kernel
theorem dX4_goesTo_75 : decode cX4_goesTo 75 = .ok (.iconst 0, 1) := by decide +kernel
theorem dX4_goesTo_76 : decode cX4_goesTo 76 = .ok (.istore 6, 2) := by decide +kernel
theorem dX4_goesTo_78 : decode cX4_goesTo 78 = .ok (.iload 6, 2) := by decide +kernel
theorem dX4_goesTo_80 : decode cX4_goesTo 80 = .ok (.ifCond .eq 14, 3) := by decide +kernel
theorem dX4_goesTo_83 : decode cX4_goesTo 83 = .ok (.iload 5, 2) := by decide +kernel
theorem dX4_goesTo_85 : decode cX4_goesTo 85 = .ok (.iload_n 3, 1) := by decide +kernel
theorem dX4_goesTo_86 : decode cX4_goesTo 86 = .ok (.if_icmp .le 8, 3) := by decide +kernel
theorem dX4_goesTo_89 : decode cX4_goesTo 89 = .ok (.iload 4, 2) := by decide +kernel
theorem dX4_goesTo_91 : decode cX4_goesTo 91 = .ok (.goto 4, 3) := by decide +kernel
theorem dX4_goesTo_94 : decode cX4_goesTo 94 = .ok (.iload_n 2, 1) := by decide +kernel
theorem dX4_goesTo_95 : decode cX4_goesTo 95 = .ok (.istore_n 2, 1) := by decide +kernel
theorem dX4_goesTo_96 : decode cX4_goesTo 96 = .ok (.iload 6, 2) := by decide +kernel
theorem dX4_goesTo_98 : decode cX4_goesTo 98 = .ok (.ifCond .eq 12, 3) := by decide +kernel
theorem dX4_goesTo_101 : decode cX4_goesTo 101 = .ok (.iload 5, 2) := by decide +kernel
theorem dX4_goesTo_103 : decode cX4_goesTo 103 = .ok (.iload_n 3, 1) := by decide +kernel
theorem dX4_goesTo_104 : decode cX4_goesTo 104 = .ok (.invokestatic 152, 3) := by decide +kernel
theorem dX4_goesTo_107 : decode cX4_goesTo 107 = .ok (.goto 4, 3) := by decide +kernel
theorem dX4_goesTo_110 : decode cX4_goesTo 110 = .ok (.iload_n 3, 1) := by decide +kernel
theorem dX4_goesTo_111 : decode cX4_goesTo 111 = .ok (.istore_n 3, 1) := by decide +kernel
theorem dX4_goesTo_112 : decode cX4_goesTo 112 = .ok (.iinc 4 1, 3) := by decide +kernel
theorem dX4_goesTo_115 : decode cX4_goesTo 115 = .ok (.goto (-108), 3) := by decide +kernel
theorem dX4_goesTo_118 : decode cX4_goesTo 118 = .ok (.iload_n 2, 1) := by decide +kernel
theorem dX4_goesTo_119 : decode cX4_goesTo 119 = .ok (.ireturn, 1) := by decide +kernel
set_option maxRecDepth 20000 in
theorem ggX4_comesFrom_X4_levelOf : GoodIn wsX4_comesFrom wsX4_levelOf := goodIn_r _ [9, 10, 11, 18, 19, 20, 21, 22, 23, 24, 25, 26, 27, 28, 29, 30, 31, 32, 33, 34, 35, 36, 37, 38, 39, 40, 41, 42, 43, 44, 45, 46, 47] (by decide +kernel) (by decide +kernel)
set_option maxRecDepth 20000 in
theorem gX4_comesFrom_X4_levelOf : GoodIn wsX4_comesFrom (wsV RX4 108 RX4 yX4_levelOf wsX4_levelOf) := goodIn_app (goodIn_of _ (by decide +kernel)) ggX4_comesFrom_X4_levelOf
set_option maxRecDepth 20000 in
theorem ggX4_comesFrom_X4_isIn : GoodIn wsX4_comesFrom wsX4_isIn := goodIn_r _ [14] (by decide +kernel) (by decide +kernel)
set_option maxRecDepth 20000 in
theorem gX4_comesFrom_X4_isIn : GoodIn wsX4_comesFrom (va_wsS RX4 148 yX4_isIn wsX4_isIn) := goodIn_app (goodIn_of _ (by decide +kernel)) ggX4_comesFrom_X4_isIn
set_option maxRecDepth 20000 in
theorem ggX4_comesFrom_X4_lesser : GoodIn wsX4_comesFrom wsX4_lesser := goodIn_r _ [17] (by decide +kernel) (by decide +kernel)
set_option maxRecDepth 20000 in
theorem gX4_comesFrom_X4_lesser : GoodIn wsX4_comesFrom (va_wsS RX4 156 yX4_lesser wsX4_lesser) := goodIn_app (goodIn_of _ (by decide +kernel)) ggX4_comesFrom_X4_lesser
theorem dX4_comesFrom_0 : decode cX4_comesFrom 0 = .ok (.iconst (-1), 1) := by decide +kernel
theorem dX4_comesFrom_1 : decode cX4_comesFrom 1 = .ok (.istore_n 2, 1) := by decide +kernel
theorem dX4_comesFrom_2 : decode cX4_comesFrom 2 = .ok (.ldc 155, 2) := by decide +kernel
theorem dX4_comesFrom_4 : decode cX4_comesFrom 4 = .ok (.istore_n 3, 1) := by decide +kernel
theorem dX4_comesFrom_5 : decode cX4_comesFrom 5 = .ok (.iconst 0, 1) := by decide +kernel
theorem dX4_comesFrom_6 : decode cX4_comesFrom 6 = .ok (.istore 4, 2) := by decide +kernel
theorem dX4_comesFrom_8 : decode cX4_comesFrom 8 = .ok (.iload 4, 2) := by decide +kernel
theorem dX4_comesFrom_10 : decode cX4_comesFrom 10 = .ok (.aload_n 0, 1) := by decide +kernel
theorem dX4_comesFrom_11 : decode cX4_comesFrom 11 = .ok (.getfield 96, 3) := by decide +kernel
theorem dX4_comesFrom_14 : decode cX4_comesFrom 14 = .ok (.if_icmp .ge 98, 3) := by decide +kernel
theorem dX4_comesFrom_17 : decode cX4_comesFrom 17 = .ok (.aload_n 0, 1) := by decide +kernel
theorem dX4_comesFrom_18 : decode cX4_comesFrom 18 = .ok (.iload 4, 2) := by decide +kernel
theorem dX4_comesFrom_20 : decode cX4_comesFrom 20 = .ok (.aload_n 0, 1) := by decide +kernel
theorem dX4_comesFrom_21 : decode cX4_comesFrom 21 = .ok (.getfield 34, 3) := by decide +kernel
theorem dX4_comesFrom_24 : decode cX4_comesFrom 24 = .ok (.iload 4, 2) := by decide +kernel
theorem dX4_comesFrom_26 : decode cX4_comesFrom 26 = .ok (.iaload, 1) := by decide +kernel
theorem dX4_comesFrom_27 : decode cX4_comesFrom 27 = .ok (.iconst 1, 1) := by decide +kernel
theorem dX4_comesFrom_28 : decode cX4_comesFrom 28 = .ok (.isub, 1) := by decide +kernel
theorem dX4_comesFrom_29 : decode cX4_comesFrom 29 = .ok (.invokevirtual 108, 3) := by decide +kernel
theorem dX4_comesFrom_32 : decode cX4_comesFrom 32 = .ok (.istore 5, 2) := by decide +kernel
theorem dX4_comesFrom_34 : decode cX4_comesFrom 34 = .ok (.aload_n 0, 1) := by decide +kernel
theorem dX4_comesFrom_35 : decode cX4_comesFrom 35 = .ok (.getfield 99, 3) := by decide +kernel
theorem dX4_comesFrom_38 : decode cX4_comesFrom 38 = .ok (.iload 4, 2) := by decide +kernel
theorem dX4_comesFrom_40 : decode cX4_comesFrom 40 = .ok (.invokestatic 148, 3) := by decide +kernel
theorem dX4_comesFrom_43 : decode cX4_comesFrom 43 = .ok (.ifCond .ne 26, 3) := by decide +kernel
theorem dX4_comesFrom_46 : decode cX4_comesFrom 46 = .ok (.aload_n 0, 1) := by decide +kernel
theorem dX4_comesFrom_47 : decode cX4_comesFrom 47 = .ok (.getfield 34, 3) := by decide +kernel
theorem dX4_comesFrom_50 : decode cX4_comesFrom 50 = .ok (.iload 4, 2) := by decide +kernel
theorem dX4_comesFrom_52 : decode cX4_comesFrom 52 = .ok (.iaload, 1) := by decide +kernel
theorem dX4_comesFrom_53 : decode cX4_comesFrom 53 = .ok (.ifCond .le 16, 3) := by decide +kernel
theorem dX4_comesFrom_56 : decode cX4_comesFrom 56 = .ok (.iload 5, 2) := by decide +kernel
theorem dX4_comesFrom_58 : decode cX4_comesFrom 58 = .ok (.bipush 6, 2) := by decide +kernel
theorem dX4_comesFrom_60 : decode cX4_comesFrom 60 = .ok (.iload_n 1, 1) := by decide +kernel
theorem dX4_comesFrom_61 : decode cX4_comesFrom 61 = .ok (.imul, 1) := by decide +kernel
theorem dX4_comesFrom_62 : decode cX4_comesFrom 62 = .ok (.if_icmp .lt 7, 3) := by decide +kernel
theorem dX4_comesFrom_65 : decode cX4_comesFrom 65 = .ok (.iconst 1, 1) := by decide +kernel
theorem dX4_comesFrom_66 : decode cX4_comesFrom 66 = .ok (.goto 4, 3) := by decide +kernel
theorem dX4_comesFrom_69 : decode cX4_comesFrom 69 = .ok (.iconst 0, 1) := by decide +kernel
theorem dX4_comesFrom_70 : decode cX4_comesFrom 70 = .ok (.istore 6, 2) := by decide +kernel
theorem dX4_comesFrom_72 : decode cX4_comesFrom 72 = .ok (.iload 6, 2) := by decide +kernel
theorem dX4_comesFrom_74 : decode cX4_comesFrom 74 = .ok (.ifCond .eq 14, 3) := by decide +kernel
theorem dX4_comesFrom_77 : decode cX4_comesFrom 77 = .ok (.iload 5, 2) := by decide +kernel
theorem dX4_comesFrom_79 : decode cX4_comesFrom 79 = .ok (.iload_n 3, 1) := by decide +kernel
theorem dX4_comesFrom_80 : decode cX4_comesFrom 80 = .ok (.if_icmp .ge 8, 3) := by decide +kernel
theorem dX4_comesFrom_83 : decode cX4_comesFrom 83 = .ok (.iload 4, 2) := by decide +kernel
theorem dX4_comesFrom_85 : decode cX4_comesFrom 85 = .ok (.goto 4, 3) := by decide +kernel
theorem dX4_comesFrom_88 : decode cX4_comesFrom 88 = .ok (.iload_n 2, 1) := by decide +kernel
theorem dX4_comesFrom_89 : decode cX4_comesFrom 89 = .ok (.istore_n 2, 1) := by decide +kernel
theorem dX4_comesFrom_90 : decode cX4_comesFrom 90 = .ok (.iload 6, 2) := by decide +kernel
theorem dX4_comesFrom_92 : decode cX4_comesFrom 92 = .ok (.ifCond .eq 12, 3) := by decide +kernel
theorem dX4_comesFrom_95 : decode cX4_comesFrom 95 = .ok (.iload 5, 2) := by decide +kernel
theorem dX4_comesFrom_97 : decode cX4_comesFrom 97 = .ok (.iload_n 3, 1) := by decide +kernel
theorem dX4_comesFrom_98 : decode cX4_comesFrom 98 = .ok (.invokestatic 156, 3) := by decide +kernel
theorem dX4_comesFrom_101 : decode cX4_comesFrom 101 = .ok (.goto 4, 3) := by decide +kernel
theorem dX4_comesFrom_104 : decode cX4_comesFrom 104 = .ok (.iload_n 3, 1) := by decide +kernel
theorem dX4_comesFrom_105 : decode cX4_comesFrom 105 = .ok (.istore_n 3, 1) := by decide +kernel
theorem dX4_comesFrom_106 : decode cX4_comesFrom 106 = .ok (.iinc 4 1, 3) := by decide +kernel
theorem dX4_comesFrom_109 : decode cX4_comesFrom 109 = .ok (.goto (-101), 3) := by decide +kernel
theorem dX4_comesFrom_112 : decode cX4_comesFrom 112 = .ok (.iload_n 2, 1) := by decide +kernel
theorem dX4_comesFrom_113 : decode cX4_comesFrom 113 = .ok (.ireturn, 1) := by decide +kernel
set_option maxRecDepth 20000 in
theorem ggX4_moves_X4_goesTo : GoodIn wsX4_moves wsX4_goesTo := goodIn_r _ [14, 8, 7, 15, 16, 17, 18, 19, 13, 20, 21, 22, 23, 24, 25, 26, 27, 28, 37, 38, 39, 40, 41, 42, 43, 44, 45, 46, 47, 48, 49, 50, 51, 52, 53, 54, 55, 56, 57, 58, 59, 60, 61, 62, 63, 64, 65, 66] (by decide +kernel) (by decide +kernel)
set_option maxRecDepth 20000 in
theorem gX4_moves_X4_goesTo : GoodIn wsX4_moves (wsV RX4 165 RX4 yX4_goesTo wsX4_goesTo) := goodIn_app (goodIn_of _ (by decide +kernel)) ggX4_moves_X4_goesTo
set_option maxRecDepth 20000 in
theorem ggX4_moves_X4_comesFrom : GoodIn wsX4_moves wsX4_comesFrom := goodIn_r _ [32, 33, 8, 7, 15, 17, 18, 19, 13, 20, 21, 22, 23, 24, 25, 34, 35, 36, 37, 38, 39, 40, 41, 42, 43, 44, 45, 46, 47, 48, 49, 50, 51, 52, 53, 54, 55, 56, 57, 58, 59, 60, 61, 62, 63, 64, 65, 66] (by decide +kernel) (by decide +kernel)
set_option maxRecDepth 20000 in
theorem gX4_moves_X4_comesFrom : GoodIn wsX4_moves (wsV RX4 168 RX4 yX4_comesFrom wsX4_comesFrom) := goodIn_app (goodIn_of _ (by decide +kernel)) ggX4_moves_X4_comesFrom
set_option maxRecDepth 20000 in
theorem ggX4_moves_X4_lesser : GoodIn wsX4_moves wsX4_lesser := goodIn_r _ [36] (by decide +kernel) (by decide +kernel)
set_option maxRecDepth 20000 in
theorem gX4_moves_X4_lesser : GoodIn wsX4_moves (va_wsS RX4 156 yX4_lesser wsX4_lesser) := goodIn_app (goodIn_of _ (by decide +kernel)) ggX4_moves_X4_lesser
theorem dX4_moves_0 : decode cX4_moves 0 = .ok (.aload_n 0, 1) := by decide +kernel
theorem dX4_moves_1 : decode cX4_moves 1 = .ok (.iconst 0, 1) := by decide +kernel
theorem dX4_moves_2 : decode cX4_moves 2 = .ok (.putfield 159, 3) := by decide +kernel
theorem dX4_moves_5 : decode cX4_moves 5 = .ok (.aload_n 0, 1) := by decide +kernel
theorem dX4_moves_6 : decode cX4_moves 6 = .ok (.iconst 0, 1) := by decide +kernel
theorem dX4_moves_7 : decode cX4_moves 7 = .ok (.putfield 162, 3) := by decide +kernel
theorem dX4_moves_10 : decode cX4_moves 10 = .ok (.iconst 0, 1) := by decide +kernel
theorem dX4_moves_11 : decode cX4_moves 11 = .ok (.istore_n 1, 1) := by decide +kernel
theorem dX4_moves_12 : decode cX4_moves 12 = .ok (.iload_n 1, 1) := by decide +kernel
theorem dX4_moves_13 : decode cX4_moves 13 = .ok (.iconst 4, 1) := by decide +kernel
theorem dX4_moves_14 : decode cX4_moves 14 = .ok (.if_icmp .ge 16, 3) := by decide +kernel
theorem dX4_moves_17 : decode cX4_moves 17 = .ok (.aload_n 0, 1) := by decide +kernel
theorem dX4_moves_18 : decode cX4_moves 18 = .ok (.getfield 47, 3) := by decide +kernel
theorem dX4_moves_21 : decode cX4_moves 21 = .ok (.iload_n 1, 1) := by decide +kernel
theorem dX4_moves_22 : decode cX4_moves 22 = .ok (.iconst 0, 1) := by decide +kernel
theorem dX4_moves_23 : decode cX4_moves 23 = .ok (.iastore, 1) := by decide +kernel
theorem dX4_moves_24 : decode cX4_moves 24 = .ok (.iinc 1 1, 3) := by decide +kernel
theorem dX4_moves_27 : decode cX4_moves 27 = .ok (.goto (-15), 3) := by decide +kernel
theorem dX4_moves_30 : decode cX4_moves 30 = .ok (.iconst 0, 1) := by decide +kernel
theorem dX4_moves_31 : decode cX4_moves 31 = .ok (.istore_n 1, 1) := by decide +kernel
theorem dX4_moves_32 : decode cX4_moves 32 = .ok (.iload_n 1, 1) := by decide +kernel
theorem dX4_moves_33 : decode cX4_moves 33 = .ok (.aload_n 0, 1) := by decide +kernel
theorem dX4_moves_34 : decode cX4_moves 34 = .ok (.getfield 56, 3) := by decide +kernel
theorem dX4_moves_37 : decode cX4_moves 37 = .ok (.if_icmp .ge 101, 3) := by decide +kernel
theorem dX4_moves_40 : decode cX4_moves 40 = .ok (.aload_n 0, 1) := by decide +kernel
theorem dX4_moves_41 : decode cX4_moves 41 = .ok (.getfield 90, 3) := by decide +kernel
theorem dX4_moves_44 : decode cX4_moves 44 = .ok (.ifCond .eq 18, 3) := by decide +kernel
theorem dX4_moves_47 : decode cX4_moves 47 = .ok (.aload_n 0, 1) := by decide +kernel
theorem dX4_moves_48 : decode cX4_moves 48 = .ok (.aload_n 0, 1) := by decide +kernel
theorem dX4_moves_49 : decode cX4_moves 49 = .ok (.getfield 56, 3) := by decide +kernel
theorem dX4_moves_52 : decode cX4_moves 52 = .ok (.iconst 1, 1) := by decide +kernel
theorem dX4_moves_53 : decode cX4_moves 53 = .ok (.isub, 1) := by decide +kernel
theorem dX4_moves_54 : decode cX4_moves 54 = .ok (.iload_n 1, 1) := by decide +kernel
theorem dX4_moves_55 : decode cX4_moves 55 = .ok (.isub, 1) := by decide +kernel
theorem dX4_moves_56 : decode cX4_moves 56 = .ok (.invokevirtual 165, 3) := by decide +kernel
theorem dX4_moves_59 : decode cX4_moves 59 = .ok (.goto 10, 3) := by decide +kernel
theorem dX4_moves_62 : decode cX4_moves 62 = .ok (.aload_n 0, 1) := by decide +kernel
theorem dX4_moves_63 : decode cX4_moves 63 = .ok (.iload_n 1, 1) := by decide +kernel
theorem dX4_moves_64 : decode cX4_moves 64 = .ok (.iconst 1, 1) := by decide +kernel
theorem dX4_moves_65 : decode cX4_moves 65 = .ok (.iadd, 1) := by decide +kernel
theorem dX4_moves_66 : decode cX4_moves 66 = .ok (.invokevirtual 168, 3) := by decide +kernel
theorem dX4_moves_69 : decode cX4_moves 69 = .ok (.istore_n 2, 1) := by decide +kernel
theorem dX4_moves_70 : decode cX4_moves 70 = .ok (.aload_n 0, 1) := by decide +kernel
theorem dX4_moves_71 : decode cX4_moves 71 = .ok (.getfield 44, 3) := by decide +kernel
theorem dX4_moves_74 : decode cX4_moves 74 = .ok (.iload_n 1, 1) := by decide +kernel
theorem dX4_moves_75 : decode cX4_moves 75 = .ok (.iload_n 2, 1) := by decide +kernel
theorem dX4_moves_76 : decode cX4_moves 76 = .ok (.iastore, 1) := by decide +kernel
theorem dX4_moves_77 : decode cX4_moves 77 = .ok (.aload_n 0, 1) := by decide +kernel
theorem dX4_moves_78 : decode cX4_moves 78 = .ok (.dup, 1) := by decide +kernel
theorem dX4_moves_79 : decode cX4_moves 79 = .ok (.getfield 159, 3) := by decide +kernel
theorem dX4_moves_82 : decode cX4_moves 82 = .ok (.iload_n 2, 1) := by decide +kernel
theorem dX4_moves_83 : decode cX4_moves 83 = .ok (.iconst (-1), 1) := by decide +kernel
theorem dX4_moves_84 : decode cX4_moves 84 = .ok (.if_icmp .ne 7, 3) := by decide +kernel
theorem dX4_moves_87 : decode cX4_moves 87 = .ok (.iconst 1, 1) := by decide +kernel
theorem dX4_moves_88 : decode cX4_moves 88 = .ok (.goto 4, 3) := by decide +kernel
theorem dX4_moves_91 : decode cX4_moves 91 = .ok (.iconst 0, 1) := by decide +kernel
theorem dX4_moves_92 : decode cX4_moves 92 = .ok (.iadd, 1) := by decide +kernel
theorem dX4_moves_93 : decode cX4_moves 93 = .ok (.putfield 159, 3) := by decide +kernel
theorem dX4_moves_96 : decode cX4_moves 96 = .ok (.iload_n 2, 1) := by decide +kernel
theorem dX4_moves_97 : decode cX4_moves 97 = .ok (.iconst (-1), 1) := by decide +kernel
theorem dX4_moves_98 : decode cX4_moves 98 = .ok (.if_icmp .eq 34, 3) := by decide +kernel
theorem dX4_moves_101 : decode cX4_moves 101 = .ok (.aload_n 0, 1) := by decide +kernel
theorem dX4_moves_102 : decode cX4_moves 102 = .ok (.getfield 34, 3) := by decide +kernel
theorem dX4_moves_105 : decode cX4_moves 105 = .ok (.iload_n 2, 1) := by decide +kernel
theorem dX4_moves_106 : decode cX4_moves 106 = .ok (.dup2, 1) := by decide +kernel
theorem dX4_moves_107 : decode cX4_moves 107 = .ok (.iaload, 1) := by decide +kernel
theorem dX4_moves_108 : decode cX4_moves 108 = .ok (.aload_n 0, 1) := by decide +kernel
theorem dX4_moves_109 : decode cX4_moves 109 = .ok (.getfield 90, 3) := by decide +kernel
theorem dX4_moves_112 : decode cX4_moves 112 = .ok (.ifCond .eq 7, 3) := by decide +kernel
theorem dX4_moves_115 : decode cX4_moves 115 = .ok (.iconst 1, 1) := by decide +kernel
theorem dX4_moves_116 : decode cX4_moves 116 = .ok (.goto 4, 3) := by decide +kernel
theorem dX4_moves_119 : decode cX4_moves 119 = .ok (.iconst (-1), 1) := by decide +kernel
theorem dX4_moves_120 : decode cX4_moves 120 = .ok (.iadd, 1) := by decide +kernel
theorem dX4_moves_121 : decode cX4_moves 121 = .ok (.iastore, 1) := by decide +kernel
theorem dX4_moves_122 : decode cX4_moves 122 = .ok (.aload_n 0, 1) := by decide +kernel
theorem dX4_moves_123 : decode cX4_moves 123 = .ok (.getfield 47, 3) := by decide +kernel
theorem dX4_moves_126 : decode cX4_moves 126 = .ok (.iload_n 2, 1) := by decide +kernel
theorem dX4_moves_127 : decode cX4_moves 127 = .ok (.dup2, 1) := by decide +kernel
theorem dX4_moves_128 : decode cX4_moves 128 = .ok (.iaload, 1) := by decide +kernel
theorem dX4_moves_129 : decode cX4_moves 129 = .ok (.iconst 1, 1) := by decide +kernel
theorem dX4_moves_130 : decode cX4_moves 130 = .ok (.iadd, 1) := by decide +kernel
theorem dX4_moves_131 : decode cX4_moves 131 = .ok (.iastore, 1) := by decide +kernel
theorem dX4_moves_132 : decode cX4_moves 132 = .ok (.iinc 1 1, 3) := by decide +kernel
theorem dX4_moves_135 : decode cX4_moves 135 = .ok (.goto (-103), 3) := by decide +kernel
theorem dX4_moves_138 : decode cX4_moves 138 = .ok (.aload_n 0, 1) := by decide +kernel
theorem dX4_moves_139 : decode cX4_moves 139 = .ok (.aload_n 0, 1) := by decide +kernel
theorem dX4_moves_140 : decode cX4_moves 140 = .ok (.getfield 90, 3) := by decide +kernel
theorem dX4_moves_143 : decode cX4_moves 143 = .ok (.ifCond .ne 7, 3) := by decide +kernel
theorem dX4_moves_146 : decode cX4_moves 146 = .ok (.iconst 1, 1) := by decide +kernel
theorem dX4_moves_147 : decode cX4_moves 147 = .ok (.goto 4, 3) := by decide +kernel
theorem dX4_moves_150 : decode cX4_moves 150 = .ok (.iconst 0, 1) := by decide +kernel
theorem dX4_moves_151 : decode cX4_moves 151 = .ok (.putfield 90, 3) := by decide +kernel
theorem dX4_moves_154 : decode cX4_moves 154 = .ok (.iconst 0, 1) := by decide +kernel
theorem dX4_moves_155 : decode cX4_moves 155 = .ok (.istore_n 1, 1) := by decide +kernel
theorem dX4_moves_156 : decode cX4_moves 156 = .ok (.iload_n 1, 1) := by decide +kernel
theorem dX4_moves_157 : decode cX4_moves 157 = .ok (.aload_n 0, 1) := by decide +kernel
theorem dX4_moves_158 : decode cX4_moves 158 = .ok (.getfield 96, 3) := by decide +kernel
theorem dX4_moves_161 : decode cX4_moves 161 = .ok (.if_icmp .ge 45, 3) := by decide +kernel
theorem dX4_moves_164 : decode cX4_moves 164 = .ok (.aload_n 0, 1) := by decide +kernel
theorem dX4_moves_165 : decode cX4_moves 165 = .ok (.getfield 31, 3) := by decide +kernel
theorem dX4_moves_168 : decode cX4_moves 168 = .ok (.iload_n 1, 1) := by decide +kernel
theorem dX4_moves_169 : decode cX4_moves 169 = .ok (.iaload, 1) := by decide +kernel
theorem dX4_moves_170 : decode cX4_moves 170 = .ok (.aload_n 0, 1) := by decide +kernel
theorem dX4_moves_171 : decode cX4_moves 171 = .ok (.getfield 34, 3) := by decide +kernel
theorem dX4_moves_174 : decode cX4_moves 174 = .ok (.iload_n 1, 1) := by decide +kernel
theorem dX4_moves_175 : decode cX4_moves 175 = .ok (.iaload, 1) := by decide +kernel
theorem dX4_moves_176 : decode cX4_moves 176 = .ok (.invokestatic 156, 3) := by decide +kernel
theorem dX4_moves_179 : decode cX4_moves 179 = .ok (.istore_n 2, 1) := by decide +kernel
theorem dX4_moves_180 : decode cX4_moves 180 = .ok (.aload_n 0, 1) := by decide +kernel
theorem dX4_moves_181 : decode cX4_moves 181 = .ok (.getfield 34, 3) := by decide +kernel
theorem dX4_moves_184 : decode cX4_moves 184 = .ok (.iload_n 1, 1) := by decide +kernel
theorem dX4_moves_185 : decode cX4_moves 185 = .ok (.dup2, 1) := by decide +kernel
theorem dX4_moves_186 : decode cX4_moves 186 = .ok (.iaload, 1) := by decide +kernel
theorem dX4_moves_187 : decode cX4_moves 187 = .ok (.iload_n 2, 1) := by decide +kernel
theorem dX4_moves_188 : decode cX4_moves 188 = .ok (.isub, 1) := by decide +kernel
theorem dX4_moves_189 : decode cX4_moves 189 = .ok (.iastore, 1) := by decide +kernel
theorem dX4_moves_190 : decode cX4_moves 190 = .ok (.aload_n 0, 1) := by decide +kernel
theorem dX4_moves_191 : decode cX4_moves 191 = .ok (.dup, 1) := by decide +kernel
theorem dX4_moves_192 : decode cX4_moves 192 = .ok (.getfield 162, 3) := by decide +kernel
theorem dX4_moves_195 : decode cX4_moves 195 = .ok (.iload_n 2, 1) := by decide +kernel
theorem dX4_moves_196 : decode cX4_moves 196 = .ok (.iadd, 1) := by decide +kernel
theorem dX4_moves_197 : decode cX4_moves 197 = .ok (.putfield 162, 3) := by decide +kernel
theorem dX4_moves_200 : decode cX4_moves 200 = .ok (.iinc 1 1, 3) := by decide +kernel
theorem dX4_moves_203 : decode cX4_moves 203 = .ok (.goto (-47), 3) := by decide +kernel
theorem dX4_moves_206 : decode cX4_moves 206 = .ok (.return_, 1) := by decide +kernel
theorem dX4_keeps_0 : decode cX4_keeps 0 = .ok (.aload_n 0, 1) := by decide +kernel
theorem dX4_keeps_1 : decode cX4_keeps 1 = .ok (.aload_n 0, 1) := by decide +kernel
theorem dX4_keeps_2 : decode cX4_keeps 2 = .ok (.getfield 90, 3) := by decide +kernel
theorem dX4_keeps_5 : decode cX4_keeps 5 = .ok (.putfield 171, 3) := by decide +kernel
theorem dX4_keeps_8 : decode cX4_keeps 8 = .ok (.iconst 0, 1) := by decide +kernel
theorem dX4_keeps_9 : decode cX4_keeps 9 = .ok (.istore_n 1, 1) := by decide +kernel
theorem dX4_keeps_10 : decode cX4_keeps 10 = .ok (.iload_n 1, 1) := by decide +kernel
theorem dX4_keeps_11 : decode cX4_keeps 11 = .ok (.iconst 4, 1) := by decide +kernel
theorem dX4_keeps_12 : decode cX4_keeps 12 = .ok (.if_icmp .ge 21, 3) := by decide +kernel
theorem dX4_keeps_15 : decode cX4_keeps 15 = .ok (.aload_n 0, 1) := by decide +kernel
theorem dX4_keeps_16 : decode cX4_keeps 16 = .ok (.getfield 50, 3) := by decide +kernel
theorem dX4_keeps_19 : decode cX4_keeps 19 = .ok (.iload_n 1, 1) := by decide +kernel
theorem dX4_keeps_20 : decode cX4_keeps 20 = .ok (.aload_n 0, 1) := by decide +kernel
theorem dX4_keeps_21 : decode cX4_keeps 21 = .ok (.getfield 34, 3) := by decide +kernel
theorem dX4_keeps_24 : decode cX4_keeps 24 = .ok (.iload_n 1, 1) := by decide +kernel
theorem dX4_keeps_25 : decode cX4_keeps 25 = .ok (.iaload, 1) := by decide +kernel
theorem dX4_keeps_26 : decode cX4_keeps 26 = .ok (.iastore, 1) := by decide +kernel
theorem dX4_keeps_27 : decode cX4_keeps 27 = .ok (.iinc 1 1, 3) := by decide +kernel
theorem dX4_keeps_30 : decode cX4_keeps 30 = .ok (.goto (-20), 3) := by decide +kernel
theorem dX4_keeps_33 : decode cX4_keeps 33 = .ok (.return_, 1) := by decide +kernel
theorem dX4_takesBack_0 : decode cX4_takesBack 0 = .ok (.aload_n 0, 1) := by decide +kernel
theorem dX4_takesBack_1 : decode cX4_takesBack 1 = .ok (.aload_n 0, 1) := by decide +kernel
theorem dX4_takesBack_2 : decode cX4_takesBack 2 = .ok (.getfield 171, 3) := by decide +kernel
theorem dX4_takesBack_5 : decode cX4_takesBack 5 = .ok (.putfield 90, 3) := by decide +kernel
theorem dX4_takesBack_8 : decode cX4_takesBack 8 = .ok (.iconst 0, 1) := by decide +kernel
theorem dX4_takesBack_9 : decode cX4_takesBack 9 = .ok (.istore_n 1, 1) := by decide +kernel
theorem dX4_takesBack_10 : decode cX4_takesBack 10 = .ok (.iload_n 1, 1) := by decide +kernel
theorem dX4_takesBack_11 : decode cX4_takesBack 11 = .ok (.iconst 4, 1) := by decide +kernel
theorem dX4_takesBack_12 : decode cX4_takesBack 12 = .ok (.if_icmp .ge 21, 3) := by decide +kernel
theorem dX4_takesBack_15 : decode cX4_takesBack 15 = .ok (.aload_n 0, 1) := by decide +kernel
theorem dX4_takesBack_16 : decode cX4_takesBack 16 = .ok (.getfield 34, 3) := by decide +kernel
theorem dX4_takesBack_19 : decode cX4_takesBack 19 = .ok (.iload_n 1, 1) := by decide +kernel
theorem dX4_takesBack_20 : decode cX4_takesBack 20 = .ok (.aload_n 0, 1) := by decide +kernel
theorem dX4_takesBack_21 : decode cX4_takesBack 21 = .ok (.getfield 50, 3) := by decide +kernel
theorem dX4_takesBack_24 : decode cX4_takesBack 24 = .ok (.iload_n 1, 1) := by decide +kernel
theorem dX4_takesBack_25 : decode cX4_takesBack 25 = .ok (.iaload, 1) := by decide +kernel
theorem dX4_takesBack_26 : decode cX4_takesBack 26 = .ok (.iastore, 1) := by decide +kernel
theorem dX4_takesBack_27 : decode cX4_takesBack 27 = .ok (.iinc 1 1, 3) := by decide +kernel
theorem dX4_takesBack_30 : decode cX4_takesBack 30 = .ok (.goto (-20), 3) := by decide +kernel
theorem dX4_takesBack_33 : decode cX4_takesBack 33 = .ok (.return_, 1) := by decide +kernel
set_option maxRecDepth 20000 in
theorem ggX4_does_X4_moves : GoodIn wsX4_does wsX4_moves := goodIn_r _ [16, 5, 6, 7, 4, 2, 17, 18, 19, 20, 21, 22, 23, 15, 24, 25, 26, 27, 28, 29, 30, 31, 32, 33, 34, 35, 36, 37, 38, 39, 40, 41, 42, 43, 44, 45, 46, 47, 48, 49, 50, 51, 52, 53, 54, 55, 56, 57, 58, 59, 60, 61, 62, 63, 64, 65, 66, 67, 68, 69, 70, 71, 72, 73, 74, 75, 76] (by decide +kernel) (by decide +kernel)
set_option maxRecDepth 20000 in
theorem gX4_does_X4_moves : GoodIn wsX4_does (wsV RX4 177 RX4 yX4_moves wsX4_moves) := goodIn_app (goodIn_of _ (by decide +kernel)) ggX4_does_X4_moves
theorem dX4_does_0 : decode cX4_does 0 = .ok (.bipush 9, 2) := by decide +kernel
theorem dX4_does_2 : decode cX4_does 2 = .ok (.aload_n 0, 1) := by decide +kernel
theorem dX4_does_3 : decode cX4_does 3 = .ok (.getfield 174, 3) := by decide +kernel
theorem dX4_does_6 : decode cX4_does 6 = .ok (.imul, 1) := by decide +kernel
theorem dX4_does_7 : decode cX4_does 7 = .ok (.istore_n 2, 1) := by decide +kernel
theorem dX4_does_8 : decode cX4_does 8 = .ok (.aload_n 0, 1) := by decide +kernel
theorem dX4_does_9 : decode cX4_does 9 = .ok (.getfield 90, 3) := by decide +kernel
theorem dX4_does_12 : decode cX4_does 12 = .ok (.ifCond .ne 7, 3) := by decide +kernel
theorem dX4_does_15 : decode cX4_does 15 = .ok (.iconst 1, 1) := by decide +kernel
theorem dX4_does_16 : decode cX4_does 16 = .ok (.goto 4, 3) := by decide +kernel
theorem dX4_does_19 : decode cX4_does 19 = .ok (.iconst 0, 1) := by decide +kernel
theorem dX4_does_20 : decode cX4_does 20 = .ok (.istore_n 3, 1) := by decide +kernel
theorem dX4_does_21 : decode cX4_does 21 = .ok (.aload_n 0, 1) := by decide +kernel
theorem dX4_does_22 : decode cX4_does 22 = .ok (.invokevirtual 177, 3) := by decide +kernel
theorem dX4_does_25 : decode cX4_does 25 = .ok (.aload_n 0, 1) := by decide +kernel
theorem dX4_does_26 : decode cX4_does 26 = .ok (.getfield 53, 3) := by decide +kernel
theorem dX4_does_29 : decode cX4_does 29 = .ok (.iload_n 2, 1) := by decide +kernel
theorem dX4_does_30 : decode cX4_does 30 = .ok (.iload_n 1, 1) := by decide +kernel
theorem dX4_does_31 : decode cX4_does 31 = .ok (.iastore, 1) := by decide +kernel
theorem dX4_does_32 : decode cX4_does 32 = .ok (.aload_n 0, 1) := by decide +kernel
theorem dX4_does_33 : decode cX4_does 33 = .ok (.getfield 53, 3) := by decide +kernel
theorem dX4_does_36 : decode cX4_does 36 = .ok (.iload_n 2, 1) := by decide +kernel
theorem dX4_does_37 : decode cX4_does 37 = .ok (.iconst 1, 1) := by decide +kernel
theorem dX4_does_38 : decode cX4_does 38 = .ok (.iadd, 1) := by decide +kernel
theorem dX4_does_39 : decode cX4_does 39 = .ok (.iload_n 3, 1) := by decide +kernel
theorem dX4_does_40 : decode cX4_does 40 = .ok (.ifCond .eq 7, 3) := by decide +kernel
theorem dX4_does_43 : decode cX4_does 43 = .ok (.iconst 1, 1) := by decide +kernel
theorem dX4_does_44 : decode cX4_does 44 = .ok (.goto 4, 3) := by decide +kernel
theorem dX4_does_47 : decode cX4_does 47 = .ok (.iconst 0, 1) := by decide +kernel
theorem dX4_does_48 : decode cX4_does 48 = .ok (.iastore, 1) := by decide +kernel
theorem dX4_does_49 : decode cX4_does 49 = .ok (.aload_n 0, 1) := by decide +kernel
theorem dX4_does_50 : decode cX4_does 50 = .ok (.getfield 53, 3) := by decide +kernel
theorem dX4_does_53 : decode cX4_does 53 = .ok (.iload_n 2, 1) := by decide +kernel
theorem dX4_does_54 : decode cX4_does 54 = .ok (.iconst 2, 1) := by decide +kernel
theorem dX4_does_55 : decode cX4_does 55 = .ok (.iadd, 1) := by decide +kernel
theorem dX4_does_56 : decode cX4_does 56 = .ok (.aload_n 0, 1) := by decide +kernel
theorem dX4_does_57 : decode cX4_does 57 = .ok (.getfield 56, 3) := by decide +kernel
theorem dX4_does_60 : decode cX4_does 60 = .ok (.aload_n 0, 1) := by decide +kernel
theorem dX4_does_61 : decode cX4_does 61 = .ok (.getfield 159, 3) := by decide +kernel
theorem dX4_does_64 : decode cX4_does 64 = .ok (.isub, 1) := by decide +kernel
theorem dX4_does_65 : decode cX4_does 65 = .ok (.iastore, 1) := by decide +kernel
theorem dX4_does_66 : decode cX4_does 66 = .ok (.aload_n 0, 1) := by decide +kernel
theorem dX4_does_67 : decode cX4_does 67 = .ok (.getfield 53, 3) := by decide +kernel
theorem dX4_does_70 : decode cX4_does 70 = .ok (.iload_n 2, 1) := by decide +kernel
theorem dX4_does_71 : decode cX4_does 71 = .ok (.iconst 3, 1) := by decide +kernel
theorem dX4_does_72 : decode cX4_does 72 = .ok (.iadd, 1) := by decide +kernel
theorem dX4_does_73 : decode cX4_does 73 = .ok (.aload_n 0, 1) := by decide +kernel
theorem dX4_does_74 : decode cX4_does 74 = .ok (.getfield 159, 3) := by decide +kernel
theorem dX4_does_77 : decode cX4_does 77 = .ok (.iastore, 1) := by decide +kernel
theorem dX4_does_78 : decode cX4_does 78 = .ok (.aload_n 0, 1) := by decide +kernel
theorem dX4_does_79 : decode cX4_does 79 = .ok (.getfield 53, 3) := by decide +kernel
theorem dX4_does_82 : decode cX4_does 82 = .ok (.iload_n 2, 1) := by decide +kernel
theorem dX4_does_83 : decode cX4_does 83 = .ok (.iconst 4, 1) := by decide +kernel
theorem dX4_does_84 : decode cX4_does 84 = .ok (.iadd, 1) := by decide +kernel
theorem dX4_does_85 : decode cX4_does 85 = .ok (.aload_n 0, 1) := by decide +kernel
theorem dX4_does_86 : decode cX4_does 86 = .ok (.getfield 162, 3) := by decide +kernel
theorem dX4_does_89 : decode cX4_does 89 = .ok (.iastore, 1) := by decide +kernel
theorem dX4_does_90 : decode cX4_does 90 = .ok (.iconst 0, 1) := by decide +kernel
theorem dX4_does_91 : decode cX4_does 91 = .ok (.istore 4, 2) := by decide +kernel
theorem dX4_does_93 : decode cX4_does 93 = .ok (.iload 4, 2) := by decide +kernel
theorem dX4_does_95 : decode cX4_does 95 = .ok (.iconst 4, 1) := by decide +kernel
theorem dX4_does_96 : decode cX4_does 96 = .ok (.if_icmp .ge 27, 3) := by decide +kernel
theorem dX4_does_99 : decode cX4_does 99 = .ok (.aload_n 0, 1) := by decide +kernel
theorem dX4_does_100 : decode cX4_does 100 = .ok (.getfield 53, 3) := by decide +kernel
theorem dX4_does_103 : decode cX4_does 103 = .ok (.iload_n 2, 1) := by decide +kernel
theorem dX4_does_104 : decode cX4_does 104 = .ok (.iconst 5, 1) := by decide +kernel
theorem dX4_does_105 : decode cX4_does 105 = .ok (.iadd, 1) := by decide +kernel
theorem dX4_does_106 : decode cX4_does 106 = .ok (.iload 4, 2) := by decide +kernel
theorem dX4_does_108 : decode cX4_does 108 = .ok (.iadd, 1) := by decide +kernel
theorem dX4_does_109 : decode cX4_does 109 = .ok (.aload_n 0, 1) := by decide +kernel
theorem dX4_does_110 : decode cX4_does 110 = .ok (.getfield 47, 3) := by decide +kernel
theorem dX4_does_113 : decode cX4_does 113 = .ok (.iload 4, 2) := by decide +kernel
theorem dX4_does_115 : decode cX4_does 115 = .ok (.iaload, 1) := by decide +kernel
theorem dX4_does_116 : decode cX4_does 116 = .ok (.iastore, 1) := by decide +kernel
theorem dX4_does_117 : decode cX4_does 117 = .ok (.iinc 4 1, 3) := by decide +kernel
theorem dX4_does_120 : decode cX4_does 120 = .ok (.goto (-27), 3) := by decide +kernel
theorem dX4_does_123 : decode cX4_does 123 = .ok (.aload_n 0, 1) := by decide +kernel
theorem dX4_does_124 : decode cX4_does 124 = .ok (.dup, 1) := by decide +kernel
theorem dX4_does_125 : decode cX4_does 125 = .ok (.getfield 180, 3) := by decide +kernel
theorem dX4_does_128 : decode cX4_does 128 = .ok (.iload_n 3, 1) := by decide +kernel
theorem dX4_does_129 : decode cX4_does 129 = .ok (.ifCond .eq 10, 3) := by decide +kernel
theorem dX4_does_132 : decode cX4_does 132 = .ok (.aload_n 0, 1) := by decide +kernel
theorem dX4_does_133 : decode cX4_does 133 = .ok (.getfield 159, 3) := by decide +kernel
theorem dX4_does_136 : decode cX4_does 136 = .ok (.goto 4, 3) := by decide +kernel
theorem dX4_does_139 : decode cX4_does 139 = .ok (.iconst 0, 1) := by decide +kernel
theorem dX4_does_140 : decode cX4_does 140 = .ok (.iadd, 1) := by decide +kernel
theorem dX4_does_141 : decode cX4_does 141 = .ok (.putfield 180, 3) := by decide +kernel
theorem dX4_does_144 : decode cX4_does 144 = .ok (.aload_n 0, 1) := by decide +kernel
theorem dX4_does_145 : decode cX4_does 145 = .ok (.dup, 1) := by decide +kernel
theorem dX4_does_146 : decode cX4_does 146 = .ok (.getfield 183, 3) := by decide +kernel
theorem dX4_does_149 : decode cX4_does 149 = .ok (.iload_n 3, 1) := by decide +kernel
theorem dX4_does_150 : decode cX4_does 150 = .ok (.ifCond .eq 7, 3) := by decide +kernel
theorem dX4_does_153 : decode cX4_does 153 = .ok (.iconst 0, 1) := by decide +kernel
theorem dX4_does_154 : decode cX4_does 154 = .ok (.goto 7, 3) := by decide +kernel
theorem dX4_does_157 : decode cX4_does 157 = .ok (.aload_n 0, 1) := by decide +kernel
theorem dX4_does_158 : decode cX4_does 158 = .ok (.getfield 159, 3) := by decide +kernel
theorem dX4_does_161 : decode cX4_does 161 = .ok (.iadd, 1) := by decide +kernel
theorem dX4_does_162 : decode cX4_does 162 = .ok (.putfield 183, 3) := by decide +kernel
theorem dX4_does_165 : decode cX4_does 165 = .ok (.aload_n 0, 1) := by decide +kernel
theorem dX4_does_166 : decode cX4_does 166 = .ok (.dup, 1) := by decide +kernel
theorem dX4_does_167 : decode cX4_does 167 = .ok (.getfield 186, 3) := by decide +kernel
theorem dX4_does_170 : decode cX4_does 170 = .ok (.aload_n 0, 1) := by decide +kernel
theorem dX4_does_171 : decode cX4_does 171 = .ok (.getfield 162, 3) := by decide +kernel
theorem dX4_does_174 : decode cX4_does 174 = .ok (.iadd, 1) := by decide +kernel
theorem dX4_does_175 : decode cX4_does 175 = .ok (.putfield 186, 3) := by decide +kernel
theorem dX4_does_178 : decode cX4_does 178 = .ok (.aload_n 0, 1) := by decide +kernel
theorem dX4_does_179 : decode cX4_does 179 = .ok (.dup, 1) := by decide +kernel
theorem dX4_does_180 : decode cX4_does 180 = .ok (.getfield 189, 3) := by decide +kernel
theorem dX4_does_183 : decode cX4_does 183 = .ok (.iconst 1, 1) := by decide +kernel
theorem dX4_does_184 : decode cX4_does 184 = .ok (.iadd, 1) := by decide +kernel
theorem dX4_does_185 : decode cX4_does 185 = .ok (.putfield 189, 3) := by decide +kernel
theorem dX4_does_188 : decode cX4_does 188 = .ok (.aload_n 0, 1) := by decide +kernel
theorem dX4_does_189 : decode cX4_does 189 = .ok (.dup, 1) := by decide +kernel
theorem dX4_does_190 : decode cX4_does 190 = .ok (.getfield 174, 3) := by decide +kernel
theorem dX4_does_193 : decode cX4_does 193 = .ok (.iconst 1, 1) := by decide +kernel
theorem dX4_does_194 : decode cX4_does 194 = .ok (.iadd, 1) := by decide +kernel
theorem dX4_does_195 : decode cX4_does 195 = .ok (.putfield 174, 3) := by decide +kernel
theorem dX4_does_198 : decode cX4_does 198 = .ok (.return_, 1) := by decide +kernel
set_option maxRecDepth 20000 in
theorem ggX4_serve_X4_nextBoat : GoodIn wsX4_serve wsX4_nextBoat := goodIn_r _ [8, 9, 3, 2, 10, 11, 12, 13, 7, 14, 15, 67, 68, 69, 70, 71, 72, 73, 74, 75, 76, 77, 78, 79, 80, 81, 82, 83, 84, 85, 86, 87, 88, 89, 90, 91, 92, 93, 94, 95, 96] (by decide +kernel) (by decide +kernel)
set_option maxRecDepth 20000 in
theorem gX4_serve_X4_nextBoat : GoodIn wsX4_serve (wsV RX4 141 RX4 yX4_nextBoat wsX4_nextBoat) := goodIn_app (goodIn_of _ (by decide +kernel)) ggX4_serve_X4_nextBoat
set_option maxRecDepth 20000 in
theorem ggX4_serve_X4_nextBy : GoodIn wsX4_serve wsX4_nextBy := goodIn_r _ [19, 2, 4, 5, 6, 7, 8, 9, 3, 10, 11, 12, 13, 14, 15, 67, 68, 69, 70, 71, 72, 73, 74, 75, 76, 77, 78, 79, 80, 81, 82, 83, 84, 85, 86, 87, 88, 89, 90, 91, 92, 93, 94, 95, 96] (by decide +kernel) (by decide +kernel)
set_option maxRecDepth 20000 in
theorem gX4_serve_X4_nextBy : GoodIn wsX4_serve (wsV RX4 145 RX4 yX4_nextBy wsX4_nextBy) := goodIn_app (goodIn_of _ (by decide +kernel)) ggX4_serve_X4_nextBy
set_option maxRecDepth 20000 in
theorem ggX4_serve_X4_isSide : GoodIn wsX4_serve wsX4_isSide := goodIn_r _ [14, 15, 67, 68, 69, 70, 71, 72, 73, 74, 75, 76, 77, 78, 79, 80, 81, 82, 83, 84, 85, 86, 87, 88, 89, 90, 91, 92, 93, 94, 95, 96] (by decide +kernel) (by decide +kernel)
set_option maxRecDepth 20000 in
theorem gX4_serve_X4_isSide : GoodIn wsX4_serve (wsV RX4 138 RX4 yX4_isSide wsX4_isSide) := goodIn_app (goodIn_of _ (by decide +kernel)) ggX4_serve_X4_isSide
set_option maxRecDepth 20000 in
theorem ggX4_serve_X4_does : GoodIn wsX4_serve wsX4_does := goodIn_r _ [23, 1, 15, 24, 25, 26, 27, 28, 29, 30, 31, 32, 33, 34, 35, 7, 36, 37, 38, 39, 40, 41, 42, 43, 44, 45, 46, 47, 48, 49, 50, 51, 52, 53, 54, 55, 56, 57, 58, 59, 60, 61, 62, 63, 64, 65, 66, 67, 68, 69, 70, 71, 72, 73, 74, 75, 76, 77, 78, 79, 80, 81, 82, 83, 84, 85, 86, 87, 88, 89, 90, 91, 92, 93, 94, 95, 96] (by decide +kernel) (by decide +kernel)
set_option maxRecDepth 20000 in
theorem gX4_serve_X4_does : GoodIn wsX4_serve (wsV RX4 192 RX4 yX4_does wsX4_does) := goodIn_app (goodIn_of _ (by decide +kernel)) ggX4_serve_X4_does
theorem dX4_serve_0 : decode cX4_serve 0 = .ok (.aload_n 0, 1) := by decide +kernel
theorem dX4_serve_1 : decode cX4_serve 1 = .ok (.invokevirtual 141, 3) := by decide +kernel
theorem dX4_serve_4 : decode cX4_serve 4 = .ok (.istore_n 1, 1) := by decide +kernel
theorem dX4_serve_5 : decode cX4_serve 5 = .ok (.iload_n 1, 1) := by decide +kernel
theorem dX4_serve_6 : decode cX4_serve 6 = .ok (.iconst (-1), 1) := by decide +kernel
theorem dX4_serve_7 : decode cX4_serve 7 = .ok (.if_icmp .ne 6, 3) := by decide +kernel
theorem dX4_serve_10 : decode cX4_serve 10 = .ok (.bipush (-3), 2) := by decide +kernel
theorem dX4_serve_12 : decode cX4_serve 12 = .ok (.ireturn, 1) := by decide +kernel
theorem dX4_serve_13 : decode cX4_serve 13 = .ok (.aload_n 0, 1) := by decide +kernel
theorem dX4_serve_14 : decode cX4_serve 14 = .ok (.getfield 174, 3) := by decide +kernel
theorem dX4_serve_17 : decode cX4_serve 17 = .ok (.aload_n 0, 1) := by decide +kernel
theorem dX4_serve_18 : decode cX4_serve 18 = .ok (.iconst 1, 1) := by decide +kernel
theorem dX4_serve_19 : decode cX4_serve 19 = .ok (.invokevirtual 145, 3) := by decide +kernel
theorem dX4_serve_22 : decode cX4_serve 22 = .ok (.iadd, 1) := by decide +kernel
theorem dX4_serve_23 : decode cX4_serve 23 = .ok (.bipush 60, 2) := by decide +kernel
theorem dX4_serve_25 : decode cX4_serve 25 = .ok (.if_icmp .le 6, 3) := by decide +kernel
theorem dX4_serve_28 : decode cX4_serve 28 = .ok (.bipush (-4), 2) := by decide +kernel
theorem dX4_serve_30 : decode cX4_serve 30 = .ok (.ireturn, 1) := by decide +kernel
theorem dX4_serve_31 : decode cX4_serve 31 = .ok (.aload_n 0, 1) := by decide +kernel
theorem dX4_serve_32 : decode cX4_serve 32 = .ok (.aload_n 0, 1) := by decide +kernel
theorem dX4_serve_33 : decode cX4_serve 33 = .ok (.getfield 37, 3) := by decide +kernel
theorem dX4_serve_36 : decode cX4_serve 36 = .ok (.iload_n 1, 1) := by decide +kernel
theorem dX4_serve_37 : decode cX4_serve 37 = .ok (.iaload, 1) := by decide +kernel
theorem dX4_serve_38 : decode cX4_serve 38 = .ok (.invokevirtual 138, 3) := by decide +kernel
theorem dX4_serve_41 : decode cX4_serve 41 = .ok (.ifCond .ne 8, 3) := by decide +kernel
theorem dX4_serve_44 : decode cX4_serve 44 = .ok (.aload_n 0, 1) := by decide +kernel
theorem dX4_serve_45 : decode cX4_serve 45 = .ok (.iconst (-1), 1) := by decide +kernel
theorem dX4_serve_46 : decode cX4_serve 46 = .ok (.invokevirtual 192, 3) := by decide +kernel
theorem dX4_serve_49 : decode cX4_serve 49 = .ok (.aload_n 0, 1) := by decide +kernel
theorem dX4_serve_50 : decode cX4_serve 50 = .ok (.getfield 40, 3) := by decide +kernel
theorem dX4_serve_53 : decode cX4_serve 53 = .ok (.iload_n 1, 1) := by decide +kernel
theorem dX4_serve_54 : decode cX4_serve 54 = .ok (.iconst 0, 1) := by decide +kernel
theorem dX4_serve_55 : decode cX4_serve 55 = .ok (.bastore, 1) := by decide +kernel
theorem dX4_serve_56 : decode cX4_serve 56 = .ok (.aload_n 0, 1) := by decide +kernel
theorem dX4_serve_57 : decode cX4_serve 57 = .ok (.iload_n 1, 1) := by decide +kernel
theorem dX4_serve_58 : decode cX4_serve 58 = .ok (.invokevirtual 192, 3) := by decide +kernel
theorem dX4_serve_61 : decode cX4_serve 61 = .ok (.iload_n 1, 1) := by decide +kernel
theorem dX4_serve_62 : decode cX4_serve 62 = .ok (.ireturn, 1) := by decide +kernel
set_option maxRecDepth 20000 in
theorem ggX4_turn_X4_does : GoodIn wsX4_turn wsX4_does := goodIn_r _ [7, 1, 8, 9, 10, 2, 11, 12, 13, 14, 15, 16, 17, 18, 19, 6, 20, 21, 22, 23, 24, 25, 26, 27, 28, 29, 30, 31, 32, 33, 34, 35, 36, 37, 38, 39, 40, 41, 42, 43, 44, 45, 46, 47, 48, 49, 50, 51, 52, 53, 54, 55, 56, 57, 58, 59, 60, 61, 62, 63, 64, 65, 66, 67, 68, 69, 70, 71, 72, 73, 74, 75, 76, 77, 78, 79, 80] (by decide +kernel) (by decide +kernel)
set_option maxRecDepth 20000 in
theorem gX4_turn_X4_does : GoodIn wsX4_turn (wsV RX4 192 RX4 yX4_does wsX4_does) := goodIn_app (goodIn_of _ (by decide +kernel)) ggX4_turn_X4_does
theorem dX4_turn_0 : decode cX4_turn 0 = .ok (.aload_n 0, 1) := by decide +kernel
theorem dX4_turn_1 : decode cX4_turn 1 = .ok (.getfield 174, 3) := by decide +kernel
theorem dX4_turn_4 : decode cX4_turn 4 = .ok (.bipush 60, 2) := by decide +kernel
theorem dX4_turn_6 : decode cX4_turn 6 = .ok (.if_icmp .ne 6, 3) := by decide +kernel
theorem dX4_turn_9 : decode cX4_turn 9 = .ok (.bipush (-4), 2) := by decide +kernel
theorem dX4_turn_11 : decode cX4_turn 11 = .ok (.ireturn, 1) := by decide +kernel
theorem dX4_turn_12 : decode cX4_turn 12 = .ok (.aload_n 0, 1) := by decide +kernel
theorem dX4_turn_13 : decode cX4_turn 13 = .ok (.iconst (-1), 1) := by decide +kernel
theorem dX4_turn_14 : decode cX4_turn 14 = .ok (.invokevirtual 192, 3) := by decide +kernel
theorem dX4_turn_17 : decode cX4_turn 17 = .ok (.aload_n 0, 1) := by decide +kernel
theorem dX4_turn_18 : decode cX4_turn 18 = .ok (.getfield 159, 3) := by decide +kernel
theorem dX4_turn_21 : decode cX4_turn 21 = .ok (.ireturn, 1) := by decide +kernel
set_option maxRecDepth 20000 in
theorem ggX4_ledger_X4_in : GoodIn wsX4_ledger wsX4_in := goodIn_r _ [7] (by decide +kernel) (by decide +kernel)
set_option maxRecDepth 20000 in
theorem gX4_ledger_X4_in : GoodIn wsX4_ledger (va_wsS RX4 60 yX4_in wsX4_in) := goodIn_app (goodIn_of _ (by decide +kernel)) ggX4_ledger_X4_in
theorem dX4_ledger_0 : decode cX4_ledger 0 = .ok (.iload_n 1, 1) := by decide +kernel
theorem dX4_ledger_1 : decode cX4_ledger 1 = .ok (.i2l, 1) := by decide +kernel
theorem dX4_ledger_2 : decode cX4_ledger 2 = .ok (.lconst 0, 1) := by decide +kernel
theorem dX4_ledger_3 : decode cX4_ledger 3 = .ok (.aload_n 0, 1) := by decide +kernel
theorem dX4_ledger_4 : decode cX4_ledger 4 = .ok (.getfield 174, 3) := by decide +kernel
theorem dX4_ledger_7 : decode cX4_ledger 7 = .ok (.iconst 1, 1) := by decide +kernel
theorem dX4_ledger_8 : decode cX4_ledger 8 = .ok (.isub, 1) := by decide +kernel
theorem dX4_ledger_9 : decode cX4_ledger 9 = .ok (.i2l, 1) := by decide +kernel
theorem dX4_ledger_10 : decode cX4_ledger 10 = .ok (.invokestatic 60, 3) := by decide +kernel
theorem dX4_ledger_13 : decode cX4_ledger 13 = .ok (.ifCond .eq 29, 3) := by decide +kernel
theorem dX4_ledger_16 : decode cX4_ledger 16 = .ok (.iload_n 2, 1) := by decide +kernel
theorem dX4_ledger_17 : decode cX4_ledger 17 = .ok (.i2l, 1) := by decide +kernel
theorem dX4_ledger_18 : decode cX4_ledger 18 = .ok (.lconst 0, 1) := by decide +kernel
theorem dX4_ledger_19 : decode cX4_ledger 19 = .ok (.ldc2_w 196, 3) := by decide +kernel
theorem dX4_ledger_22 : decode cX4_ledger 22 = .ok (.invokestatic 60, 3) := by decide +kernel
theorem dX4_ledger_25 : decode cX4_ledger 25 = .ok (.ifCond .eq 17, 3) := by decide +kernel
theorem dX4_ledger_28 : decode cX4_ledger 28 = .ok (.aload_n 0, 1) := by decide +kernel
theorem dX4_ledger_29 : decode cX4_ledger 29 = .ok (.getfield 53, 3) := by decide +kernel
theorem dX4_ledger_32 : decode cX4_ledger 32 = .ok (.bipush 9, 2) := by decide +kernel
theorem dX4_ledger_34 : decode cX4_ledger 34 = .ok (.iload_n 1, 1) := by decide +kernel
theorem dX4_ledger_35 : decode cX4_ledger 35 = .ok (.imul, 1) := by decide +kernel
theorem dX4_ledger_36 : decode cX4_ledger 36 = .ok (.iload_n 2, 1) := by decide +kernel
theorem dX4_ledger_37 : decode cX4_ledger 37 = .ok (.iadd, 1) := by decide +kernel
theorem dX4_ledger_38 : decode cX4_ledger 38 = .ok (.iaload, 1) := by decide +kernel
theorem dX4_ledger_39 : decode cX4_ledger 39 = .ok (.goto 5, 3) := by decide +kernel
theorem dX4_ledger_42 : decode cX4_ledger 42 = .ok (.bipush (-2), 2) := by decide +kernel
theorem dX4_ledger_44 : decode cX4_ledger 44 = .ok (.ireturn, 1) := by decide +kernel
theorem dX4_wipe_0 : decode cX4_wipe 0 = .ok (.aload_n 0, 1) := by decide +kernel
theorem dX4_wipe_1 : decode cX4_wipe 1 = .ok (.getfield 174, 3) := by decide +kernel
theorem dX4_wipe_4 : decode cX4_wipe 4 = .ok (.istore_n 1, 1) := by decide +kernel
theorem dX4_wipe_5 : decode cX4_wipe 5 = .ok (.aload_n 0, 1) := by decide +kernel
theorem dX4_wipe_6 : decode cX4_wipe 6 = .ok (.iconst 0, 1) := by decide +kernel
theorem dX4_wipe_7 : decode cX4_wipe 7 = .ok (.putfield 174, 3) := by decide +kernel
theorem dX4_wipe_10 : decode cX4_wipe 10 = .ok (.iload_n 1, 1) := by decide +kernel
theorem dX4_wipe_11 : decode cX4_wipe 11 = .ok (.ireturn, 1) := by decide +kernel
theorem dX4_inBasins_0 : decode cX4_inBasins 0 = .ok (.iconst 0, 1) := by decide +kernel
theorem dX4_inBasins_1 : decode cX4_inBasins 1 = .ok (.istore_n 1, 1) := by decide +kernel
theorem dX4_inBasins_2 : decode cX4_inBasins 2 = .ok (.iconst 0, 1) := by decide +kernel
theorem dX4_inBasins_3 : decode cX4_inBasins 3 = .ok (.istore_n 2, 1) := by decide +kernel
theorem dX4_inBasins_4 : decode cX4_inBasins 4 = .ok (.iload_n 2, 1) := by decide +kernel
theorem dX4_inBasins_5 : decode cX4_inBasins 5 = .ok (.aload_n 0, 1) := by decide +kernel
theorem dX4_inBasins_6 : decode cX4_inBasins 6 = .ok (.getfield 96, 3) := by decide +kernel
theorem dX4_inBasins_9 : decode cX4_inBasins 9 = .ok (.if_icmp .ge 18, 3) := by decide +kernel
theorem dX4_inBasins_12 : decode cX4_inBasins 12 = .ok (.iload_n 1, 1) := by decide +kernel
theorem dX4_inBasins_13 : decode cX4_inBasins 13 = .ok (.aload_n 0, 1) := by decide +kernel
theorem dX4_inBasins_14 : decode cX4_inBasins 14 = .ok (.getfield 34, 3) := by decide +kernel
theorem dX4_inBasins_17 : decode cX4_inBasins 17 = .ok (.iload_n 2, 1) := by decide +kernel
theorem dX4_inBasins_18 : decode cX4_inBasins 18 = .ok (.iaload, 1) := by decide +kernel
theorem dX4_inBasins_19 : decode cX4_inBasins 19 = .ok (.iadd, 1) := by decide +kernel
theorem dX4_inBasins_20 : decode cX4_inBasins 20 = .ok (.istore_n 1, 1) := by decide +kernel
theorem dX4_inBasins_21 : decode cX4_inBasins 21 = .ok (.iinc 2 1, 3) := by decide +kernel
theorem dX4_inBasins_24 : decode cX4_inBasins 24 = .ok (.goto (-20), 3) := by decide +kernel
theorem dX4_inBasins_27 : decode cX4_inBasins 27 = .ok (.iload_n 1, 1) := by decide +kernel
theorem dX4_inBasins_28 : decode cX4_inBasins 28 = .ok (.ireturn, 1) := by decide +kernel
set_option maxRecDepth 20000 in
theorem ggX4_totalBy_X4_inBasins : GoodIn wsX4_totalBy wsX4_inBasins := goodIn_r _ [9, 10, 11, 12, 13, 14, 15, 16, 17, 18, 19, 20, 21, 22, 23, 24, 25, 26, 27, 28, 29, 30, 31, 32, 33, 34, 35, 36, 37, 38, 39, 40, 41] (by decide +kernel) (by decide +kernel)
set_option maxRecDepth 20000 in
theorem gX4_totalBy_X4_inBasins : GoodIn wsX4_totalBy (wsV RX4 198 RX4 yX4_inBasins wsX4_inBasins) := goodIn_app (goodIn_of _ (by decide +kernel)) ggX4_totalBy_X4_inBasins
theorem dX4_totalBy_0 : decode cX4_totalBy 0 = .ok (.iload_n 1, 1) := by decide +kernel
theorem dX4_totalBy_1 : decode cX4_totalBy 1 = .ok (.ifCond .ne 10, 3) := by decide +kernel
theorem dX4_totalBy_4 : decode cX4_totalBy 4 = .ok (.aload_n 0, 1) := by decide +kernel
theorem dX4_totalBy_5 : decode cX4_totalBy 5 = .ok (.getfield 180, 3) := by decide +kernel
theorem dX4_totalBy_8 : decode cX4_totalBy 8 = .ok (.goto 43, 3) := by decide +kernel
theorem dX4_totalBy_11 : decode cX4_totalBy 11 = .ok (.iload_n 1, 1) := by decide +kernel
theorem dX4_totalBy_12 : decode cX4_totalBy 12 = .ok (.iconst 1, 1) := by decide +kernel
theorem dX4_totalBy_13 : decode cX4_totalBy 13 = .ok (.if_icmp .ne 10, 3) := by decide +kernel
theorem dX4_totalBy_16 : decode cX4_totalBy 16 = .ok (.aload_n 0, 1) := by decide +kernel
theorem dX4_totalBy_17 : decode cX4_totalBy 17 = .ok (.getfield 183, 3) := by decide +kernel
theorem dX4_totalBy_20 : decode cX4_totalBy 20 = .ok (.goto 31, 3) := by decide +kernel
theorem dX4_totalBy_23 : decode cX4_totalBy 23 = .ok (.iload_n 1, 1) := by decide +kernel
theorem dX4_totalBy_24 : decode cX4_totalBy 24 = .ok (.iconst 2, 1) := by decide +kernel
theorem dX4_totalBy_25 : decode cX4_totalBy 25 = .ok (.if_icmp .ne 10, 3) := by decide +kernel
theorem dX4_totalBy_28 : decode cX4_totalBy 28 = .ok (.aload_n 0, 1) := by decide +kernel
theorem dX4_totalBy_29 : decode cX4_totalBy 29 = .ok (.getfield 186, 3) := by decide +kernel
theorem dX4_totalBy_32 : decode cX4_totalBy 32 = .ok (.goto 19, 3) := by decide +kernel
theorem dX4_totalBy_35 : decode cX4_totalBy 35 = .ok (.iload_n 1, 1) := by decide +kernel
theorem dX4_totalBy_36 : decode cX4_totalBy 36 = .ok (.iconst 3, 1) := by decide +kernel
theorem dX4_totalBy_37 : decode cX4_totalBy 37 = .ok (.if_icmp .ne 10, 3) := by decide +kernel
theorem dX4_totalBy_40 : decode cX4_totalBy 40 = .ok (.aload_n 0, 1) := by decide +kernel
theorem dX4_totalBy_41 : decode cX4_totalBy 41 = .ok (.invokevirtual 198, 3) := by decide +kernel
theorem dX4_totalBy_44 : decode cX4_totalBy 44 = .ok (.goto 7, 3) := by decide +kernel
theorem dX4_totalBy_47 : decode cX4_totalBy 47 = .ok (.aload_n 0, 1) := by decide +kernel
theorem dX4_totalBy_48 : decode cX4_totalBy 48 = .ok (.getfield 189, 3) := by decide +kernel
theorem dX4_totalBy_51 : decode cX4_totalBy 51 = .ok (.ireturn, 1) := by decide +kernel
set_option maxRecDepth 20000 in
theorem ggX4_total_X4_in : GoodIn wsX4_total wsX4_in := goodIn_r _ [5] (by decide +kernel) (by decide +kernel)
set_option maxRecDepth 20000 in
theorem gX4_total_X4_in : GoodIn wsX4_total (va_wsS RX4 60 yX4_in wsX4_in) := goodIn_app (goodIn_of _ (by decide +kernel)) ggX4_total_X4_in
set_option maxRecDepth 20000 in
theorem ggX4_total_X4_totalBy : GoodIn wsX4_total wsX4_totalBy := goodIn_r _ [9, 10, 11, 12, 13, 14, 15, 16, 4, 17, 18, 19, 20, 21, 22, 23, 24, 25, 26, 27, 28, 29, 30, 31, 32, 33, 34, 35, 36, 37, 38, 39, 40, 41, 42, 43, 44, 45, 46, 47, 48, 49] (by decide +kernel) (by decide +kernel)
set_option maxRecDepth 20000 in
theorem gX4_total_X4_totalBy : GoodIn wsX4_total (wsV RX4 203 RX4 yX4_totalBy wsX4_totalBy) := goodIn_app (goodIn_of _ (by decide +kernel)) ggX4_total_X4_totalBy
theorem dX4_total_0 : decode cX4_total 0 = .ok (.iload_n 1, 1) := by decide +kernel
theorem dX4_total_1 : decode cX4_total 1 = .ok (.i2l, 1) := by decide +kernel
theorem dX4_total_2 : decode cX4_total 2 = .ok (.lconst 0, 1) := by decide +kernel
theorem dX4_total_3 : decode cX4_total 3 = .ok (.ldc2_w 201, 3) := by decide +kernel
theorem dX4_total_6 : decode cX4_total 6 = .ok (.invokestatic 60, 3) := by decide +kernel
theorem dX4_total_9 : decode cX4_total 9 = .ok (.ifCond .eq 11, 3) := by decide +kernel
theorem dX4_total_12 : decode cX4_total 12 = .ok (.aload_n 0, 1) := by decide +kernel
theorem dX4_total_13 : decode cX4_total 13 = .ok (.iload_n 1, 1) := by decide +kernel
theorem dX4_total_14 : decode cX4_total 14 = .ok (.invokevirtual 203, 3) := by decide +kernel
theorem dX4_total_17 : decode cX4_total 17 = .ok (.goto 5, 3) := by decide +kernel
theorem dX4_total_20 : decode cX4_total 20 = .ok (.bipush (-2), 2) := by decide +kernel
theorem dX4_total_22 : decode cX4_total 22 = .ok (.ireturn, 1) := by decide +kernel
set_option maxRecDepth 20000 in
theorem ggX4_looks_X4_keeps : GoodIn wsX4_looks wsX4_keeps := goodIn_r _ [5, 6, 7, 8, 9, 51, 52, 53, 54, 55, 56, 57, 58, 59, 60, 61, 62, 63, 64, 65, 66, 67, 68, 69, 70, 71, 72, 73, 74, 75, 76, 77, 78, 79, 80] (by decide +kernel) (by decide +kernel)
set_option maxRecDepth 20000 in
theorem gX4_looks_X4_keeps : GoodIn wsX4_looks (wsV RX4 206 RX4 yX4_keeps wsX4_keeps) := goodIn_app (goodIn_of _ (by decide +kernel)) ggX4_looks_X4_keeps
set_option maxRecDepth 20000 in
theorem ggX4_looks_X4_moves : GoodIn wsX4_looks wsX4_moves := goodIn_r _ [13, 14, 15, 16, 17, 6, 18, 9, 19, 20, 21, 22, 23, 4, 24, 25, 26, 27, 28, 29, 30, 31, 32, 33, 34, 35, 36, 37, 38, 39, 40, 41, 42, 43, 44, 45, 46, 51, 52, 53, 54, 55, 56, 57, 58, 59, 60, 61, 62, 63, 64, 65, 66, 67, 68, 69, 70, 71, 72, 73, 74, 75, 76, 77, 78, 79, 80] (by decide +kernel) (by decide +kernel)
set_option maxRecDepth 20000 in
theorem gX4_looks_X4_moves : GoodIn wsX4_looks (wsV RX4 177 RX4 yX4_moves wsX4_moves) := goodIn_app (goodIn_of _ (by decide +kernel)) ggX4_looks_X4_moves
set_option maxRecDepth 20000 in
theorem ggX4_looks_X4_takesBack : GoodIn wsX4_looks wsX4_takesBack := goodIn_r _ [50, 7, 6, 9, 8, 51, 52, 53, 54, 55, 56, 57, 58, 59, 60, 61, 62, 63, 64, 65, 66, 67, 68, 69, 70, 71, 72, 73, 74, 75, 76, 77, 78, 79, 80] (by decide +kernel) (by decide +kernel)
set_option maxRecDepth 20000 in
theorem gX4_looks_X4_takesBack : GoodIn wsX4_looks (wsV RX4 209 RX4 yX4_takesBack wsX4_takesBack) := goodIn_app (goodIn_of _ (by decide +kernel)) ggX4_looks_X4_takesBack
theorem dX4_looks_0 : decode cX4_looks 0 = .ok (.aload_n 0, 1) := by decide +kernel
theorem dX4_looks_1 : decode cX4_looks 1 = .ok (.invokevirtual 206, 3) := by decide +kernel
theorem dX4_looks_4 : decode cX4_looks 4 = .ok (.aload_n 0, 1) := by decide +kernel
theorem dX4_looks_5 : decode cX4_looks 5 = .ok (.invokevirtual 177, 3) := by decide +kernel
theorem dX4_looks_8 : decode cX4_looks 8 = .ok (.aload_n 0, 1) := by decide +kernel
theorem dX4_looks_9 : decode cX4_looks 9 = .ok (.invokevirtual 209, 3) := by decide +kernel
theorem dX4_looks_12 : decode cX4_looks 12 = .ok (.return_, 1) := by decide +kernel
theorem dX4_stepBy_0 : decode cX4_stepBy 0 = .ok (.iload_n 1, 1) := by decide +kernel
theorem dX4_stepBy_1 : decode cX4_stepBy 1 = .ok (.iconst (-1), 1) := by decide +kernel
theorem dX4_stepBy_2 : decode cX4_stepBy 2 = .ok (.if_icmp .ne 10, 3) := by decide +kernel
theorem dX4_stepBy_5 : decode cX4_stepBy 5 = .ok (.aload_n 0, 1) := by decide +kernel
theorem dX4_stepBy_6 : decode cX4_stepBy 6 = .ok (.getfield 56, 3) := by decide +kernel
theorem dX4_stepBy_9 : decode cX4_stepBy 9 = .ok (.goto 21, 3) := by decide +kernel
theorem dX4_stepBy_12 : decode cX4_stepBy 12 = .ok (.iload_n 1, 1) := by decide +kernel
theorem dX4_stepBy_13 : decode cX4_stepBy 13 = .ok (.aload_n 0, 1) := by decide +kernel
theorem dX4_stepBy_14 : decode cX4_stepBy 14 = .ok (.getfield 56, 3) := by decide +kernel
theorem dX4_stepBy_17 : decode cX4_stepBy 17 = .ok (.if_icmp .ge 12, 3) := by decide +kernel
theorem dX4_stepBy_20 : decode cX4_stepBy 20 = .ok (.aload_n 0, 1) := by decide +kernel
theorem dX4_stepBy_21 : decode cX4_stepBy 21 = .ok (.getfield 44, 3) := by decide +kernel
theorem dX4_stepBy_24 : decode cX4_stepBy 24 = .ok (.iload_n 1, 1) := by decide +kernel
theorem dX4_stepBy_25 : decode cX4_stepBy 25 = .ok (.iaload, 1) := by decide +kernel
theorem dX4_stepBy_26 : decode cX4_stepBy 26 = .ok (.goto 4, 3) := by decide +kernel
theorem dX4_stepBy_29 : decode cX4_stepBy 29 = .ok (.iconst (-1), 1) := by decide +kernel
theorem dX4_stepBy_30 : decode cX4_stepBy 30 = .ok (.ireturn, 1) := by decide +kernel
set_option maxRecDepth 20000 in
theorem ggX4_step_X4_looks : GoodIn wsX4_step wsX4_looks := goodIn_r _ [7, 8, 9, 10, 6, 11, 12, 13, 14, 15, 16, 17, 18, 19, 20, 21, 22, 23, 24, 25, 26, 27, 28, 29, 30, 31, 32, 33, 34, 35, 36, 37, 38, 39, 40, 41, 42, 43, 44, 45, 46, 47, 48, 49, 50, 51, 52, 53, 54, 55, 56, 64, 65, 66, 67, 68, 69, 70, 71, 72, 73, 74, 75, 76, 77, 78, 79, 80, 81, 82, 83, 84, 85, 86, 87, 88, 89, 90, 91, 92, 93] (by decide +kernel) (by decide +kernel)
set_option maxRecDepth 20000 in
theorem gX4_step_X4_looks : GoodIn wsX4_step (wsV RX4 212 RX4 yX4_looks wsX4_looks) := goodIn_app (goodIn_of _ (by decide +kernel)) ggX4_step_X4_looks
set_option maxRecDepth 20000 in
theorem ggX4_step_X4_in : GoodIn wsX4_step wsX4_in := goodIn_r _ [59] (by decide +kernel) (by decide +kernel)
set_option maxRecDepth 20000 in
theorem gX4_step_X4_in : GoodIn wsX4_step (va_wsS RX4 60 yX4_in wsX4_in) := goodIn_app (goodIn_of _ (by decide +kernel)) ggX4_step_X4_in
set_option maxRecDepth 20000 in
theorem ggX4_step_X4_stepBy : GoodIn wsX4_step wsX4_stepBy := goodIn_r _ [63, 23, 24, 64, 65, 66, 67, 68, 69, 70, 71, 72, 73, 74, 75, 76, 77, 78, 79, 80, 81, 82, 83, 84, 85, 86, 87, 88, 89, 90, 91, 92, 93] (by decide +kernel) (by decide +kernel)
set_option maxRecDepth 20000 in
theorem gX4_step_X4_stepBy : GoodIn wsX4_step (wsV RX4 215 RX4 yX4_stepBy wsX4_stepBy) := goodIn_app (goodIn_of _ (by decide +kernel)) ggX4_step_X4_stepBy
theorem dX4_step_0 : decode cX4_step 0 = .ok (.aload_n 0, 1) := by decide +kernel
theorem dX4_step_1 : decode cX4_step 1 = .ok (.invokevirtual 212, 3) := by decide +kernel
theorem dX4_step_4 : decode cX4_step 4 = .ok (.iload_n 1, 1) := by decide +kernel
theorem dX4_step_5 : decode cX4_step 5 = .ok (.i2l, 1) := by decide +kernel
theorem dX4_step_6 : decode cX4_step 6 = .ok (.ldc2_w 128, 3) := by decide +kernel
theorem dX4_step_9 : decode cX4_step 9 = .ok (.ldc2_w 94, 3) := by decide +kernel
theorem dX4_step_12 : decode cX4_step 12 = .ok (.invokestatic 60, 3) := by decide +kernel
theorem dX4_step_15 : decode cX4_step 15 = .ok (.ifCond .eq 11, 3) := by decide +kernel
theorem dX4_step_18 : decode cX4_step 18 = .ok (.aload_n 0, 1) := by decide +kernel
theorem dX4_step_19 : decode cX4_step 19 = .ok (.iload_n 1, 1) := by decide +kernel
theorem dX4_step_20 : decode cX4_step 20 = .ok (.invokevirtual 215, 3) := by decide +kernel
theorem dX4_step_23 : decode cX4_step 23 = .ok (.goto 5, 3) := by decide +kernel
theorem dX4_step_26 : decode cX4_step 26 = .ok (.bipush (-2), 2) := by decide +kernel
theorem dX4_step_28 : decode cX4_step 28 = .ok (.ireturn, 1) := by decide +kernel
set_option maxRecDepth 20000 in
theorem ggX4_aheadOf_X4_keeps : GoodIn wsX4_aheadOf wsX4_keeps := goodIn_r _ [7, 1, 8, 9, 10, 51, 52, 53, 54, 55, 56, 57, 58, 59, 60, 61, 62, 63, 64, 65, 66, 67, 68, 69, 70, 71, 72, 73, 74, 75, 76, 77, 78, 79, 80] (by decide +kernel) (by decide +kernel)
set_option maxRecDepth 20000 in
theorem gX4_aheadOf_X4_keeps : GoodIn wsX4_aheadOf (wsV RX4 206 RX4 yX4_keeps wsX4_keeps) := goodIn_app (goodIn_of _ (by decide +kernel)) ggX4_aheadOf_X4_keeps
set_option maxRecDepth 20000 in
theorem ggX4_aheadOf_X4_moves : GoodIn wsX4_aheadOf wsX4_moves := goodIn_r _ [14, 2, 15, 16, 17, 1, 18, 10, 19, 20, 21, 22, 23, 6, 24, 25, 26, 27, 28, 29, 30, 31, 32, 33, 34, 35, 36, 37, 38, 39, 40, 41, 42, 43, 44, 45, 46, 51, 52, 53, 54, 55, 56, 57, 58, 59, 60, 61, 62, 63, 64, 65, 66, 67, 68, 69, 70, 71, 72, 73, 74, 75, 76, 77, 78, 79, 80] (by decide +kernel) (by decide +kernel)
set_option maxRecDepth 20000 in
theorem gX4_aheadOf_X4_moves : GoodIn wsX4_aheadOf (wsV RX4 177 RX4 yX4_moves wsX4_moves) := goodIn_app (goodIn_of _ (by decide +kernel)) ggX4_aheadOf_X4_moves
set_option maxRecDepth 20000 in
theorem ggX4_aheadOf_X4_takesBack : GoodIn wsX4_aheadOf wsX4_takesBack := goodIn_r _ [50, 8, 1, 10, 9, 51, 52, 53, 54, 55, 56, 57, 58, 59, 60, 61, 62, 63, 64, 65, 66, 67, 68, 69, 70, 71, 72, 73, 74, 75, 76, 77, 78, 79, 80] (by decide +kernel) (by decide +kernel)
set_option maxRecDepth 20000 in
theorem gX4_aheadOf_X4_takesBack : GoodIn wsX4_aheadOf (wsV RX4 209 RX4 yX4_takesBack wsX4_takesBack) := goodIn_app (goodIn_of _ (by decide +kernel)) ggX4_aheadOf_X4_takesBack
theorem dX4_aheadOf_0 : decode cX4_aheadOf 0 = .ok (.aload_n 0, 1) := by decide +kernel
theorem dX4_aheadOf_1 : decode cX4_aheadOf 1 = .ok (.invokevirtual 206, 3) := by decide +kernel
theorem dX4_aheadOf_4 : decode cX4_aheadOf 4 = .ok (.iconst 0, 1) := by decide +kernel
theorem dX4_aheadOf_5 : decode cX4_aheadOf 5 = .ok (.istore_n 2, 1) := by decide +kernel
theorem dX4_aheadOf_6 : decode cX4_aheadOf 6 = .ok (.iconst 0, 1) := by decide +kernel
theorem dX4_aheadOf_7 : decode cX4_aheadOf 7 = .ok (.istore_n 3, 1) := by decide +kernel
theorem dX4_aheadOf_8 : decode cX4_aheadOf 8 = .ok (.iload_n 3, 1) := by decide +kernel
theorem dX4_aheadOf_9 : decode cX4_aheadOf 9 = .ok (.iload_n 1, 1) := by decide +kernel
theorem dX4_aheadOf_10 : decode cX4_aheadOf 10 = .ok (.if_icmp .ge 43, 3) := by decide +kernel
theorem dX4_aheadOf_13 : decode cX4_aheadOf 13 = .ok (.aload_n 0, 1) := by decide +kernel
theorem dX4_aheadOf_14 : decode cX4_aheadOf 14 = .ok (.getfield 90, 3) := by decide +kernel
theorem dX4_aheadOf_17 : decode cX4_aheadOf 17 = .ok (.ifCond .ne 7, 3) := by decide +kernel
theorem dX4_aheadOf_20 : decode cX4_aheadOf 20 = .ok (.iconst 1, 1) := by decide +kernel
theorem dX4_aheadOf_21 : decode cX4_aheadOf 21 = .ok (.goto 4, 3) := by decide +kernel
theorem dX4_aheadOf_24 : decode cX4_aheadOf 24 = .ok (.iconst 0, 1) := by decide +kernel
theorem dX4_aheadOf_25 : decode cX4_aheadOf 25 = .ok (.istore 4, 2) := by decide +kernel
theorem dX4_aheadOf_27 : decode cX4_aheadOf 27 = .ok (.aload_n 0, 1) := by decide +kernel
theorem dX4_aheadOf_28 : decode cX4_aheadOf 28 = .ok (.invokevirtual 177, 3) := by decide +kernel
theorem dX4_aheadOf_31 : decode cX4_aheadOf 31 = .ok (.iload_n 2, 1) := by decide +kernel
theorem dX4_aheadOf_32 : decode cX4_aheadOf 32 = .ok (.iload 4, 2) := by decide +kernel
theorem dX4_aheadOf_34 : decode cX4_aheadOf 34 = .ok (.ifCond .eq 10, 3) := by decide +kernel
theorem dX4_aheadOf_37 : decode cX4_aheadOf 37 = .ok (.aload_n 0, 1) := by decide +kernel
theorem dX4_aheadOf_38 : decode cX4_aheadOf 38 = .ok (.getfield 159, 3) := by decide +kernel
theorem dX4_aheadOf_41 : decode cX4_aheadOf 41 = .ok (.goto 4, 3) := by decide +kernel
theorem dX4_aheadOf_44 : decode cX4_aheadOf 44 = .ok (.iconst 0, 1) := by decide +kernel
theorem dX4_aheadOf_45 : decode cX4_aheadOf 45 = .ok (.iadd, 1) := by decide +kernel
theorem dX4_aheadOf_46 : decode cX4_aheadOf 46 = .ok (.istore_n 2, 1) := by decide +kernel
theorem dX4_aheadOf_47 : decode cX4_aheadOf 47 = .ok (.iinc 3 1, 3) := by decide +kernel
theorem dX4_aheadOf_50 : decode cX4_aheadOf 50 = .ok (.goto (-42), 3) := by decide +kernel
theorem dX4_aheadOf_53 : decode cX4_aheadOf 53 = .ok (.aload_n 0, 1) := by decide +kernel
theorem dX4_aheadOf_54 : decode cX4_aheadOf 54 = .ok (.invokevirtual 209, 3) := by decide +kernel
theorem dX4_aheadOf_57 : decode cX4_aheadOf 57 = .ok (.iload_n 2, 1) := by decide +kernel
theorem dX4_aheadOf_58 : decode cX4_aheadOf 58 = .ok (.ireturn, 1) := by decide +kernel
set_option maxRecDepth 20000 in
theorem ggX4_ahead_X4_in : GoodIn wsX4_ahead wsX4_in := goodIn_r _ [5] (by decide +kernel) (by decide +kernel)
set_option maxRecDepth 20000 in
theorem gX4_ahead_X4_in : GoodIn wsX4_ahead (va_wsS RX4 60 yX4_in wsX4_in) := goodIn_app (goodIn_of _ (by decide +kernel)) ggX4_ahead_X4_in
set_option maxRecDepth 20000 in
theorem ggX4_ahead_X4_aheadOf : GoodIn wsX4_ahead wsX4_aheadOf := goodIn_r _ [9, 10, 11, 12, 13, 14, 4, 15, 16, 17, 18, 19, 20, 21, 22, 23, 24, 25, 26, 27, 28, 29, 30, 31, 32, 33, 34, 35, 36, 37, 38, 39, 40, 41, 42, 43, 44, 45, 46, 47, 48, 49, 50, 51, 52, 53, 54, 55, 56, 57, 58, 59, 60, 61, 62, 63, 64, 65, 66, 67, 68, 69, 70, 71, 72, 73, 74, 75, 76, 77, 78, 79, 80, 81, 82, 83, 84, 85, 86, 87, 88] (by decide +kernel) (by decide +kernel)
set_option maxRecDepth 20000 in
theorem gX4_ahead_X4_aheadOf : GoodIn wsX4_ahead (wsV RX4 220 RX4 yX4_aheadOf wsX4_aheadOf) := goodIn_app (goodIn_of _ (by decide +kernel)) ggX4_ahead_X4_aheadOf
theorem dX4_ahead_0 : decode cX4_ahead 0 = .ok (.iload_n 1, 1) := by decide +kernel
theorem dX4_ahead_1 : decode cX4_ahead 1 = .ok (.i2l, 1) := by decide +kernel
theorem dX4_ahead_2 : decode cX4_ahead 2 = .ok (.lconst 0, 1) := by decide +kernel
theorem dX4_ahead_3 : decode cX4_ahead 3 = .ok (.ldc2_w 218, 3) := by decide +kernel
theorem dX4_ahead_6 : decode cX4_ahead 6 = .ok (.invokestatic 60, 3) := by decide +kernel
theorem dX4_ahead_9 : decode cX4_ahead 9 = .ok (.ifCond .eq 11, 3) := by decide +kernel
theorem dX4_ahead_12 : decode cX4_ahead 12 = .ok (.aload_n 0, 1) := by decide +kernel
theorem dX4_ahead_13 : decode cX4_ahead 13 = .ok (.iload_n 1, 1) := by decide +kernel
theorem dX4_ahead_14 : decode cX4_ahead 14 = .ok (.invokevirtual 220, 3) := by decide +kernel
theorem dX4_ahead_17 : decode cX4_ahead 17 = .ok (.goto 5, 3) := by decide +kernel
theorem dX4_ahead_20 : decode cX4_ahead 20 = .ok (.bipush (-2), 2) := by decide +kernel
theorem dX4_ahead_22 : decode cX4_ahead 22 = .ok (.ireturn, 1) := by decide +kernel
set_option maxRecDepth 20000 in
theorem ggX4_betterBy_X4_aheadOf : GoodIn wsX4_betterBy wsX4_aheadOf := goodIn_r _ [7, 8, 9, 10, 11, 12, 6, 13, 14, 15, 16, 17, 18, 19, 20, 21, 22, 23, 24, 25, 26, 27, 28, 29, 30, 31, 32, 33, 34, 35, 36, 1, 37, 38, 39, 40, 41, 42, 43, 44, 45, 46, 47, 2, 48, 49, 50, 51, 52, 53, 54, 55, 56, 57, 58, 59, 60, 61, 62, 63, 64, 65, 66, 67, 68, 69, 70, 71, 72, 73, 74, 75, 76, 77, 78, 79, 80, 81, 82, 83, 84] (by decide +kernel) (by decide +kernel)
set_option maxRecDepth 20000 in
theorem gX4_betterBy_X4_aheadOf : GoodIn wsX4_betterBy (wsV RX4 220 RX4 yX4_aheadOf wsX4_aheadOf) := goodIn_app (goodIn_of _ (by decide +kernel)) ggX4_betterBy_X4_aheadOf
set_option maxRecDepth 20000 in
theorem ggX4_betterBy_X4_lesser : GoodIn wsX4_betterBy wsX4_lesser := goodIn_r _ [50] (by decide +kernel) (by decide +kernel)
set_option maxRecDepth 20000 in
theorem gX4_betterBy_X4_lesser : GoodIn wsX4_betterBy (va_wsS RX4 156 yX4_lesser wsX4_lesser) := goodIn_app (goodIn_of _ (by decide +kernel)) ggX4_betterBy_X4_lesser
theorem dX4_betterBy_0 : decode cX4_betterBy 0 = .ok (.aload_n 0, 1) := by decide +kernel
theorem dX4_betterBy_1 : decode cX4_betterBy 1 = .ok (.getfield 22, 3) := by decide +kernel
theorem dX4_betterBy_4 : decode cX4_betterBy 4 = .ok (.iload_n 1, 1) := by decide +kernel
theorem dX4_betterBy_5 : decode cX4_betterBy 5 = .ok (.iaload, 1) := by decide +kernel
theorem dX4_betterBy_6 : decode cX4_betterBy 6 = .ok (.istore_n 3, 1) := by decide +kernel
theorem dX4_betterBy_7 : decode cX4_betterBy 7 = .ok (.iconst (-1), 1) := by decide +kernel
theorem dX4_betterBy_8 : decode cX4_betterBy 8 = .ok (.istore 4, 2) := by decide +kernel
theorem dX4_betterBy_10 : decode cX4_betterBy 10 = .ok (.ldc 155, 2) := by decide +kernel
theorem dX4_betterBy_12 : decode cX4_betterBy 12 = .ok (.istore 5, 2) := by decide +kernel
theorem dX4_betterBy_14 : decode cX4_betterBy 14 = .ok (.iconst 0, 1) := by decide +kernel
theorem dX4_betterBy_15 : decode cX4_betterBy 15 = .ok (.istore 6, 2) := by decide +kernel
theorem dX4_betterBy_17 : decode cX4_betterBy 17 = .ok (.iload 6, 2) := by decide +kernel
theorem dX4_betterBy_19 : decode cX4_betterBy 19 = .ok (.bipush 60, 2) := by decide +kernel
theorem dX4_betterBy_21 : decode cX4_betterBy 21 = .ok (.if_icmp .ge 50, 3) := by decide +kernel
theorem dX4_betterBy_24 : decode cX4_betterBy 24 = .ok (.aload_n 0, 1) := by decide +kernel
theorem dX4_betterBy_25 : decode cX4_betterBy 25 = .ok (.getfield 22, 3) := by decide +kernel
theorem dX4_betterBy_28 : decode cX4_betterBy 28 = .ok (.iload_n 1, 1) := by decide +kernel
theorem dX4_betterBy_29 : decode cX4_betterBy 29 = .ok (.iload 6, 2) := by decide +kernel
theorem dX4_betterBy_31 : decode cX4_betterBy 31 = .ok (.iastore, 1) := by decide +kernel
theorem dX4_betterBy_32 : decode cX4_betterBy 32 = .ok (.aload_n 0, 1) := by decide +kernel
theorem dX4_betterBy_33 : decode cX4_betterBy 33 = .ok (.bipush 10, 2) := by decide +kernel
theorem dX4_betterBy_35 : decode cX4_betterBy 35 = .ok (.invokevirtual 220, 3) := by decide +kernel
theorem dX4_betterBy_38 : decode cX4_betterBy 38 = .ok (.istore 7, 2) := by decide +kernel
theorem dX4_betterBy_40 : decode cX4_betterBy 40 = .ok (.iload 7, 2) := by decide +kernel
theorem dX4_betterBy_42 : decode cX4_betterBy 42 = .ok (.iload 5, 2) := by decide +kernel
theorem dX4_betterBy_44 : decode cX4_betterBy 44 = .ok (.if_icmp .ge 8, 3) := by decide +kernel
theorem dX4_betterBy_47 : decode cX4_betterBy 47 = .ok (.iload 6, 2) := by decide +kernel
theorem dX4_betterBy_49 : decode cX4_betterBy 49 = .ok (.goto 5, 3) := by decide +kernel
theorem dX4_betterBy_52 : decode cX4_betterBy 52 = .ok (.iload 4, 2) := by decide +kernel
theorem dX4_betterBy_54 : decode cX4_betterBy 54 = .ok (.istore 4, 2) := by decide +kernel
theorem dX4_betterBy_56 : decode cX4_betterBy 56 = .ok (.iload 7, 2) := by decide +kernel
theorem dX4_betterBy_58 : decode cX4_betterBy 58 = .ok (.iload 5, 2) := by decide +kernel
theorem dX4_betterBy_60 : decode cX4_betterBy 60 = .ok (.invokestatic 156, 3) := by decide +kernel
theorem dX4_betterBy_63 : decode cX4_betterBy 63 = .ok (.istore 5, 2) := by decide +kernel
theorem dX4_betterBy_65 : decode cX4_betterBy 65 = .ok (.iinc 6 1, 3) := by decide +kernel
theorem dX4_betterBy_68 : decode cX4_betterBy 68 = .ok (.goto (-51), 3) := by decide +kernel
theorem dX4_betterBy_71 : decode cX4_betterBy 71 = .ok (.aload_n 0, 1) := by decide +kernel
theorem dX4_betterBy_72 : decode cX4_betterBy 72 = .ok (.getfield 22, 3) := by decide +kernel
theorem dX4_betterBy_75 : decode cX4_betterBy 75 = .ok (.iload_n 1, 1) := by decide +kernel
theorem dX4_betterBy_76 : decode cX4_betterBy 76 = .ok (.iload_n 3, 1) := by decide +kernel
theorem dX4_betterBy_77 : decode cX4_betterBy 77 = .ok (.iastore, 1) := by decide +kernel
theorem dX4_betterBy_78 : decode cX4_betterBy 78 = .ok (.iload_n 2, 1) := by decide +kernel
theorem dX4_betterBy_79 : decode cX4_betterBy 79 = .ok (.ifCond .ne 8, 3) := by decide +kernel
theorem dX4_betterBy_82 : decode cX4_betterBy 82 = .ok (.iload 4, 2) := by decide +kernel
theorem dX4_betterBy_84 : decode cX4_betterBy 84 = .ok (.goto 5, 3) := by decide +kernel
theorem dX4_betterBy_87 : decode cX4_betterBy 87 = .ok (.iload 5, 2) := by decide +kernel
theorem dX4_betterBy_89 : decode cX4_betterBy 89 = .ok (.ireturn, 1) := by decide +kernel
set_option maxRecDepth 20000 in
theorem ggX4_better_X4_isBasin : GoodIn wsX4_better wsX4_isBasin := goodIn_r _ [5, 6, 7, 8, 4, 9, 69, 70, 71, 72, 73, 74, 75, 76, 77, 78, 79, 80, 81, 82, 83, 84, 85, 86, 87, 88, 89, 90, 91, 92, 93, 94, 95, 96, 97, 98] (by decide +kernel) (by decide +kernel)
set_option maxRecDepth 20000 in
theorem gX4_better_X4_isBasin : GoodIn wsX4_better (wsV RX4 102 RX4 yX4_isBasin wsX4_isBasin) := goodIn_app (goodIn_of _ (by decide +kernel)) ggX4_better_X4_isBasin
set_option maxRecDepth 20000 in
theorem ggX4_better_X4_isTwo : GoodIn wsX4_better wsX4_isTwo := goodIn_r _ [12, 7, 8, 4, 9] (by decide +kernel) (by decide +kernel)
set_option maxRecDepth 20000 in
theorem gX4_better_X4_isTwo : GoodIn wsX4_better (va_wsS RX4 122 yX4_isTwo wsX4_isTwo) := goodIn_app (goodIn_of _ (by decide +kernel)) ggX4_better_X4_isTwo
set_option maxRecDepth 20000 in
theorem ggX4_better_X4_betterBy : GoodIn wsX4_better wsX4_betterBy := goodIn_r _ [16, 17, 18, 19, 20, 21, 4, 22, 23, 24, 25, 26, 27, 28, 29, 30, 31, 32, 33, 34, 35, 36, 37, 38, 39, 6, 40, 41, 42, 43, 44, 45, 46, 47, 48, 49, 50, 51, 52, 53, 54, 55, 56, 57, 58, 59, 60, 61, 62, 63, 64, 65, 66, 67, 68, 69, 70, 71, 72, 73, 74, 75, 76, 77, 78, 79, 80, 81, 82, 83, 84, 85, 86, 87, 88, 89, 90, 91, 92, 93, 94, 95, 96, 97, 98] (by decide +kernel) (by decide +kernel)
set_option maxRecDepth 20000 in
theorem gX4_better_X4_betterBy : GoodIn wsX4_better (wsV RX4 223 RX4 yX4_betterBy wsX4_betterBy) := goodIn_app (goodIn_of _ (by decide +kernel)) ggX4_better_X4_betterBy
theorem dX4_better_0 : decode cX4_better 0 = .ok (.aload_n 0, 1) := by decide +kernel
theorem dX4_better_1 : decode cX4_better 1 = .ok (.iload_n 1, 1) := by decide +kernel
theorem dX4_better_2 : decode cX4_better 2 = .ok (.invokevirtual 102, 3) := by decide +kernel
theorem dX4_better_5 : decode cX4_better 5 = .ok (.ifCond .eq 19, 3) := by decide +kernel
theorem dX4_better_8 : decode cX4_better 8 = .ok (.iload_n 2, 1) := by decide +kernel
theorem dX4_better_9 : decode cX4_better 9 = .ok (.invokestatic 122, 3) := by decide +kernel
theorem dX4_better_12 : decode cX4_better 12 = .ok (.ifCond .eq 12, 3) := by decide +kernel
theorem dX4_better_15 : decode cX4_better 15 = .ok (.aload_n 0, 1) := by decide +kernel
theorem dX4_better_16 : decode cX4_better 16 = .ok (.iload_n 1, 1) := by decide +kernel
theorem dX4_better_17 : decode cX4_better 17 = .ok (.iload_n 2, 1) := by decide +kernel
theorem dX4_better_18 : decode cX4_better 18 = .ok (.invokevirtual 223, 3) := by decide +kernel
theorem dX4_better_21 : decode cX4_better 21 = .ok (.goto 5, 3) := by decide +kernel
theorem dX4_better_24 : decode cX4_better 24 = .ok (.bipush (-2), 2) := by decide +kernel
theorem dX4_better_26 : decode cX4_better 26 = .ok (.ireturn, 1) := by decide +kernel
set_option maxRecDepth 20000 in
theorem ggX4_needlessBy_X4_isIn : GoodIn wsX4_needlessBy wsX4_isIn := goodIn_r _ [7] (by decide +kernel) (by decide +kernel)
set_option maxRecDepth 20000 in
theorem gX4_needlessBy_X4_isIn : GoodIn wsX4_needlessBy (va_wsS RX4 148 yX4_isIn wsX4_isIn) := goodIn_app (goodIn_of _ (by decide +kernel)) ggX4_needlessBy_X4_isIn
set_option maxRecDepth 20000 in
theorem ggX4_needlessBy_X4_aheadOf : GoodIn wsX4_needlessBy wsX4_aheadOf := goodIn_r _ [11, 12, 13, 14, 15, 16, 6, 17, 18, 19, 20, 21, 22, 23, 24, 25, 26, 27, 28, 2, 29, 30, 31, 32, 33, 3, 34, 35, 36, 37, 38, 39, 40, 4, 5, 7, 41, 42, 43, 44, 45, 46, 47, 1, 48, 49, 50, 51, 52, 53, 54, 55, 56, 57, 58, 59, 60, 61, 62, 63, 64, 65, 66, 67, 68, 69, 70, 71, 72, 73, 74, 75, 76, 77, 78, 79, 80, 81, 82, 83, 84] (by decide +kernel) (by decide +kernel)
set_option maxRecDepth 20000 in
theorem gX4_needlessBy_X4_aheadOf : GoodIn wsX4_needlessBy (wsV RX4 220 RX4 yX4_aheadOf wsX4_aheadOf) := goodIn_app (goodIn_of _ (by decide +kernel)) ggX4_needlessBy_X4_aheadOf
set_option maxRecDepth 20000 in
theorem ggX4_needlessBy_X4_lesser : GoodIn wsX4_needlessBy wsX4_lesser := goodIn_r _ [50] (by decide +kernel) (by decide +kernel)
set_option maxRecDepth 20000 in
theorem gX4_needlessBy_X4_lesser : GoodIn wsX4_needlessBy (va_wsS RX4 156 yX4_lesser wsX4_lesser) := goodIn_app (goodIn_of _ (by decide +kernel)) ggX4_needlessBy_X4_lesser
theorem dX4_needlessBy_0 : decode cX4_needlessBy 0 = .ok (.iconst (-1), 1) := by decide +kernel
theorem dX4_needlessBy_1 : decode cX4_needlessBy 1 = .ok (.istore_n 2, 1) := by decide +kernel
theorem dX4_needlessBy_2 : decode cX4_needlessBy 2 = .ok (.ldc 155, 2) := by decide +kernel
theorem dX4_needlessBy_4 : decode cX4_needlessBy 4 = .ok (.istore_n 3, 1) := by decide +kernel
theorem dX4_needlessBy_5 : decode cX4_needlessBy 5 = .ok (.iconst 0, 1) := by decide +kernel
theorem dX4_needlessBy_6 : decode cX4_needlessBy 6 = .ok (.istore 4, 2) := by decide +kernel
theorem dX4_needlessBy_8 : decode cX4_needlessBy 8 = .ok (.iload 4, 2) := by decide +kernel
theorem dX4_needlessBy_10 : decode cX4_needlessBy 10 = .ok (.aload_n 0, 1) := by decide +kernel
theorem dX4_needlessBy_11 : decode cX4_needlessBy 11 = .ok (.getfield 96, 3) := by decide +kernel
theorem dX4_needlessBy_14 : decode cX4_needlessBy 14 = .ok (.if_icmp .ge 77, 3) := by decide +kernel
theorem dX4_needlessBy_17 : decode cX4_needlessBy 17 = .ok (.aload_n 0, 1) := by decide +kernel
theorem dX4_needlessBy_18 : decode cX4_needlessBy 18 = .ok (.getfield 99, 3) := by decide +kernel
theorem dX4_needlessBy_21 : decode cX4_needlessBy 21 = .ok (.iload 4, 2) := by decide +kernel
theorem dX4_needlessBy_23 : decode cX4_needlessBy 23 = .ok (.invokestatic 148, 3) := by decide +kernel
theorem dX4_needlessBy_26 : decode cX4_needlessBy 26 = .ok (.ifCond .ne 59, 3) := by decide +kernel
theorem dX4_needlessBy_29 : decode cX4_needlessBy 29 = .ok (.aload_n 0, 1) := by decide +kernel
theorem dX4_needlessBy_30 : decode cX4_needlessBy 30 = .ok (.dup, 1) := by decide +kernel
theorem dX4_needlessBy_31 : decode cX4_needlessBy 31 = .ok (.getfield 99, 3) := by decide +kernel
theorem dX4_needlessBy_34 : decode cX4_needlessBy 34 = .ok (.iconst 1, 1) := by decide +kernel
theorem dX4_needlessBy_35 : decode cX4_needlessBy 35 = .ok (.iload 4, 2) := by decide +kernel
theorem dX4_needlessBy_37 : decode cX4_needlessBy 37 = .ok (.ishl, 1) := by decide +kernel
theorem dX4_needlessBy_38 : decode cX4_needlessBy 38 = .ok (.ior, 1) := by decide +kernel
theorem dX4_needlessBy_39 : decode cX4_needlessBy 39 = .ok (.putfield 99, 3) := by decide +kernel
theorem dX4_needlessBy_42 : decode cX4_needlessBy 42 = .ok (.aload_n 0, 1) := by decide +kernel
theorem dX4_needlessBy_43 : decode cX4_needlessBy 43 = .ok (.bipush 10, 2) := by decide +kernel
theorem dX4_needlessBy_45 : decode cX4_needlessBy 45 = .ok (.invokevirtual 220, 3) := by decide +kernel
theorem dX4_needlessBy_48 : decode cX4_needlessBy 48 = .ok (.istore 5, 2) := by decide +kernel
theorem dX4_needlessBy_50 : decode cX4_needlessBy 50 = .ok (.aload_n 0, 1) := by decide +kernel
theorem dX4_needlessBy_51 : decode cX4_needlessBy 51 = .ok (.dup, 1) := by decide +kernel
theorem dX4_needlessBy_52 : decode cX4_needlessBy 52 = .ok (.getfield 99, 3) := by decide +kernel
theorem dX4_needlessBy_55 : decode cX4_needlessBy 55 = .ok (.iconst 1, 1) := by decide +kernel
theorem dX4_needlessBy_56 : decode cX4_needlessBy 56 = .ok (.iload 4, 2) := by decide +kernel
theorem dX4_needlessBy_58 : decode cX4_needlessBy 58 = .ok (.ishl, 1) := by decide +kernel
theorem dX4_needlessBy_59 : decode cX4_needlessBy 59 = .ok (.iconst (-1), 1) := by decide +kernel
theorem dX4_needlessBy_60 : decode cX4_needlessBy 60 = .ok (.ixor, 1) := by decide +kernel
theorem dX4_needlessBy_61 : decode cX4_needlessBy 61 = .ok (.iand, 1) := by decide +kernel
theorem dX4_needlessBy_62 : decode cX4_needlessBy 62 = .ok (.putfield 99, 3) := by decide +kernel
theorem dX4_needlessBy_65 : decode cX4_needlessBy 65 = .ok (.iload 5, 2) := by decide +kernel
theorem dX4_needlessBy_67 : decode cX4_needlessBy 67 = .ok (.iload_n 3, 1) := by decide +kernel
theorem dX4_needlessBy_68 : decode cX4_needlessBy 68 = .ok (.if_icmp .ge 8, 3) := by decide +kernel
theorem dX4_needlessBy_71 : decode cX4_needlessBy 71 = .ok (.iload 4, 2) := by decide +kernel
theorem dX4_needlessBy_73 : decode cX4_needlessBy 73 = .ok (.goto 4, 3) := by decide +kernel
theorem dX4_needlessBy_76 : decode cX4_needlessBy 76 = .ok (.iload_n 2, 1) := by decide +kernel
theorem dX4_needlessBy_77 : decode cX4_needlessBy 77 = .ok (.istore_n 2, 1) := by decide +kernel
theorem dX4_needlessBy_78 : decode cX4_needlessBy 78 = .ok (.iload 5, 2) := by decide +kernel
theorem dX4_needlessBy_80 : decode cX4_needlessBy 80 = .ok (.iload_n 3, 1) := by decide +kernel
theorem dX4_needlessBy_81 : decode cX4_needlessBy 81 = .ok (.invokestatic 156, 3) := by decide +kernel
theorem dX4_needlessBy_84 : decode cX4_needlessBy 84 = .ok (.istore_n 3, 1) := by decide +kernel
theorem dX4_needlessBy_85 : decode cX4_needlessBy 85 = .ok (.iinc 4 1, 3) := by decide +kernel
theorem dX4_needlessBy_88 : decode cX4_needlessBy 88 = .ok (.goto (-80), 3) := by decide +kernel
theorem dX4_needlessBy_91 : decode cX4_needlessBy 91 = .ok (.iload_n 2, 1) := by decide +kernel
theorem dX4_needlessBy_92 : decode cX4_needlessBy 92 = .ok (.iconst (-1), 1) := by decide +kernel
theorem dX4_needlessBy_93 : decode cX4_needlessBy 93 = .ok (.if_icmp .eq 7, 3) := by decide +kernel
theorem dX4_needlessBy_96 : decode cX4_needlessBy 96 = .ok (.iload_n 1, 1) := by decide +kernel
theorem dX4_needlessBy_97 : decode cX4_needlessBy 97 = .ok (.ifCond .ne 7, 3) := by decide +kernel
theorem dX4_needlessBy_100 : decode cX4_needlessBy 100 = .ok (.iload_n 2, 1) := by decide +kernel
theorem dX4_needlessBy_101 : decode cX4_needlessBy 101 = .ok (.goto 4, 3) := by decide +kernel
theorem dX4_needlessBy_104 : decode cX4_needlessBy 104 = .ok (.iload_n 3, 1) := by decide +kernel
theorem dX4_needlessBy_105 : decode cX4_needlessBy 105 = .ok (.ireturn, 1) := by decide +kernel
set_option maxRecDepth 20000 in
theorem ggX4_needless_X4_isTwo : GoodIn wsX4_needless wsX4_isTwo := goodIn_r _ [4, 5, 6, 3, 7] (by decide +kernel) (by decide +kernel)
set_option maxRecDepth 20000 in
theorem gX4_needless_X4_isTwo : GoodIn wsX4_needless (va_wsS RX4 122 yX4_isTwo wsX4_isTwo) := goodIn_app (goodIn_of _ (by decide +kernel)) ggX4_needless_X4_isTwo
set_option maxRecDepth 20000 in
theorem ggX4_needless_X4_needlessBy : GoodIn wsX4_needless wsX4_needlessBy := goodIn_r _ [11, 12, 13, 14, 15, 16, 3, 17, 18, 19, 20, 21, 22, 23, 24, 25, 26, 27, 28, 29, 30, 31, 32, 33, 34, 35, 36, 37, 38, 39, 40, 41, 42, 43, 44, 45, 46, 47, 48, 49, 50, 51, 52, 53, 54, 55, 56, 57, 58, 59, 60, 61, 62, 63, 64, 65, 66, 67, 68, 69, 70, 71, 72, 73, 74, 75, 76, 77, 78, 79, 80, 81, 82, 83, 84, 85, 86, 87, 88, 89, 90, 91, 92, 93, 94] (by decide +kernel) (by decide +kernel)
set_option maxRecDepth 20000 in
theorem gX4_needless_X4_needlessBy : GoodIn wsX4_needless (wsV RX4 226 RX4 yX4_needlessBy wsX4_needlessBy) := goodIn_app (goodIn_of _ (by decide +kernel)) ggX4_needless_X4_needlessBy
theorem dX4_needless_0 : decode cX4_needless 0 = .ok (.iload_n 1, 1) := by decide +kernel
theorem dX4_needless_1 : decode cX4_needless 1 = .ok (.invokestatic 122, 3) := by decide +kernel
theorem dX4_needless_4 : decode cX4_needless 4 = .ok (.ifCond .eq 11, 3) := by decide +kernel
theorem dX4_needless_7 : decode cX4_needless 7 = .ok (.aload_n 0, 1) := by decide +kernel
theorem dX4_needless_8 : decode cX4_needless 8 = .ok (.iload_n 1, 1) := by decide +kernel
theorem dX4_needless_9 : decode cX4_needless 9 = .ok (.invokevirtual 226, 3) := by decide +kernel
theorem dX4_needless_12 : decode cX4_needless 12 = .ok (.goto 5, 3) := by decide +kernel
theorem dX4_needless_15 : decode cX4_needless 15 = .ok (.bipush (-2), 2) := by decide +kernel
theorem dX4_needless_17 : decode cX4_needless 17 = .ok (.ireturn, 1) := by decide +kernel
set_option maxRecDepth 20000 in
theorem ggX4_write_X4_isSheet : GoodIn wsX4_write wsX4_isSheet := goodIn_r _ [9, 10, 11, 12, 8, 13] (by decide +kernel) (by decide +kernel)
set_option maxRecDepth 20000 in
theorem gX4_write_X4_isSheet : GoodIn wsX4_write (va_wsS RX4 69 yX4_isSheet wsX4_isSheet) := goodIn_app (goodIn_of _ (by decide +kernel)) ggX4_write_X4_isSheet
set_option maxRecDepth 20000 in
theorem ggX4_write_X4_finds : GoodIn wsX4_write wsX4_finds := goodIn_r _ [17, 18, 73, 74, 75, 76, 77, 78, 79, 80, 81, 82, 83, 84, 85, 86, 87, 88, 89, 90, 91, 92, 93, 94, 95, 96, 97, 98, 99, 100, 101, 102] (by decide +kernel) (by decide +kernel)
set_option maxRecDepth 20000 in
theorem gX4_write_X4_finds : GoodIn wsX4_write (wsV RX4 75 RX4 yX4_finds wsX4_finds) := goodIn_app (goodIn_of _ (by decide +kernel)) ggX4_write_X4_finds
set_option maxRecDepth 20000 in
theorem ggX4_write_X4_looks : GoodIn wsX4_write wsX4_looks := goodIn_r _ [22, 23, 24, 25, 8, 26, 27, 28, 29, 30, 31, 32, 33, 34, 35, 36, 37, 3, 5, 38, 39, 40, 41, 42, 43, 44, 45, 46, 47, 48, 49, 50, 51, 52, 53, 54, 55, 56, 57, 58, 59, 60, 61, 62, 63, 64, 65, 66, 67, 68, 69, 73, 74, 75, 76, 77, 78, 79, 80, 81, 82, 83, 84, 85, 86, 87, 88, 89, 90, 91, 92, 93, 94, 95, 96, 97, 98, 99, 100, 101, 102] (by decide +kernel) (by decide +kernel)
set_option maxRecDepth 20000 in
theorem gX4_write_X4_looks : GoodIn wsX4_write (wsV RX4 212 RX4 yX4_looks wsX4_looks) := goodIn_app (goodIn_of _ (by decide +kernel)) ggX4_write_X4_looks
set_option maxRecDepth 20000 in
theorem ggX4_write_X4_lesser : GoodIn wsX4_write wsX4_lesser := goodIn_r _ [65] (by decide +kernel) (by decide +kernel)
set_option maxRecDepth 20000 in
theorem gX4_write_X4_lesser : GoodIn wsX4_write (va_wsS RX4 156 yX4_lesser wsX4_lesser) := goodIn_app (goodIn_of _ (by decide +kernel)) ggX4_write_X4_lesser
set_option maxRecDepth 20000 in
theorem ggX4_write_X4_cut : GoodIn wsX4_write wsX4_cut := goodIn_r _ [72] (by decide +kernel) (by decide +kernel)
set_option maxRecDepth 20000 in
theorem gX4_write_X4_cut : GoodIn wsX4_write (va_wsS RX4 83 yX4_cut wsX4_cut) := goodIn_app (goodIn_of _ (by decide +kernel)) ggX4_write_X4_cut
theorem dX4_write_0 : decode cX4_write 0 = .ok (.iload_n 1, 1) := by decide +kernel
theorem dX4_write_1 : decode cX4_write 1 = .ok (.invokestatic 69, 3) := by decide +kernel
theorem dX4_write_4 : decode cX4_write 4 = .ok (.ifCond .ne 6, 3) := by decide +kernel
theorem dX4_write_7 : decode cX4_write 7 = .ok (.bipush (-2), 2) := by decide +kernel
theorem dX4_write_9 : decode cX4_write 9 = .ok (.ireturn, 1) := by decide +kernel
theorem dX4_write_10 : decode cX4_write 10 = .ok (.aload_n 0, 1) := by decide +kernel
theorem dX4_write_11 : decode cX4_write 11 = .ok (.getfield 7, 3) := by decide +kernel
theorem dX4_write_14 : decode cX4_write 14 = .ok (.iload_n 1, 1) := by decide +kernel
theorem dX4_write_15 : decode cX4_write 15 = .ok (.iaload, 1) := by decide +kernel
theorem dX4_write_16 : decode cX4_write 16 = .ok (.ifCond .ge 9, 3) := by decide +kernel
theorem dX4_write_19 : decode cX4_write 19 = .ok (.aload_n 0, 1) := by decide +kernel
theorem dX4_write_20 : decode cX4_write 20 = .ok (.iconst 1, 1) := by decide +kernel
theorem dX4_write_21 : decode cX4_write 21 = .ok (.invokevirtual 75, 3) := by decide +kernel
theorem dX4_write_24 : decode cX4_write 24 = .ok (.ireturn, 1) := by decide +kernel
theorem dX4_write_25 : decode cX4_write 25 = .ok (.aload_n 0, 1) := by decide +kernel
theorem dX4_write_26 : decode cX4_write 26 = .ok (.invokevirtual 212, 3) := by decide +kernel
theorem dX4_write_29 : decode cX4_write 29 = .ok (.aload_n 0, 1) := by decide +kernel
theorem dX4_write_30 : decode cX4_write 30 = .ok (.getfield 13, 3) := by decide +kernel
theorem dX4_write_33 : decode cX4_write 33 = .ok (.iload_n 1, 1) := by decide +kernel
theorem dX4_write_34 : decode cX4_write 34 = .ok (.iaload, 1) := by decide +kernel
theorem dX4_write_35 : decode cX4_write 35 = .ok (.aload_n 0, 1) := by decide +kernel
theorem dX4_write_36 : decode cX4_write 36 = .ok (.getfield 56, 3) := by decide +kernel
theorem dX4_write_39 : decode cX4_write 39 = .ok (.invokestatic 156, 3) := by decide +kernel
theorem dX4_write_42 : decode cX4_write 42 = .ok (.istore_n 2, 1) := by decide +kernel
theorem dX4_write_43 : decode cX4_write 43 = .ok (.iconst 0, 1) := by decide +kernel
theorem dX4_write_44 : decode cX4_write 44 = .ok (.istore_n 3, 1) := by decide +kernel
theorem dX4_write_45 : decode cX4_write 45 = .ok (.iload_n 3, 1) := by decide +kernel
theorem dX4_write_46 : decode cX4_write 46 = .ok (.iload_n 2, 1) := by decide +kernel
theorem dX4_write_47 : decode cX4_write 47 = .ok (.if_icmp .ge 35, 3) := by decide +kernel
theorem dX4_write_50 : decode cX4_write 50 = .ok (.aload_n 0, 1) := by decide +kernel
theorem dX4_write_51 : decode cX4_write 51 = .ok (.getfield 16, 3) := by decide +kernel
theorem dX4_write_54 : decode cX4_write 54 = .ok (.bipush 60, 2) := by decide +kernel
theorem dX4_write_56 : decode cX4_write 56 = .ok (.iload_n 1, 1) := by decide +kernel
theorem dX4_write_57 : decode cX4_write 57 = .ok (.imul, 1) := by decide +kernel
theorem dX4_write_58 : decode cX4_write 58 = .ok (.iload_n 3, 1) := by decide +kernel
theorem dX4_write_59 : decode cX4_write 59 = .ok (.iadd, 1) := by decide +kernel
theorem dX4_write_60 : decode cX4_write 60 = .ok (.aload_n 0, 1) := by decide +kernel
theorem dX4_write_61 : decode cX4_write 61 = .ok (.getfield 7, 3) := by decide +kernel
theorem dX4_write_64 : decode cX4_write 64 = .ok (.iload_n 1, 1) := by decide +kernel
theorem dX4_write_65 : decode cX4_write 65 = .ok (.iaload, 1) := by decide +kernel
theorem dX4_write_66 : decode cX4_write 66 = .ok (.aload_n 0, 1) := by decide +kernel
theorem dX4_write_67 : decode cX4_write 67 = .ok (.getfield 44, 3) := by decide +kernel
theorem dX4_write_70 : decode cX4_write 70 = .ok (.iload_n 3, 1) := by decide +kernel
theorem dX4_write_71 : decode cX4_write 71 = .ok (.iaload, 1) := by decide +kernel
theorem dX4_write_72 : decode cX4_write 72 = .ok (.invokestatic 83, 3) := by decide +kernel
theorem dX4_write_75 : decode cX4_write 75 = .ok (.iastore, 1) := by decide +kernel
theorem dX4_write_76 : decode cX4_write 76 = .ok (.iinc 3 1, 3) := by decide +kernel
theorem dX4_write_79 : decode cX4_write 79 = .ok (.goto (-34), 3) := by decide +kernel
theorem dX4_write_82 : decode cX4_write 82 = .ok (.iload_n 2, 1) := by decide +kernel
theorem dX4_write_83 : decode cX4_write 83 = .ok (.ireturn, 1) := by decide +kernel
set_option maxRecDepth 20000 in
theorem ggX4_count_X4_manyWait : GoodIn wsX4_count wsX4_manyWait := goodIn_r _ [11, 5, 12, 13, 25, 26, 27, 28, 29, 30, 31, 32, 33, 34, 35, 36, 37, 38, 39, 40, 41, 42, 43, 44, 45, 46, 47, 48, 49, 50, 51, 52, 53, 54] (by decide +kernel) (by decide +kernel)
set_option maxRecDepth 20000 in
theorem gX4_count_X4_manyWait : GoodIn wsX4_count (wsV RX4 125 RX4 yX4_manyWait wsX4_manyWait) := goodIn_app (goodIn_of _ (by decide +kernel)) ggX4_count_X4_manyWait
set_option maxRecDepth 20000 in
theorem ggX4_count_X4_chamberBy : GoodIn wsX4_count wsX4_chamberBy := goodIn_r _ [17, 18, 19, 25, 26, 27, 28, 29, 30, 31, 32, 33, 34, 35, 36, 37, 38, 39, 40, 41, 42, 43, 44, 45, 46, 47, 48, 49, 50, 51, 52, 53, 54] (by decide +kernel) (by decide +kernel)
set_option maxRecDepth 20000 in
theorem gX4_count_X4_chamberBy : GoodIn wsX4_count (wsV RX4 116 RX4 yX4_chamberBy wsX4_chamberBy) := goodIn_app (goodIn_of _ (by decide +kernel)) ggX4_count_X4_chamberBy
set_option maxRecDepth 20000 in
theorem ggX4_count_X4_inBasins : GoodIn wsX4_count wsX4_inBasins := goodIn_r _ [23, 1, 24, 25, 26, 27, 28, 29, 30, 31, 32, 33, 34, 35, 36, 37, 38, 39, 40, 41, 42, 43, 44, 45, 46, 47, 48, 49, 50, 51, 52, 53, 54] (by decide +kernel) (by decide +kernel)
set_option maxRecDepth 20000 in
theorem gX4_count_X4_inBasins : GoodIn wsX4_count (wsV RX4 198 RX4 yX4_inBasins wsX4_inBasins) := goodIn_app (goodIn_of _ (by decide +kernel)) ggX4_count_X4_inBasins
