theorem dX4_count_0 : decode cX4_count 0 = .ok (.iload_n 1, 1) := by decide +kernel
theorem dX4_count_1 : decode cX4_count 1 = .ok (.tableswitch 104 0 8 #[51, 56, 68, 73, 79, 84, 89, 94, 99], 51) := by decide +kernel
theorem dX4_count_52 : decode cX4_count 52 = .ok (.aload_n 0, 1) := by decide +kernel
theorem dX4_count_53 : decode cX4_count 53 = .ok (.getfield 96, 3) := by decide +kernel
theorem dX4_count_56 : decode cX4_count 56 = .ok (.ireturn, 1) := by decide +kernel
theorem dX4_count_57 : decode cX4_count 57 = .ok (.aload_n 0, 1) := by decide +kernel
theorem dX4_count_58 : decode cX4_count 58 = .ok (.iconst 0, 1) := by decide +kernel
theorem dX4_count_59 : decode cX4_count 59 = .ok (.invokevirtual 125, 3) := by decide +kernel
theorem dX4_count_62 : decode cX4_count 62 = .ok (.aload_n 0, 1) := by decide +kernel
theorem dX4_count_63 : decode cX4_count 63 = .ok (.iconst 1, 1) := by decide +kernel
theorem dX4_count_64 : decode cX4_count 64 = .ok (.invokevirtual 125, 3) := by decide +kernel
theorem dX4_count_67 : decode cX4_count 67 = .ok (.iadd, 1) := by decide +kernel
theorem dX4_count_68 : decode cX4_count 68 = .ok (.ireturn, 1) := by decide +kernel
theorem dX4_count_69 : decode cX4_count 69 = .ok (.aload_n 0, 1) := by decide +kernel
theorem dX4_count_70 : decode cX4_count 70 = .ok (.getfield 174, 3) := by decide +kernel
theorem dX4_count_73 : decode cX4_count 73 = .ok (.ireturn, 1) := by decide +kernel
theorem dX4_count_74 : decode cX4_count 74 = .ok (.aload_n 0, 1) := by decide +kernel
theorem dX4_count_75 : decode cX4_count 75 = .ok (.iconst 0, 1) := by decide +kernel
theorem dX4_count_76 : decode cX4_count 76 = .ok (.invokevirtual 116, 3) := by decide +kernel
theorem dX4_count_79 : decode cX4_count 79 = .ok (.ireturn, 1) := by decide +kernel
theorem dX4_count_80 : decode cX4_count 80 = .ok (.aload_n 0, 1) := by decide +kernel
theorem dX4_count_81 : decode cX4_count 81 = .ok (.invokevirtual 198, 3) := by decide +kernel
theorem dX4_count_84 : decode cX4_count 84 = .ok (.ireturn, 1) := by decide +kernel
theorem dX4_count_85 : decode cX4_count 85 = .ok (.aload_n 0, 1) := by decide +kernel
theorem dX4_count_86 : decode cX4_count 86 = .ok (.getfield 180, 3) := by decide +kernel
theorem dX4_count_89 : decode cX4_count 89 = .ok (.ireturn, 1) := by decide +kernel
theorem dX4_count_90 : decode cX4_count 90 = .ok (.aload_n 0, 1) := by decide +kernel
theorem dX4_count_91 : decode cX4_count 91 = .ok (.getfield 183, 3) := by decide +kernel
theorem dX4_count_94 : decode cX4_count 94 = .ok (.ireturn, 1) := by decide +kernel
theorem dX4_count_95 : decode cX4_count 95 = .ok (.aload_n 0, 1) := by decide +kernel
theorem dX4_count_96 : decode cX4_count 96 = .ok (.getfield 119, 3) := by decide +kernel
theorem dX4_count_99 : decode cX4_count 99 = .ok (.ireturn, 1) := by decide +kernel
theorem dX4_count_100 : decode cX4_count 100 = .ok (.aload_n 0, 1) := by decide +kernel
theorem dX4_count_101 : decode cX4_count 101 = .ok (.getfield 64, 3) := by decide +kernel
theorem dX4_count_104 : decode cX4_count 104 = .ok (.ireturn, 1) := by decide +kernel
theorem dX4_count_105 : decode cX4_count 105 = .ok (.bipush (-2), 2) := by decide +kernel
theorem dX4_count_107 : decode cX4_count 107 = .ok (.ireturn, 1) := by decide +kernel
set_option maxRecDepth 20000 in
theorem ggX4_digest_X4_count : GoodIn wsX4_digest wsX4_count := goodIn_r _ [10, 3, 4, 11, 12, 13, 14, 15, 16, 17, 9, 18, 19, 20, 21, 22, 23, 24, 25, 26, 27, 28, 29, 30, 31, 124, 125, 126, 127, 128, 129, 130, 131, 132, 133, 134, 135, 136, 137, 138, 139, 140, 141, 142, 143, 144, 145, 146, 147, 148, 149, 150, 151, 152, 153] (by decide +kernel) (by decide +kernel)
set_option maxRecDepth 20000 in
theorem gX4_digest_X4_count : GoodIn wsX4_digest (wsV RX4 233 RX4 yX4_count wsX4_count) := goodIn_app (goodIn_of _ (by decide +kernel)) ggX4_digest_X4_count
set_option maxRecDepth 20000 in
theorem ggX4_digest_X4_infoBy : GoodIn wsX4_digest wsX4_infoBy := goodIn_r _ [35, 36, 37, 38, 39, 31, 40, 41, 42, 43, 9, 44, 124, 125, 126, 127, 128, 129, 130, 131, 132, 133, 134, 135, 136, 137, 138, 139, 140, 141, 142, 143, 144, 145, 146, 147, 148, 149, 150, 151, 152, 153] (by decide +kernel) (by decide +kernel)
set_option maxRecDepth 20000 in
theorem gX4_digest_X4_infoBy : GoodIn wsX4_digest (wsV RX4 113 RX4 yX4_infoBy wsX4_infoBy) := goodIn_app (goodIn_of _ (by decide +kernel)) ggX4_digest_X4_infoBy
set_option maxRecDepth 20000 in
theorem ggX4_digest_X4_betterBy : GoodIn wsX4_digest wsX4_betterBy := goodIn_r _ [48, 36, 49, 50, 51, 52, 9, 53, 25, 54, 55, 56, 57, 58, 59, 60, 31, 61, 62, 63, 64, 65, 66, 26, 67, 3, 39, 68, 69, 70, 71, 40, 37, 41, 42, 43, 44, 38, 72, 73, 74, 75, 76, 77, 78, 79, 80, 81, 82, 83, 84, 85, 86, 87, 88, 124, 125, 126, 127, 128, 129, 130, 131, 132, 133, 134, 135, 136, 137, 138, 139, 140, 141, 142, 143, 144, 145, 146, 147, 148, 149, 150, 151, 152, 153] (by decide +kernel) (by decide +kernel)
set_option maxRecDepth 20000 in
theorem gX4_digest_X4_betterBy : GoodIn wsX4_digest (wsV RX4 223 RX4 yX4_betterBy wsX4_betterBy) := goodIn_app (goodIn_of _ (by decide +kernel)) ggX4_digest_X4_betterBy
set_option maxRecDepth 20000 in
theorem ggX4_digest_X4_chamberBy : GoodIn wsX4_digest wsX4_chamberBy := goodIn_r _ [24, 25, 26, 124, 125, 126, 127, 128, 129, 130, 131, 132, 133, 134, 135, 136, 137, 138, 139, 140, 141, 142, 143, 144, 145, 146, 147, 148, 149, 150, 151, 152, 153] (by decide +kernel) (by decide +kernel)
set_option maxRecDepth 20000 in
theorem gX4_digest_X4_chamberBy : GoodIn wsX4_digest (wsV RX4 116 RX4 yX4_chamberBy wsX4_chamberBy) := goodIn_app (goodIn_of _ (by decide +kernel)) ggX4_digest_X4_chamberBy
set_option maxRecDepth 20000 in
theorem ggX4_digest_X4_waitsBy : GoodIn wsX4_digest wsX4_waitsBy := goodIn_r _ [92, 13, 19, 20, 124, 125, 126, 127, 128, 129, 130, 131, 132, 133, 134, 135, 136, 137, 138, 139, 140, 141, 142, 143, 144, 145, 146, 147, 148, 149, 150, 151, 152, 153] (by decide +kernel) (by decide +kernel)
set_option maxRecDepth 20000 in
theorem gX4_digest_X4_waitsBy : GoodIn wsX4_digest (wsV RX4 132 RX4 yX4_waitsBy wsX4_waitsBy) := goodIn_app (goodIn_of _ (by decide +kernel)) ggX4_digest_X4_waitsBy
set_option maxRecDepth 20000 in
theorem ggX4_digest_X4_nextBy : GoodIn wsX4_digest wsX4_nextBy := goodIn_r _ [96, 20, 97, 98, 99, 9, 100, 13, 19, 101, 102, 103, 104, 105, 25, 124, 125, 126, 127, 128, 129, 130, 131, 132, 133, 134, 135, 136, 137, 138, 139, 140, 141, 142, 143, 144, 145, 146, 147, 148, 149, 150, 151, 152, 153] (by decide +kernel) (by decide +kernel)
set_option maxRecDepth 20000 in
theorem gX4_digest_X4_nextBy : GoodIn wsX4_digest (wsV RX4 145 RX4 yX4_nextBy wsX4_nextBy) := goodIn_app (goodIn_of _ (by decide +kernel)) ggX4_digest_X4_nextBy
set_option maxRecDepth 20000 in
theorem ggX4_digest_X4_totalBy : GoodIn wsX4_digest wsX4_totalBy := goodIn_r _ [109, 11, 12, 110, 111, 27, 28, 29, 9, 30, 3, 31, 124, 125, 126, 127, 128, 129, 130, 131, 132, 133, 134, 135, 136, 137, 138, 139, 140, 141, 142, 143, 144, 145, 146, 147, 148, 149, 150, 151, 152, 153] (by decide +kernel) (by decide +kernel)
set_option maxRecDepth 20000 in
theorem gX4_digest_X4_totalBy : GoodIn wsX4_digest (wsV RX4 203 RX4 yX4_totalBy wsX4_totalBy) := goodIn_app (goodIn_of _ (by decide +kernel)) ggX4_digest_X4_totalBy
set_option maxRecDepth 20000 in
theorem ggX4_digest_X4_looks : GoodIn wsX4_digest wsX4_looks := goodIn_r _ [115, 55, 56, 57, 9, 58, 25, 59, 60, 31, 61, 62, 63, 64, 54, 65, 66, 26, 67, 3, 39, 68, 69, 70, 71, 40, 37, 41, 42, 43, 44, 36, 38, 72, 73, 74, 75, 76, 77, 78, 79, 80, 81, 49, 82, 83, 84, 85, 86, 87, 88, 124, 125, 126, 127, 128, 129, 130, 131, 132, 133, 134, 135, 136, 137, 138, 139, 140, 141, 142, 143, 144, 145, 146, 147, 148, 149, 150, 151, 152, 153] (by decide +kernel) (by decide +kernel)
set_option maxRecDepth 20000 in
theorem gX4_digest_X4_looks : GoodIn wsX4_digest (wsV RX4 212 RX4 yX4_looks wsX4_looks) := goodIn_app (goodIn_of _ (by decide +kernel)) ggX4_digest_X4_looks
set_option maxRecDepth 20000 in
theorem ggX4_digest_X4_stepBy : GoodIn wsX4_digest wsX4_stepBy := goodIn_r _ [119, 26, 67, 124, 125, 126, 127, 128, 129, 130, 131, 132, 133, 134, 135, 136, 137, 138, 139, 140, 141, 142, 143, 144, 145, 146, 147, 148, 149, 150, 151, 152, 153] (by decide +kernel) (by decide +kernel)
set_option maxRecDepth 20000 in
theorem gX4_digest_X4_stepBy : GoodIn wsX4_digest (wsV RX4 215 RX4 yX4_stepBy wsX4_stepBy) := goodIn_app (goodIn_of _ (by decide +kernel)) ggX4_digest_X4_stepBy
set_option maxRecDepth 20000 in
theorem ggX4_digest_X4_aheadOf : GoodIn wsX4_digest wsX4_aheadOf := goodIn_r _ [53, 25, 54, 55, 56, 57, 9, 58, 59, 60, 31, 61, 62, 63, 64, 65, 66, 26, 67, 3, 39, 68, 69, 70, 71, 40, 37, 41, 42, 43, 44, 36, 38, 72, 73, 74, 75, 76, 77, 78, 79, 80, 81, 49, 82, 83, 84, 85, 86, 87, 88, 124, 125, 126, 127, 128, 129, 130, 131, 132, 133, 134, 135, 136, 137, 138, 139, 140, 141, 142, 143, 144, 145, 146, 147, 148, 149, 150, 151, 152, 153] (by decide +kernel) (by decide +kernel)
set_option maxRecDepth 20000 in
theorem gX4_digest_X4_aheadOf : GoodIn wsX4_digest (wsV RX4 220 RX4 yX4_aheadOf wsX4_aheadOf) := goodIn_app (goodIn_of _ (by decide +kernel)) ggX4_digest_X4_aheadOf
set_option maxRecDepth 20000 in
theorem ggX4_digest_X4_needlessBy : GoodIn wsX4_digest wsX4_needlessBy := goodIn_r _ [123, 49, 3, 40, 72, 73, 9, 74, 50, 51, 52, 53, 25, 54, 55, 56, 57, 58, 59, 60, 31, 61, 62, 63, 64, 65, 66, 26, 67, 39, 68, 69, 70, 71, 37, 41, 42, 43, 44, 36, 38, 75, 76, 77, 78, 79, 80, 81, 82, 83, 84, 85, 86, 87, 88, 124, 125, 126, 127, 128, 129, 130, 131, 132, 133, 134, 135, 136, 137, 138, 139, 140, 141, 142, 143, 144, 145, 146, 147, 148, 149, 150, 151, 152, 153] (by decide +kernel) (by decide +kernel)
set_option maxRecDepth 20000 in
theorem gX4_digest_X4_needlessBy : GoodIn wsX4_digest (wsV RX4 226 RX4 yX4_needlessBy wsX4_needlessBy) := goodIn_app (goodIn_of _ (by decide +kernel)) ggX4_digest_X4_needlessBy
theorem dX4_digest_0 : decode cX4_digest 0 = .ok (.ldc2_w 229, 3) := by decide +kernel
theorem dX4_digest_3 : decode cX4_digest 3 = .ok (.lstore_n 1, 1) := by decide +kernel
theorem dX4_digest_4 : decode cX4_digest 4 = .ok (.iconst 0, 1) := by decide +kernel
theorem dX4_digest_5 : decode cX4_digest 5 = .ok (.istore_n 3, 1) := by decide +kernel
theorem dX4_digest_6 : decode cX4_digest 6 = .ok (.iload_n 3, 1) := by decide +kernel
theorem dX4_digest_7 : decode cX4_digest 7 = .ok (.bipush 8, 2) := by decide +kernel
theorem dX4_digest_9 : decode cX4_digest 9 = .ok (.if_icmp .ge 22, 3) := by decide +kernel
theorem dX4_digest_12 : decode cX4_digest 12 = .ok (.ldc2_w 231, 3) := by decide +kernel
theorem dX4_digest_15 : decode cX4_digest 15 = .ok (.lload_n 1, 1) := by decide +kernel
theorem dX4_digest_16 : decode cX4_digest 16 = .ok (.lmul, 1) := by decide +kernel
theorem dX4_digest_17 : decode cX4_digest 17 = .ok (.aload_n 0, 1) := by decide +kernel
theorem dX4_digest_18 : decode cX4_digest 18 = .ok (.iload_n 3, 1) := by decide +kernel
theorem dX4_digest_19 : decode cX4_digest 19 = .ok (.invokevirtual 233, 3) := by decide +kernel
theorem dX4_digest_22 : decode cX4_digest 22 = .ok (.i2l, 1) := by decide +kernel
theorem dX4_digest_23 : decode cX4_digest 23 = .ok (.ladd, 1) := by decide +kernel
theorem dX4_digest_24 : decode cX4_digest 24 = .ok (.lstore_n 1, 1) := by decide +kernel
theorem dX4_digest_25 : decode cX4_digest 25 = .ok (.iinc 3 1, 3) := by decide +kernel
theorem dX4_digest_28 : decode cX4_digest 28 = .ok (.goto (-22), 3) := by decide +kernel
theorem dX4_digest_31 : decode cX4_digest 31 = .ok (.iconst 0, 1) := by decide +kernel
theorem dX4_digest_32 : decode cX4_digest 32 = .ok (.istore_n 3, 1) := by decide +kernel
theorem dX4_digest_33 : decode cX4_digest 33 = .ok (.iload_n 3, 1) := by decide +kernel
theorem dX4_digest_34 : decode cX4_digest 34 = .ok (.aload_n 0, 1) := by decide +kernel
theorem dX4_digest_35 : decode cX4_digest 35 = .ok (.getfield 96, 3) := by decide +kernel
theorem dX4_digest_38 : decode cX4_digest 38 = .ok (.if_icmp .ge 68, 3) := by decide +kernel
theorem dX4_digest_41 : decode cX4_digest 41 = .ok (.iconst 0, 1) := by decide +kernel
theorem dX4_digest_42 : decode cX4_digest 42 = .ok (.istore 4, 2) := by decide +kernel
theorem dX4_digest_44 : decode cX4_digest 44 = .ok (.iload 4, 2) := by decide +kernel
theorem dX4_digest_46 : decode cX4_digest 46 = .ok (.bipush 7, 2) := by decide +kernel
theorem dX4_digest_48 : decode cX4_digest 48 = .ok (.if_icmp .ge 24, 3) := by decide +kernel
theorem dX4_digest_51 : decode cX4_digest 51 = .ok (.ldc2_w 231, 3) := by decide +kernel
theorem dX4_digest_54 : decode cX4_digest 54 = .ok (.lload_n 1, 1) := by decide +kernel
theorem dX4_digest_55 : decode cX4_digest 55 = .ok (.lmul, 1) := by decide +kernel
theorem dX4_digest_56 : decode cX4_digest 56 = .ok (.aload_n 0, 1) := by decide +kernel
theorem dX4_digest_57 : decode cX4_digest 57 = .ok (.iload_n 3, 1) := by decide +kernel
theorem dX4_digest_58 : decode cX4_digest 58 = .ok (.iload 4, 2) := by decide +kernel
theorem dX4_digest_60 : decode cX4_digest 60 = .ok (.invokevirtual 113, 3) := by decide +kernel
theorem dX4_digest_63 : decode cX4_digest 63 = .ok (.i2l, 1) := by decide +kernel
theorem dX4_digest_64 : decode cX4_digest 64 = .ok (.ladd, 1) := by decide +kernel
theorem dX4_digest_65 : decode cX4_digest 65 = .ok (.lstore_n 1, 1) := by decide +kernel
theorem dX4_digest_66 : decode cX4_digest 66 = .ok (.iinc 4 1, 3) := by decide +kernel
theorem dX4_digest_69 : decode cX4_digest 69 = .ok (.goto (-25), 3) := by decide +kernel
theorem dX4_digest_72 : decode cX4_digest 72 = .ok (.ldc2_w 231, 3) := by decide +kernel
theorem dX4_digest_75 : decode cX4_digest 75 = .ok (.lload_n 1, 1) := by decide +kernel
theorem dX4_digest_76 : decode cX4_digest 76 = .ok (.lmul, 1) := by decide +kernel
theorem dX4_digest_77 : decode cX4_digest 77 = .ok (.aload_n 0, 1) := by decide +kernel
theorem dX4_digest_78 : decode cX4_digest 78 = .ok (.iload_n 3, 1) := by decide +kernel
theorem dX4_digest_79 : decode cX4_digest 79 = .ok (.iconst 0, 1) := by decide +kernel
theorem dX4_digest_80 : decode cX4_digest 80 = .ok (.invokevirtual 223, 3) := by decide +kernel
theorem dX4_digest_83 : decode cX4_digest 83 = .ok (.i2l, 1) := by decide +kernel
theorem dX4_digest_84 : decode cX4_digest 84 = .ok (.ladd, 1) := by decide +kernel
theorem dX4_digest_85 : decode cX4_digest 85 = .ok (.lstore_n 1, 1) := by decide +kernel
theorem dX4_digest_86 : decode cX4_digest 86 = .ok (.ldc2_w 231, 3) := by decide +kernel
theorem dX4_digest_89 : decode cX4_digest 89 = .ok (.lload_n 1, 1) := by decide +kernel
theorem dX4_digest_90 : decode cX4_digest 90 = .ok (.lmul, 1) := by decide +kernel
theorem dX4_digest_91 : decode cX4_digest 91 = .ok (.aload_n 0, 1) := by decide +kernel
theorem dX4_digest_92 : decode cX4_digest 92 = .ok (.iload_n 3, 1) := by decide +kernel
theorem dX4_digest_93 : decode cX4_digest 93 = .ok (.iconst 1, 1) := by decide +kernel
theorem dX4_digest_94 : decode cX4_digest 94 = .ok (.invokevirtual 223, 3) := by decide +kernel
theorem dX4_digest_97 : decode cX4_digest 97 = .ok (.i2l, 1) := by decide +kernel
theorem dX4_digest_98 : decode cX4_digest 98 = .ok (.ladd, 1) := by decide +kernel
theorem dX4_digest_99 : decode cX4_digest 99 = .ok (.lstore_n 1, 1) := by decide +kernel
theorem dX4_digest_100 : decode cX4_digest 100 = .ok (.iinc 3 1, 3) := by decide +kernel
theorem dX4_digest_103 : decode cX4_digest 103 = .ok (.goto (-70), 3) := by decide +kernel
theorem dX4_digest_106 : decode cX4_digest 106 = .ok (.iconst 0, 1) := by decide +kernel
theorem dX4_digest_107 : decode cX4_digest 107 = .ok (.istore_n 3, 1) := by decide +kernel
theorem dX4_digest_108 : decode cX4_digest 108 = .ok (.iload_n 3, 1) := by decide +kernel
theorem dX4_digest_109 : decode cX4_digest 109 = .ok (.iconst 3, 1) := by decide +kernel
theorem dX4_digest_110 : decode cX4_digest 110 = .ok (.if_icmp .ge 22, 3) := by decide +kernel
theorem dX4_digest_113 : decode cX4_digest 113 = .ok (.ldc2_w 231, 3) := by decide +kernel
theorem dX4_digest_116 : decode cX4_digest 116 = .ok (.lload_n 1, 1) := by decide +kernel
theorem dX4_digest_117 : decode cX4_digest 117 = .ok (.lmul, 1) := by decide +kernel
theorem dX4_digest_118 : decode cX4_digest 118 = .ok (.aload_n 0, 1) := by decide +kernel
theorem dX4_digest_119 : decode cX4_digest 119 = .ok (.iload_n 3, 1) := by decide +kernel
theorem dX4_digest_120 : decode cX4_digest 120 = .ok (.invokevirtual 116, 3) := by decide +kernel
theorem dX4_digest_123 : decode cX4_digest 123 = .ok (.i2l, 1) := by decide +kernel
theorem dX4_digest_124 : decode cX4_digest 124 = .ok (.ladd, 1) := by decide +kernel
theorem dX4_digest_125 : decode cX4_digest 125 = .ok (.lstore_n 1, 1) := by decide +kernel
theorem dX4_digest_126 : decode cX4_digest 126 = .ok (.iinc 3 1, 3) := by decide +kernel
theorem dX4_digest_129 : decode cX4_digest 129 = .ok (.goto (-21), 3) := by decide +kernel
theorem dX4_digest_132 : decode cX4_digest 132 = .ok (.iconst 0, 1) := by decide +kernel
theorem dX4_digest_133 : decode cX4_digest 133 = .ok (.istore_n 3, 1) := by decide +kernel
theorem dX4_digest_134 : decode cX4_digest 134 = .ok (.iload_n 3, 1) := by decide +kernel
theorem dX4_digest_135 : decode cX4_digest 135 = .ok (.iconst 2, 1) := by decide +kernel
theorem dX4_digest_136 : decode cX4_digest 136 = .ok (.if_icmp .ge 51, 3) := by decide +kernel
theorem dX4_digest_139 : decode cX4_digest 139 = .ok (.ldc2_w 231, 3) := by decide +kernel
theorem dX4_digest_142 : decode cX4_digest 142 = .ok (.lload_n 1, 1) := by decide +kernel
theorem dX4_digest_143 : decode cX4_digest 143 = .ok (.lmul, 1) := by decide +kernel
theorem dX4_digest_144 : decode cX4_digest 144 = .ok (.aload_n 0, 1) := by decide +kernel
theorem dX4_digest_145 : decode cX4_digest 145 = .ok (.iload_n 3, 1) := by decide +kernel
theorem dX4_digest_146 : decode cX4_digest 146 = .ok (.iconst (-1), 1) := by decide +kernel
theorem dX4_digest_147 : decode cX4_digest 147 = .ok (.invokevirtual 132, 3) := by decide +kernel
theorem dX4_digest_150 : decode cX4_digest 150 = .ok (.i2l, 1) := by decide +kernel
theorem dX4_digest_151 : decode cX4_digest 151 = .ok (.ladd, 1) := by decide +kernel
theorem dX4_digest_152 : decode cX4_digest 152 = .ok (.lstore_n 1, 1) := by decide +kernel
theorem dX4_digest_153 : decode cX4_digest 153 = .ok (.ldc2_w 231, 3) := by decide +kernel
theorem dX4_digest_156 : decode cX4_digest 156 = .ok (.lload_n 1, 1) := by decide +kernel
theorem dX4_digest_157 : decode cX4_digest 157 = .ok (.lmul, 1) := by decide +kernel
theorem dX4_digest_158 : decode cX4_digest 158 = .ok (.aload_n 0, 1) := by decide +kernel
theorem dX4_digest_159 : decode cX4_digest 159 = .ok (.iload_n 3, 1) := by decide +kernel
theorem dX4_digest_160 : decode cX4_digest 160 = .ok (.iconst 0, 1) := by decide +kernel
theorem dX4_digest_161 : decode cX4_digest 161 = .ok (.invokevirtual 132, 3) := by decide +kernel
theorem dX4_digest_164 : decode cX4_digest 164 = .ok (.i2l, 1) := by decide +kernel
theorem dX4_digest_165 : decode cX4_digest 165 = .ok (.ladd, 1) := by decide +kernel
theorem dX4_digest_166 : decode cX4_digest 166 = .ok (.lstore_n 1, 1) := by decide +kernel
theorem dX4_digest_167 : decode cX4_digest 167 = .ok (.ldc2_w 231, 3) := by decide +kernel
theorem dX4_digest_170 : decode cX4_digest 170 = .ok (.lload_n 1, 1) := by decide +kernel
theorem dX4_digest_171 : decode cX4_digest 171 = .ok (.lmul, 1) := by decide +kernel
theorem dX4_digest_172 : decode cX4_digest 172 = .ok (.aload_n 0, 1) := by decide +kernel
theorem dX4_digest_173 : decode cX4_digest 173 = .ok (.iload_n 3, 1) := by decide +kernel
theorem dX4_digest_174 : decode cX4_digest 174 = .ok (.iconst 3, 1) := by decide +kernel
theorem dX4_digest_175 : decode cX4_digest 175 = .ok (.invokevirtual 132, 3) := by decide +kernel
theorem dX4_digest_178 : decode cX4_digest 178 = .ok (.i2l, 1) := by decide +kernel
theorem dX4_digest_179 : decode cX4_digest 179 = .ok (.ladd, 1) := by decide +kernel
theorem dX4_digest_180 : decode cX4_digest 180 = .ok (.lstore_n 1, 1) := by decide +kernel
theorem dX4_digest_181 : decode cX4_digest 181 = .ok (.iinc 3 1, 3) := by decide +kernel
theorem dX4_digest_184 : decode cX4_digest 184 = .ok (.goto (-50), 3) := by decide +kernel
theorem dX4_digest_187 : decode cX4_digest 187 = .ok (.iconst 0, 1) := by decide +kernel
theorem dX4_digest_188 : decode cX4_digest 188 = .ok (.istore_n 3, 1) := by decide +kernel
theorem dX4_digest_189 : decode cX4_digest 189 = .ok (.iload_n 3, 1) := by decide +kernel
theorem dX4_digest_190 : decode cX4_digest 190 = .ok (.iconst 2, 1) := by decide +kernel
theorem dX4_digest_191 : decode cX4_digest 191 = .ok (.if_icmp .ge 22, 3) := by decide +kernel
theorem dX4_digest_194 : decode cX4_digest 194 = .ok (.ldc2_w 231, 3) := by decide +kernel
theorem dX4_digest_197 : decode cX4_digest 197 = .ok (.lload_n 1, 1) := by decide +kernel
theorem dX4_digest_198 : decode cX4_digest 198 = .ok (.lmul, 1) := by decide +kernel
theorem dX4_digest_199 : decode cX4_digest 199 = .ok (.aload_n 0, 1) := by decide +kernel
theorem dX4_digest_200 : decode cX4_digest 200 = .ok (.iload_n 3, 1) := by decide +kernel
theorem dX4_digest_201 : decode cX4_digest 201 = .ok (.invokevirtual 145, 3) := by decide +kernel
theorem dX4_digest_204 : decode cX4_digest 204 = .ok (.i2l, 1) := by decide +kernel
theorem dX4_digest_205 : decode cX4_digest 205 = .ok (.ladd, 1) := by decide +kernel
theorem dX4_digest_206 : decode cX4_digest 206 = .ok (.lstore_n 1, 1) := by decide +kernel
theorem dX4_digest_207 : decode cX4_digest 207 = .ok (.iinc 3 1, 3) := by decide +kernel
theorem dX4_digest_210 : decode cX4_digest 210 = .ok (.goto (-21), 3) := by decide +kernel
theorem dX4_digest_213 : decode cX4_digest 213 = .ok (.iconst 0, 1) := by decide +kernel
theorem dX4_digest_214 : decode cX4_digest 214 = .ok (.istore_n 3, 1) := by decide +kernel
theorem dX4_digest_215 : decode cX4_digest 215 = .ok (.iload_n 3, 1) := by decide +kernel
theorem dX4_digest_216 : decode cX4_digest 216 = .ok (.bipush 9, 2) := by decide +kernel
theorem dX4_digest_218 : decode cX4_digest 218 = .ok (.aload_n 0, 1) := by decide +kernel
theorem dX4_digest_219 : decode cX4_digest 219 = .ok (.getfield 174, 3) := by decide +kernel
theorem dX4_digest_222 : decode cX4_digest 222 = .ok (.imul, 1) := by decide +kernel
theorem dX4_digest_223 : decode cX4_digest 223 = .ok (.if_icmp .ge 23, 3) := by decide +kernel
theorem dX4_digest_226 : decode cX4_digest 226 = .ok (.ldc2_w 231, 3) := by decide +kernel
theorem dX4_digest_229 : decode cX4_digest 229 = .ok (.lload_n 1, 1) := by decide +kernel
theorem dX4_digest_230 : decode cX4_digest 230 = .ok (.lmul, 1) := by decide +kernel
theorem dX4_digest_231 : decode cX4_digest 231 = .ok (.aload_n 0, 1) := by decide +kernel
theorem dX4_digest_232 : decode cX4_digest 232 = .ok (.getfield 53, 3) := by decide +kernel
theorem dX4_digest_235 : decode cX4_digest 235 = .ok (.iload_n 3, 1) := by decide +kernel
theorem dX4_digest_236 : decode cX4_digest 236 = .ok (.iaload, 1) := by decide +kernel
theorem dX4_digest_237 : decode cX4_digest 237 = .ok (.i2l, 1) := by decide +kernel
theorem dX4_digest_238 : decode cX4_digest 238 = .ok (.ladd, 1) := by decide +kernel
theorem dX4_digest_239 : decode cX4_digest 239 = .ok (.lstore_n 1, 1) := by decide +kernel
theorem dX4_digest_240 : decode cX4_digest 240 = .ok (.iinc 3 1, 3) := by decide +kernel
theorem dX4_digest_243 : decode cX4_digest 243 = .ok (.goto (-28), 3) := by decide +kernel
theorem dX4_digest_246 : decode cX4_digest 246 = .ok (.iconst 0, 1) := by decide +kernel
theorem dX4_digest_247 : decode cX4_digest 247 = .ok (.istore_n 3, 1) := by decide +kernel
theorem dX4_digest_248 : decode cX4_digest 248 = .ok (.iload_n 3, 1) := by decide +kernel
theorem dX4_digest_249 : decode cX4_digest 249 = .ok (.iconst 5, 1) := by decide +kernel
theorem dX4_digest_250 : decode cX4_digest 250 = .ok (.if_icmp .ge 22, 3) := by decide +kernel
theorem dX4_digest_253 : decode cX4_digest 253 = .ok (.ldc2_w 231, 3) := by decide +kernel
theorem dX4_digest_256 : decode cX4_digest 256 = .ok (.lload_n 1, 1) := by decide +kernel
theorem dX4_digest_257 : decode cX4_digest 257 = .ok (.lmul, 1) := by decide +kernel
theorem dX4_digest_258 : decode cX4_digest 258 = .ok (.aload_n 0, 1) := by decide +kernel
theorem dX4_digest_259 : decode cX4_digest 259 = .ok (.iload_n 3, 1) := by decide +kernel
theorem dX4_digest_260 : decode cX4_digest 260 = .ok (.invokevirtual 203, 3) := by decide +kernel
theorem dX4_digest_263 : decode cX4_digest 263 = .ok (.i2l, 1) := by decide +kernel
theorem dX4_digest_264 : decode cX4_digest 264 = .ok (.ladd, 1) := by decide +kernel
theorem dX4_digest_265 : decode cX4_digest 265 = .ok (.lstore_n 1, 1) := by decide +kernel
theorem dX4_digest_266 : decode cX4_digest 266 = .ok (.iinc 3 1, 3) := by decide +kernel
theorem dX4_digest_269 : decode cX4_digest 269 = .ok (.goto (-21), 3) := by decide +kernel
theorem dX4_digest_272 : decode cX4_digest 272 = .ok (.aload_n 0, 1) := by decide +kernel
theorem dX4_digest_273 : decode cX4_digest 273 = .ok (.invokevirtual 212, 3) := by decide +kernel
theorem dX4_digest_276 : decode cX4_digest 276 = .ok (.iconst (-1), 1) := by decide +kernel
theorem dX4_digest_277 : decode cX4_digest 277 = .ok (.istore_n 3, 1) := by decide +kernel
theorem dX4_digest_278 : decode cX4_digest 278 = .ok (.iload_n 3, 1) := by decide +kernel
theorem dX4_digest_279 : decode cX4_digest 279 = .ok (.bipush 41, 2) := by decide +kernel
theorem dX4_digest_281 : decode cX4_digest 281 = .ok (.if_icmp .ge 22, 3) := by decide +kernel
theorem dX4_digest_284 : decode cX4_digest 284 = .ok (.ldc2_w 231, 3) := by decide +kernel
theorem dX4_digest_287 : decode cX4_digest 287 = .ok (.lload_n 1, 1) := by decide +kernel
theorem dX4_digest_288 : decode cX4_digest 288 = .ok (.lmul, 1) := by decide +kernel
theorem dX4_digest_289 : decode cX4_digest 289 = .ok (.aload_n 0, 1) := by decide +kernel
theorem dX4_digest_290 : decode cX4_digest 290 = .ok (.iload_n 3, 1) := by decide +kernel
theorem dX4_digest_291 : decode cX4_digest 291 = .ok (.invokevirtual 215, 3) := by decide +kernel
theorem dX4_digest_294 : decode cX4_digest 294 = .ok (.i2l, 1) := by decide +kernel
theorem dX4_digest_295 : decode cX4_digest 295 = .ok (.ladd, 1) := by decide +kernel
theorem dX4_digest_296 : decode cX4_digest 296 = .ok (.lstore_n 1, 1) := by decide +kernel
theorem dX4_digest_297 : decode cX4_digest 297 = .ok (.iinc 3 1, 3) := by decide +kernel
theorem dX4_digest_300 : decode cX4_digest 300 = .ok (.goto (-22), 3) := by decide +kernel
theorem dX4_digest_303 : decode cX4_digest 303 = .ok (.ldc2_w 231, 3) := by decide +kernel
theorem dX4_digest_306 : decode cX4_digest 306 = .ok (.lload_n 1, 1) := by decide +kernel
theorem dX4_digest_307 : decode cX4_digest 307 = .ok (.lmul, 1) := by decide +kernel
theorem dX4_digest_308 : decode cX4_digest 308 = .ok (.aload_n 0, 1) := by decide +kernel
theorem dX4_digest_309 : decode cX4_digest 309 = .ok (.iconst 1, 1) := by decide +kernel
theorem dX4_digest_310 : decode cX4_digest 310 = .ok (.invokevirtual 220, 3) := by decide +kernel
theorem dX4_digest_313 : decode cX4_digest 313 = .ok (.i2l, 1) := by decide +kernel
theorem dX4_digest_314 : decode cX4_digest 314 = .ok (.ladd, 1) := by decide +kernel
theorem dX4_digest_315 : decode cX4_digest 315 = .ok (.lstore_n 1, 1) := by decide +kernel
theorem dX4_digest_316 : decode cX4_digest 316 = .ok (.ldc2_w 231, 3) := by decide +kernel
theorem dX4_digest_319 : decode cX4_digest 319 = .ok (.lload_n 1, 1) := by decide +kernel
theorem dX4_digest_320 : decode cX4_digest 320 = .ok (.lmul, 1) := by decide +kernel
theorem dX4_digest_321 : decode cX4_digest 321 = .ok (.aload_n 0, 1) := by decide +kernel
theorem dX4_digest_322 : decode cX4_digest 322 = .ok (.iconst 2, 1) := by decide +kernel
theorem dX4_digest_323 : decode cX4_digest 323 = .ok (.invokevirtual 220, 3) := by decide +kernel
theorem dX4_digest_326 : decode cX4_digest 326 = .ok (.i2l, 1) := by decide +kernel
theorem dX4_digest_327 : decode cX4_digest 327 = .ok (.ladd, 1) := by decide +kernel
theorem dX4_digest_328 : decode cX4_digest 328 = .ok (.lstore_n 1, 1) := by decide +kernel
theorem dX4_digest_329 : decode cX4_digest 329 = .ok (.ldc2_w 231, 3) := by decide +kernel
theorem dX4_digest_332 : decode cX4_digest 332 = .ok (.lload_n 1, 1) := by decide +kernel
theorem dX4_digest_333 : decode cX4_digest 333 = .ok (.lmul, 1) := by decide +kernel
theorem dX4_digest_334 : decode cX4_digest 334 = .ok (.aload_n 0, 1) := by decide +kernel
theorem dX4_digest_335 : decode cX4_digest 335 = .ok (.bipush 10, 2) := by decide +kernel
theorem dX4_digest_337 : decode cX4_digest 337 = .ok (.invokevirtual 220, 3) := by decide +kernel
theorem dX4_digest_340 : decode cX4_digest 340 = .ok (.i2l, 1) := by decide +kernel
theorem dX4_digest_341 : decode cX4_digest 341 = .ok (.ladd, 1) := by decide +kernel
theorem dX4_digest_342 : decode cX4_digest 342 = .ok (.lstore_n 1, 1) := by decide +kernel
theorem dX4_digest_343 : decode cX4_digest 343 = .ok (.iconst 0, 1) := by decide +kernel
theorem dX4_digest_344 : decode cX4_digest 344 = .ok (.istore_n 3, 1) := by decide +kernel
theorem dX4_digest_345 : decode cX4_digest 345 = .ok (.iload_n 3, 1) := by decide +kernel
theorem dX4_digest_346 : decode cX4_digest 346 = .ok (.iconst 2, 1) := by decide +kernel
theorem dX4_digest_347 : decode cX4_digest 347 = .ok (.if_icmp .ge 22, 3) := by decide +kernel
theorem dX4_digest_350 : decode cX4_digest 350 = .ok (.ldc2_w 231, 3) := by decide +kernel
theorem dX4_digest_353 : decode cX4_digest 353 = .ok (.lload_n 1, 1) := by decide +kernel
theorem dX4_digest_354 : decode cX4_digest 354 = .ok (.lmul, 1) := by decide +kernel
theorem dX4_digest_355 : decode cX4_digest 355 = .ok (.aload_n 0, 1) := by decide +kernel
theorem dX4_digest_356 : decode cX4_digest 356 = .ok (.iload_n 3, 1) := by decide +kernel
theorem dX4_digest_357 : decode cX4_digest 357 = .ok (.invokevirtual 226, 3) := by decide +kernel
theorem dX4_digest_360 : decode cX4_digest 360 = .ok (.i2l, 1) := by decide +kernel
theorem dX4_digest_361 : decode cX4_digest 361 = .ok (.ladd, 1) := by decide +kernel
theorem dX4_digest_362 : decode cX4_digest 362 = .ok (.lstore_n 1, 1) := by decide +kernel
theorem dX4_digest_363 : decode cX4_digest 363 = .ok (.iinc 3 1, 3) := by decide +kernel
theorem dX4_digest_366 : decode cX4_digest 366 = .ok (.goto (-21), 3) := by decide +kernel
theorem dX4_digest_369 : decode cX4_digest 369 = .ok (.lload_n 1, 1) := by decide +kernel
theorem dX4_digest_370 : decode cX4_digest 370 = .ok (.lreturn, 1) := by decide +kernel
theorem dJ9_min_7cf53_0 : decode cJ9_min_7cf53 0 = .ok (.iload_n 0, 1) := by decide +kernel
theorem dJ9_min_7cf53_1 : decode cJ9_min_7cf53 1 = .ok (.iload_n 1, 1) := by decide +kernel
theorem dJ9_min_7cf53_2 : decode cJ9_min_7cf53 2 = .ok (.if_icmp .gt 7, 3) := by decide +kernel
theorem dJ9_min_7cf53_5 : decode cJ9_min_7cf53 5 = .ok (.iload_n 0, 1) := by decide +kernel
theorem dJ9_min_7cf53_6 : decode cJ9_min_7cf53 6 = .ok (.goto 4, 3) := by decide +kernel
theorem dJ9_min_7cf53_9 : decode cJ9_min_7cf53 9 = .ok (.iload_n 1, 1) := by decide +kernel
theorem dJ9_min_7cf53_10 : decode cJ9_min_7cf53 10 = .ok (.ireturn, 1) := by decide +kernel
theorem dJ7_fill_53178_0 : decode cJ7_fill_53178 0 = .ok (.iconst 0, 1) := by decide +kernel
theorem dJ7_fill_53178_1 : decode cJ7_fill_53178 1 = .ok (.istore_n 2, 1) := by decide +kernel
theorem dJ7_fill_53178_2 : decode cJ7_fill_53178 2 = .ok (.aload_n 0, 1) := by decide +kernel
theorem dJ7_fill_53178_3 : decode cJ7_fill_53178 3 = .ok (.arraylength, 1) := by decide +kernel
theorem dJ7_fill_53178_4 : decode cJ7_fill_53178 4 = .ok (.istore_n 3, 1) := by decide +kernel
theorem dJ7_fill_53178_5 : decode cJ7_fill_53178 5 = .ok (.iload_n 2, 1) := by decide +kernel
theorem dJ7_fill_53178_6 : decode cJ7_fill_53178 6 = .ok (.iload_n 3, 1) := by decide +kernel
theorem dJ7_fill_53178_7 : decode cJ7_fill_53178 7 = .ok (.if_icmp .ge 13, 3) := by decide +kernel
theorem dJ7_fill_53178_10 : decode cJ7_fill_53178 10 = .ok (.aload_n 0, 1) := by decide +kernel
theorem dJ7_fill_53178_11 : decode cJ7_fill_53178 11 = .ok (.iload_n 2, 1) := by decide +kernel
theorem dJ7_fill_53178_12 : decode cJ7_fill_53178 12 = .ok (.iload_n 1, 1) := by decide +kernel
theorem dJ7_fill_53178_13 : decode cJ7_fill_53178 13 = .ok (.iastore, 1) := by decide +kernel
theorem dJ7_fill_53178_14 : decode cJ7_fill_53178 14 = .ok (.iinc 2 1, 3) := by decide +kernel
theorem dJ7_fill_53178_17 : decode cJ7_fill_53178 17 = .ok (.goto (-12), 3) := by decide +kernel
theorem dJ7_fill_53178_20 : decode cJ7_fill_53178 20 = .ok (.return_, 1) := by decide +kernel
