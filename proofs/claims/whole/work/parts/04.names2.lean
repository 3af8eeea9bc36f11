theorem dX2_readSegment_25 : decode cX2_readSegment 25 = .ok (.putfield 52, 3) := by decide +kernel
theorem dX2_readSegment_28 : decode cX2_readSegment 28 = .ok (.aload_n 0, 1) := by decide +kernel
theorem dX2_readSegment_29 : decode cX2_readSegment 29 = .ok (.iconst 0, 1) := by decide +kernel
theorem dX2_readSegment_30 : decode cX2_readSegment 30 = .ok (.putfield 55, 3) := by decide +kernel
theorem dX2_readSegment_33 : decode cX2_readSegment 33 = .ok (.aload_n 0, 1) := by decide +kernel
theorem dX2_readSegment_34 : decode cX2_readSegment 34 = .ok (.iconst 0, 1) := by decide +kernel
theorem dX2_readSegment_35 : decode cX2_readSegment 35 = .ok (.putfield 58, 3) := by decide +kernel
theorem dX2_readSegment_38 : decode cX2_readSegment 38 = .ok (.iload_n 1, 1) := by decide +kernel
theorem dX2_readSegment_39 : decode cX2_readSegment 39 = .ok (.ifCond .ne 5, 3) := by decide +kernel
theorem dX2_readSegment_42 : decode cX2_readSegment 42 = .ok (.iconst 1, 1) := by decide +kernel
theorem dX2_readSegment_43 : decode cX2_readSegment 43 = .ok (.ireturn, 1) := by decide +kernel
theorem dX2_readSegment_44 : decode cX2_readSegment 44 = .ok (.iload_n 1, 1) := by decide +kernel
theorem dX2_readSegment_45 : decode cX2_readSegment 45 = .ok (.iconst 1, 1) := by decide +kernel
theorem dX2_readSegment_46 : decode cX2_readSegment 46 = .ok (.if_icmp .eq 10, 3) := by decide +kernel
theorem dX2_readSegment_49 : decode cX2_readSegment 49 = .ok (.iload_n 1, 1) := by decide +kernel
theorem dX2_readSegment_50 : decode cX2_readSegment 50 = .ok (.iconst 2, 1) := by decide +kernel
theorem dX2_readSegment_51 : decode cX2_readSegment 51 = .ok (.if_icmp .eq 5, 3) := by decide +kernel
theorem dX2_readSegment_54 : decode cX2_readSegment 54 = .ok (.iconst 0, 1) := by decide +kernel
theorem dX2_readSegment_55 : decode cX2_readSegment 55 = .ok (.ireturn, 1) := by decide +kernel
theorem dX2_readSegment_56 : decode cX2_readSegment 56 = .ok (.aload_n 0, 1) := by decide +kernel
theorem dX2_readSegment_57 : decode cX2_readSegment 57 = .ok (.getfield 35, 3) := by decide +kernel
theorem dX2_readSegment_60 : decode cX2_readSegment 60 = .ok (.invokevirtual 105, 3) := by decide +kernel
theorem dX2_readSegment_63 : decode cX2_readSegment 63 = .ok (.istore_n 2, 1) := by decide +kernel
theorem dX2_readSegment_64 : decode cX2_readSegment 64 = .ok (.aload_n 0, 1) := by decide +kernel
theorem dX2_readSegment_65 : decode cX2_readSegment 65 = .ok (.getfield 35, 3) := by decide +kernel
theorem dX2_readSegment_68 : decode cX2_readSegment 68 = .ok (.invokevirtual 105, 3) := by decide +kernel
theorem dX2_readSegment_71 : decode cX2_readSegment 71 = .ok (.istore_n 3, 1) := by decide +kernel
theorem dX2_readSegment_72 : decode cX2_readSegment 72 = .ok (.iload_n 2, 1) := by decide +kernel
theorem dX2_readSegment_73 : decode cX2_readSegment 73 = .ok (.iconst (-1), 1) := by decide +kernel
theorem dX2_readSegment_74 : decode cX2_readSegment 74 = .ok (.if_icmp .eq 25, 3) := by decide +kernel
theorem dX2_readSegment_77 : decode cX2_readSegment 77 = .ok (.iload_n 3, 1) := by decide +kernel
theorem dX2_readSegment_78 : decode cX2_readSegment 78 = .ok (.iconst (-1), 1) := by decide +kernel
theorem dX2_readSegment_79 : decode cX2_readSegment 79 = .ok (.if_icmp .eq 20, 3) := by decide +kernel
theorem dX2_readSegment_82 : decode cX2_readSegment 82 = .ok (.iload_n 3, 1) := by decide +kernel
theorem dX2_readSegment_83 : decode cX2_readSegment 83 = .ok (.i2l, 1) := by decide +kernel
theorem dX2_readSegment_84 : decode cX2_readSegment 84 = .ok (.iload_n 2, 1) := by decide +kernel
theorem dX2_readSegment_85 : decode cX2_readSegment 85 = .ok (.i2l, 1) := by decide +kernel
theorem dX2_readSegment_86 : decode cX2_readSegment 86 = .ok (.ladd, 1) := by decide +kernel
theorem dX2_readSegment_87 : decode cX2_readSegment 87 = .ok (.aload_n 0, 1) := by decide +kernel
theorem dX2_readSegment_88 : decode cX2_readSegment 88 = .ok (.getfield 52, 3) := by decide +kernel
theorem dX2_readSegment_91 : decode cX2_readSegment 91 = .ok (.invokevirtual 92, 3) := by decide +kernel
theorem dX2_readSegment_94 : decode cX2_readSegment 94 = .ok (.i2l, 1) := by decide +kernel
theorem dX2_readSegment_95 : decode cX2_readSegment 95 = .ok (.lcmp, 1) := by decide +kernel
theorem dX2_readSegment_96 : decode cX2_readSegment 96 = .ok (.ifCond .le 5, 3) := by decide +kernel
theorem dX2_readSegment_99 : decode cX2_readSegment 99 = .ok (.iconst 0, 1) := by decide +kernel
theorem dX2_readSegment_100 : decode cX2_readSegment 100 = .ok (.ireturn, 1) := by decide +kernel
theorem dX2_readSegment_101 : decode cX2_readSegment 101 = .ok (.aload_n 0, 1) := by decide +kernel
theorem dX2_readSegment_102 : decode cX2_readSegment 102 = .ok (.iload_n 3, 1) := by decide +kernel
theorem dX2_readSegment_103 : decode cX2_readSegment 103 = .ok (.putfield 55, 3) := by decide +kernel
theorem dX2_readSegment_106 : decode cX2_readSegment 106 = .ok (.aload_n 0, 1) := by decide +kernel
theorem dX2_readSegment_107 : decode cX2_readSegment 107 = .ok (.iload_n 2, 1) := by decide +kernel
theorem dX2_readSegment_108 : decode cX2_readSegment 108 = .ok (.putfield 58, 3) := by decide +kernel
theorem dX2_readSegment_111 : decode cX2_readSegment 111 = .ok (.iconst 1, 1) := by decide +kernel
theorem dX2_readSegment_112 : decode cX2_readSegment 112 = .ok (.ireturn, 1) := by decide +kernel
set_option maxRecDepth 20000 in
theorem ggX2_readParts_X5_nextByte : GoodIn wsX2_readParts wsX5_nextByte := goodIn_r _ [9, 10, 11, 12, 52, 53, 54, 55, 56] (by decide +kernel) (by decide +kernel)
set_option maxRecDepth 20000 in
theorem gX2_readParts_X5_nextByte : GoodIn wsX2_readParts (wsV RX2 99 RX5 yX5_nextByte wsX5_nextByte) := goodIn_app (goodIn_of _ (by decide +kernel)) ggX2_readParts_X5_nextByte
set_option maxRecDepth 20000 in
theorem ggX2_readParts_X5_nextInteger : GoodIn wsX2_readParts wsX5_nextInteger := goodIn_r _ [16, 17, 18, 19, 6, 7, 8, 9, 10, 11, 12, 52, 53, 54, 55, 56] (by decide +kernel) (by decide +kernel)
set_option maxRecDepth 20000 in
theorem gX2_readParts_X5_nextInteger : GoodIn wsX2_readParts (wsV RX2 105 RX5 yX5_nextInteger wsX5_nextInteger) := goodIn_app (goodIn_of _ (by decide +kernel)) ggX2_readParts_X5_nextInteger
set_option maxRecDepth 20000 in
theorem ggX2_readParts_X5_place : GoodIn wsX2_readParts wsX5_place := goodIn_r _ [23, 10, 52, 53, 54] (by decide +kernel) (by decide +kernel)
set_option maxRecDepth 20000 in
theorem gX2_readParts_X5_place : GoodIn wsX2_readParts (wsV RX2 108 RX5 yX5_place wsX5_place) := goodIn_app (goodIn_of _ (by decide +kernel)) ggX2_readParts_X5_place
set_option maxRecDepth 20000 in
theorem ggX2_readParts_X5_left : GoodIn wsX2_readParts wsX5_left := goodIn_r _ [27, 11, 10, 52, 53, 54] (by decide +kernel) (by decide +kernel)
set_option maxRecDepth 20000 in
theorem gX2_readParts_X5_left : GoodIn wsX2_readParts (wsV RX2 81 RX5 yX5_left wsX5_left) := goodIn_app (goodIn_of _ (by decide +kernel)) ggX2_readParts_X5_left
set_option maxRecDepth 20000 in
theorem ggX2_readParts_X5_open : GoodIn wsX2_readParts wsX5_open := goodIn_r _ [31, 12, 32, 33, 34, 35, 36, 37, 38, 10, 11, 52, 53, 54, 55, 56] (by decide +kernel) (by decide +kernel)
set_option maxRecDepth 20000 in
theorem gX2_readParts_X5_open : GoodIn wsX2_readParts (wsV RX2 73 RX5 yX5_open wsX5_open) := goodIn_app (goodIn_of _ (by decide +kernel)) ggX2_readParts_X5_open
theorem dX2_readParts_0 : decode cX2_readParts 0 = .ok (.aload_n 0, 1) := by decide +kernel
theorem dX2_readParts_1 : decode cX2_readParts 1 = .ok (.getfield 35, 3) := by decide +kernel
theorem dX2_readParts_4 : decode cX2_readParts 4 = .ok (.invokevirtual 99, 3) := by decide +kernel
theorem dX2_readParts_7 : decode cX2_readParts 7 = .ok (.ifCond .eq 5, 3) := by decide +kernel
theorem dX2_readParts_10 : decode cX2_readParts 10 = .ok (.iconst 0, 1) := by decide +kernel
theorem dX2_readParts_11 : decode cX2_readParts 11 = .ok (.ireturn, 1) := by decide +kernel
theorem dX2_readParts_12 : decode cX2_readParts 12 = .ok (.aload_n 0, 1) := by decide +kernel
theorem dX2_readParts_13 : decode cX2_readParts 13 = .ok (.getfield 35, 3) := by decide +kernel
theorem dX2_readParts_16 : decode cX2_readParts 16 = .ok (.invokevirtual 105, 3) := by decide +kernel
theorem dX2_readParts_19 : decode cX2_readParts 19 = .ok (.istore_n 3, 1) := by decide +kernel
theorem dX2_readParts_20 : decode cX2_readParts 20 = .ok (.aload_n 0, 1) := by decide +kernel
theorem dX2_readParts_21 : decode cX2_readParts 21 = .ok (.getfield 35, 3) := by decide +kernel
theorem dX2_readParts_24 : decode cX2_readParts 24 = .ok (.invokevirtual 105, 3) := by decide +kernel
theorem dX2_readParts_27 : decode cX2_readParts 27 = .ok (.istore 4, 2) := by decide +kernel
theorem dX2_readParts_29 : decode cX2_readParts 29 = .ok (.aload_n 0, 1) := by decide +kernel
theorem dX2_readParts_30 : decode cX2_readParts 30 = .ok (.getfield 35, 3) := by decide +kernel
theorem dX2_readParts_33 : decode cX2_readParts 33 = .ok (.invokevirtual 105, 3) := by decide +kernel
theorem dX2_readParts_36 : decode cX2_readParts 36 = .ok (.istore 5, 2) := by decide +kernel
theorem dX2_readParts_38 : decode cX2_readParts 38 = .ok (.iload_n 3, 1) := by decide +kernel
theorem dX2_readParts_39 : decode cX2_readParts 39 = .ok (.iconst (-1), 1) := by decide +kernel
theorem dX2_readParts_40 : decode cX2_readParts 40 = .ok (.if_icmp .eq 15, 3) := by decide +kernel
theorem dX2_readParts_43 : decode cX2_readParts 43 = .ok (.iload 4, 2) := by decide +kernel
theorem dX2_readParts_45 : decode cX2_readParts 45 = .ok (.iconst (-1), 1) := by decide +kernel
theorem dX2_readParts_46 : decode cX2_readParts 46 = .ok (.if_icmp .eq 9, 3) := by decide +kernel
theorem dX2_readParts_49 : decode cX2_readParts 49 = .ok (.iload 5, 2) := by decide +kernel
theorem dX2_readParts_51 : decode cX2_readParts 51 = .ok (.iconst (-1), 1) := by decide +kernel
theorem dX2_readParts_52 : decode cX2_readParts 52 = .ok (.if_icmp .ne 5, 3) := by decide +kernel
theorem dX2_readParts_55 : decode cX2_readParts 55 = .ok (.iconst 0, 1) := by decide +kernel
theorem dX2_readParts_56 : decode cX2_readParts 56 = .ok (.ireturn, 1) := by decide +kernel
theorem dX2_readParts_57 : decode cX2_readParts 57 = .ok (.iload_n 3, 1) := by decide +kernel
theorem dX2_readParts_58 : decode cX2_readParts 58 = .ok (.i2l, 1) := by decide +kernel
theorem dX2_readParts_59 : decode cX2_readParts 59 = .ok (.iload 4, 2) := by decide +kernel
theorem dX2_readParts_61 : decode cX2_readParts 61 = .ok (.i2l, 1) := by decide +kernel
theorem dX2_readParts_62 : decode cX2_readParts 62 = .ok (.ladd, 1) := by decide +kernel
theorem dX2_readParts_63 : decode cX2_readParts 63 = .ok (.iload 5, 2) := by decide +kernel
theorem dX2_readParts_65 : decode cX2_readParts 65 = .ok (.i2l, 1) := by decide +kernel
theorem dX2_readParts_66 : decode cX2_readParts 66 = .ok (.ladd, 1) := by decide +kernel
theorem dX2_readParts_67 : decode cX2_readParts 67 = .ok (.lstore 6, 2) := by decide +kernel
theorem dX2_readParts_69 : decode cX2_readParts 69 = .ok (.lload 6, 2) := by decide +kernel
theorem dX2_readParts_71 : decode cX2_readParts 71 = .ok (.aload_n 0, 1) := by decide +kernel
theorem dX2_readParts_72 : decode cX2_readParts 72 = .ok (.getfield 35, 3) := by decide +kernel
theorem dX2_readParts_75 : decode cX2_readParts 75 = .ok (.invokevirtual 108, 3) := by decide +kernel
theorem dX2_readParts_78 : decode cX2_readParts 78 = .ok (.i2l, 1) := by decide +kernel
theorem dX2_readParts_79 : decode cX2_readParts 79 = .ok (.ladd, 1) := by decide +kernel
theorem dX2_readParts_80 : decode cX2_readParts 80 = .ok (.iload_n 1, 1) := by decide +kernel
theorem dX2_readParts_81 : decode cX2_readParts 81 = .ok (.i2l, 1) := by decide +kernel
theorem dX2_readParts_82 : decode cX2_readParts 82 = .ok (.lsub, 1) := by decide +kernel
theorem dX2_readParts_83 : decode cX2_readParts 83 = .ok (.iload_n 2, 1) := by decide +kernel
theorem dX2_readParts_84 : decode cX2_readParts 84 = .ok (.i2l, 1) := by decide +kernel
theorem dX2_readParts_85 : decode cX2_readParts 85 = .ok (.lcmp, 1) := by decide +kernel
theorem dX2_readParts_86 : decode cX2_readParts 86 = .ok (.ifCond .ne 17, 3) := by decide +kernel
theorem dX2_readParts_89 : decode cX2_readParts 89 = .ok (.lload 6, 2) := by decide +kernel
theorem dX2_readParts_91 : decode cX2_readParts 91 = .ok (.aload_n 0, 1) := by decide +kernel
theorem dX2_readParts_92 : decode cX2_readParts 92 = .ok (.getfield 35, 3) := by decide +kernel
theorem dX2_readParts_95 : decode cX2_readParts 95 = .ok (.invokevirtual 81, 3) := by decide +kernel
theorem dX2_readParts_98 : decode cX2_readParts 98 = .ok (.i2l, 1) := by decide +kernel
theorem dX2_readParts_99 : decode cX2_readParts 99 = .ok (.lcmp, 1) := by decide +kernel
theorem dX2_readParts_100 : decode cX2_readParts 100 = .ok (.ifCond .le 5, 3) := by decide +kernel
theorem dX2_readParts_103 : decode cX2_readParts 103 = .ok (.iconst 0, 1) := by decide +kernel
theorem dX2_readParts_104 : decode cX2_readParts 104 = .ok (.ireturn, 1) := by decide +kernel
theorem dX2_readParts_105 : decode cX2_readParts 105 = .ok (.aload_n 0, 1) := by decide +kernel
theorem dX2_readParts_106 : decode cX2_readParts 106 = .ok (.getfield 35, 3) := by decide +kernel
theorem dX2_readParts_109 : decode cX2_readParts 109 = .ok (.invokevirtual 108, 3) := by decide +kernel
theorem dX2_readParts_112 : decode cX2_readParts 112 = .ok (.istore 8, 2) := by decide +kernel
theorem dX2_readParts_114 : decode cX2_readParts 114 = .ok (.aload_n 0, 1) := by decide +kernel
theorem dX2_readParts_115 : decode cX2_readParts 115 = .ok (.getfield 39, 3) := by decide +kernel
theorem dX2_readParts_118 : decode cX2_readParts 118 = .ok (.iload 8, 2) := by decide +kernel
theorem dX2_readParts_120 : decode cX2_readParts 120 = .ok (.iload_n 3, 1) := by decide +kernel
theorem dX2_readParts_121 : decode cX2_readParts 121 = .ok (.invokevirtual 73, 3) := by decide +kernel
theorem dX2_readParts_124 : decode cX2_readParts 124 = .ok (.aload_n 0, 1) := by decide +kernel
theorem dX2_readParts_125 : decode cX2_readParts 125 = .ok (.getfield 42, 3) := by decide +kernel
theorem dX2_readParts_128 : decode cX2_readParts 128 = .ok (.iload 8, 2) := by decide +kernel
theorem dX2_readParts_130 : decode cX2_readParts 130 = .ok (.iload_n 3, 1) := by decide +kernel
theorem dX2_readParts_131 : decode cX2_readParts 131 = .ok (.iadd, 1) := by decide +kernel
theorem dX2_readParts_132 : decode cX2_readParts 132 = .ok (.iload 4, 2) := by decide +kernel
theorem dX2_readParts_134 : decode cX2_readParts 134 = .ok (.invokevirtual 73, 3) := by decide +kernel
theorem dX2_readParts_137 : decode cX2_readParts 137 = .ok (.aload_n 0, 1) := by decide +kernel
theorem dX2_readParts_138 : decode cX2_readParts 138 = .ok (.getfield 45, 3) := by decide +kernel
theorem dX2_readParts_141 : decode cX2_readParts 141 = .ok (.iload 8, 2) := by decide +kernel
theorem dX2_readParts_143 : decode cX2_readParts 143 = .ok (.iload_n 3, 1) := by decide +kernel
theorem dX2_readParts_144 : decode cX2_readParts 144 = .ok (.iadd, 1) := by decide +kernel
theorem dX2_readParts_145 : decode cX2_readParts 145 = .ok (.iload 4, 2) := by decide +kernel
theorem dX2_readParts_147 : decode cX2_readParts 147 = .ok (.iadd, 1) := by decide +kernel
theorem dX2_readParts_148 : decode cX2_readParts 148 = .ok (.iload 5, 2) := by decide +kernel
theorem dX2_readParts_150 : decode cX2_readParts 150 = .ok (.invokevirtual 73, 3) := by decide +kernel
theorem dX2_readParts_153 : decode cX2_readParts 153 = .ok (.aload_n 0, 1) := by decide +kernel
theorem dX2_readParts_154 : decode cX2_readParts 154 = .ok (.getfield 35, 3) := by decide +kernel
theorem dX2_readParts_157 : decode cX2_readParts 157 = .ok (.iload 8, 2) := by decide +kernel
theorem dX2_readParts_159 : decode cX2_readParts 159 = .ok (.lload 6, 2) := by decide +kernel
theorem dX2_readParts_161 : decode cX2_readParts 161 = .ok (.l2i, 1) := by decide +kernel
theorem dX2_readParts_162 : decode cX2_readParts 162 = .ok (.iadd, 1) := by decide +kernel
theorem dX2_readParts_163 : decode cX2_readParts 163 = .ok (.sipush 1000, 3) := by decide +kernel
theorem dX2_readParts_166 : decode cX2_readParts 166 = .ok (.invokevirtual 73, 3) := by decide +kernel
theorem dX2_readParts_169 : decode cX2_readParts 169 = .ok (.iconst 1, 1) := by decide +kernel
theorem dX2_readParts_170 : decode cX2_readParts 170 = .ok (.ireturn, 1) := by decide +kernel
set_option maxRecDepth 20000 in
theorem ggX2_makeWindow_X0_clear : GoodIn wsX2_makeWindow wsX0_clear := goodIn_r _ [11, 12, 13, 14, 15, 16, 17, 18, 129, 130, 131] (by decide +kernel) (by decide +kernel)
set_option maxRecDepth 20000 in
theorem gX2_makeWindow_X0_clear : GoodIn wsX2_makeWindow (wsV RX2 70 RX0 yX0_clear wsX0_clear) := goodIn_app (goodIn_of _ (by decide +kernel)) ggX2_makeWindow_X0_clear
set_option maxRecDepth 20000 in
theorem ggX2_makeWindow_X5_left : GoodIn wsX2_makeWindow wsX5_left := goodIn_r _ [23, 24, 25, 132, 133, 134] (by decide +kernel) (by decide +kernel)
set_option maxRecDepth 20000 in
theorem gX2_makeWindow_X5_left : GoodIn wsX2_makeWindow (wsV RX2 81 RX5 yX5_left wsX5_left) := goodIn_app (goodIn_of _ (by decide +kernel)) ggX2_makeWindow_X5_left
set_option maxRecDepth 20000 in
theorem ggX2_makeWindow_X5_nextByte : GoodIn wsX2_makeWindow wsX5_nextByte := goodIn_r _ [29, 25, 24, 30, 132, 133, 134, 135, 136] (by decide +kernel) (by decide +kernel)
set_option maxRecDepth 20000 in
theorem gX2_makeWindow_X5_nextByte : GoodIn wsX2_makeWindow (wsV RX2 99 RX5 yX5_nextByte wsX5_nextByte) := goodIn_app (goodIn_of _ (by decide +kernel)) ggX2_makeWindow_X5_nextByte
set_option maxRecDepth 20000 in
theorem ggX2_makeWindow_X2_follow : GoodIn wsX2_makeWindow wsX2_follow := goodIn_r _ [35, 2, 4, 3, 36, 37, 38, 39, 40, 41, 42, 43, 44, 45, 46, 47, 48, 49, 50, 51, 22, 52, 53, 54, 55, 27, 28, 29, 25, 24, 30, 56, 57, 58, 59, 60, 61, 62, 63, 64, 34, 65, 5, 19, 20, 21, 23, 26, 66, 67, 68, 69, 70, 71, 72, 73, 74, 75, 76, 77, 78, 6, 79, 1, 80, 81, 82, 10, 83, 13, 84, 85, 86, 87, 88, 89, 90, 91, 92, 93, 12, 94, 95, 96, 97, 98, 99, 100, 101, 102, 103, 104, 105, 106, 107, 108, 109, 110, 111, 14, 112, 113, 114, 115, 116, 117, 118, 119, 120, 121, 122, 123, 124, 125, 126, 127, 128, 132, 133, 134, 135, 136, 129, 130, 131] (by decide +kernel) (by decide +kernel)
set_option maxRecDepth 20000 in
theorem gX2_makeWindow_X2_follow : GoodIn wsX2_makeWindow (wsV RX2 115 RX2 yX2_follow wsX2_follow) := goodIn_app (goodIn_of _ (by decide +kernel)) ggX2_makeWindow_X2_follow
set_option maxRecDepth 20000 in
theorem ggX2_makeWindow_X1_partOf : GoodIn wsX2_makeWindow wsX1_partOf := goodIn_r _ [39, 40, 41, 38, 42, 43, 44, 45, 46, 47, 48] (by decide +kernel) (by decide +kernel)
set_option maxRecDepth 20000 in
theorem gX2_makeWindow_X1_partOf : GoodIn wsX2_makeWindow (va_wsS RX2 118 yX1_partOf wsX1_partOf) := goodIn_app (goodIn_of _ (by decide +kernel)) ggX2_makeWindow_X1_partOf
set_option maxRecDepth 20000 in
theorem ggX2_makeWindow_X6_count : GoodIn wsX2_makeWindow wsX6_count := goodIn_r _ [60, 61, 135, 136] (by decide +kernel) (by decide +kernel)
set_option maxRecDepth 20000 in
theorem gX2_makeWindow_X6_count : GoodIn wsX2_makeWindow (wsV RX2 92 RX6 yX6_count wsX6_count) := goodIn_app (goodIn_of _ (by decide +kernel)) ggX2_makeWindow_X6_count
theorem dX2_makeWindow_0 : decode cX2_makeWindow 0 = .ok (.aload_n 0, 1) := by decide +kernel
theorem dX2_makeWindow_1 : decode cX2_makeWindow 1 = .ok (.getfield 26, 3) := by decide +kernel
theorem dX2_makeWindow_4 : decode cX2_makeWindow 4 = .ok (.invokevirtual 70, 3) := by decide +kernel
theorem dX2_makeWindow_7 : decode cX2_makeWindow 7 = .ok (.iconst 0, 1) := by decide +kernel
theorem dX2_makeWindow_8 : decode cX2_makeWindow 8 = .ok (.istore_n 1, 1) := by decide +kernel
theorem dX2_makeWindow_9 : decode cX2_makeWindow 9 = .ok (.iload_n 1, 1) := by decide +kernel
theorem dX2_makeWindow_10 : decode cX2_makeWindow 10 = .ok (.sipush 1000, 3) := by decide +kernel
theorem dX2_makeWindow_13 : decode cX2_makeWindow 13 = .ok (.if_icmp .ge 57, 3) := by decide +kernel
theorem dX2_makeWindow_16 : decode cX2_makeWindow 16 = .ok (.aload_n 0, 1) := by decide +kernel
theorem dX2_makeWindow_17 : decode cX2_makeWindow 17 = .ok (.getfield 42, 3) := by decide +kernel
theorem dX2_makeWindow_20 : decode cX2_makeWindow 20 = .ok (.invokevirtual 81, 3) := by decide +kernel
theorem dX2_makeWindow_23 : decode cX2_makeWindow 23 = .ok (.ifCond .le 47, 3) := by decide +kernel
theorem dX2_makeWindow_26 : decode cX2_makeWindow 26 = .ok (.aload_n 0, 1) := by decide +kernel
theorem dX2_makeWindow_27 : decode cX2_makeWindow 27 = .ok (.getfield 42, 3) := by decide +kernel
theorem dX2_makeWindow_30 : decode cX2_makeWindow 30 = .ok (.invokevirtual 99, 3) := by decide +kernel
theorem dX2_makeWindow_33 : decode cX2_makeWindow 33 = .ok (.istore_n 2, 1) := by decide +kernel
theorem dX2_makeWindow_34 : decode cX2_makeWindow 34 = .ok (.aload_n 0, 1) := by decide +kernel
theorem dX2_makeWindow_35 : decode cX2_makeWindow 35 = .ok (.iload_n 2, 1) := by decide +kernel
theorem dX2_makeWindow_36 : decode cX2_makeWindow 36 = .ok (.iconst 0, 1) := by decide +kernel
theorem dX2_makeWindow_37 : decode cX2_makeWindow 37 = .ok (.invokevirtual 115, 3) := by decide +kernel
theorem dX2_makeWindow_40 : decode cX2_makeWindow 40 = .ok (.ifCond .ne 5, 3) := by decide +kernel
theorem dX2_makeWindow_43 : decode cX2_makeWindow 43 = .ok (.iconst 0, 1) := by decide +kernel
theorem dX2_makeWindow_44 : decode cX2_makeWindow 44 = .ok (.ireturn, 1) := by decide +kernel
theorem dX2_makeWindow_45 : decode cX2_makeWindow 45 = .ok (.iload_n 2, 1) := by decide +kernel
theorem dX2_makeWindow_46 : decode cX2_makeWindow 46 = .ok (.iconst 3, 1) := by decide +kernel
theorem dX2_makeWindow_47 : decode cX2_makeWindow 47 = .ok (.invokestatic 118, 3) := by decide +kernel
theorem dX2_makeWindow_50 : decode cX2_makeWindow 50 = .ok (.ifCond .eq 14, 3) := by decide +kernel
theorem dX2_makeWindow_53 : decode cX2_makeWindow 53 = .ok (.aload_n 0, 1) := by decide +kernel
theorem dX2_makeWindow_54 : decode cX2_makeWindow 54 = .ok (.iload_n 2, 1) := by decide +kernel
theorem dX2_makeWindow_55 : decode cX2_makeWindow 55 = .ok (.iconst 3, 1) := by decide +kernel
theorem dX2_makeWindow_56 : decode cX2_makeWindow 56 = .ok (.invokevirtual 115, 3) := by decide +kernel
theorem dX2_makeWindow_59 : decode cX2_makeWindow 59 = .ok (.ifCond .ne 5, 3) := by decide +kernel
theorem dX2_makeWindow_62 : decode cX2_makeWindow 62 = .ok (.iconst 0, 1) := by decide +kernel
theorem dX2_makeWindow_63 : decode cX2_makeWindow 63 = .ok (.ireturn, 1) := by decide +kernel
theorem dX2_makeWindow_64 : decode cX2_makeWindow 64 = .ok (.iinc 1 1, 3) := by decide +kernel
theorem dX2_makeWindow_67 : decode cX2_makeWindow 67 = .ok (.goto (-58), 3) := by decide +kernel
theorem dX2_makeWindow_70 : decode cX2_makeWindow 70 = .ok (.aload_n 0, 1) := by decide +kernel
theorem dX2_makeWindow_71 : decode cX2_makeWindow 71 = .ok (.getfield 20, 3) := by decide +kernel
theorem dX2_makeWindow_74 : decode cX2_makeWindow 74 = .ok (.invokevirtual 92, 3) := by decide +kernel
theorem dX2_makeWindow_77 : decode cX2_makeWindow 77 = .ok (.aload_n 0, 1) := by decide +kernel
theorem dX2_makeWindow_78 : decode cX2_makeWindow 78 = .ok (.getfield 64, 3) := by decide +kernel
theorem dX2_makeWindow_81 : decode cX2_makeWindow 81 = .ok (.if_icmp .ne 27, 3) := by decide +kernel
theorem dX2_makeWindow_84 : decode cX2_makeWindow 84 = .ok (.aload_n 0, 1) := by decide +kernel
theorem dX2_makeWindow_85 : decode cX2_makeWindow 85 = .ok (.getfield 39, 3) := by decide +kernel
theorem dX2_makeWindow_88 : decode cX2_makeWindow 88 = .ok (.invokevirtual 81, 3) := by decide +kernel
theorem dX2_makeWindow_91 : decode cX2_makeWindow 91 = .ok (.ifCond .ne 17, 3) := by decide +kernel
theorem dX2_makeWindow_94 : decode cX2_makeWindow 94 = .ok (.aload_n 0, 1) := by decide +kernel
theorem dX2_makeWindow_95 : decode cX2_makeWindow 95 = .ok (.getfield 45, 3) := by decide +kernel
theorem dX2_makeWindow_98 : decode cX2_makeWindow 98 = .ok (.invokevirtual 81, 3) := by decide +kernel
theorem dX2_makeWindow_101 : decode cX2_makeWindow 101 = .ok (.ifCond .ne 7, 3) := by decide +kernel
theorem dX2_makeWindow_104 : decode cX2_makeWindow 104 = .ok (.iconst 1, 1) := by decide +kernel
theorem dX2_makeWindow_105 : decode cX2_makeWindow 105 = .ok (.goto 4, 3) := by decide +kernel
theorem dX2_makeWindow_108 : decode cX2_makeWindow 108 = .ok (.iconst 0, 1) := by decide +kernel
theorem dX2_makeWindow_109 : decode cX2_makeWindow 109 = .ok (.ireturn, 1) := by decide +kernel
set_option maxRecDepth 20000 in
theorem ggX2_follow_X1_partOf : GoodIn wsX2_follow wsX1_partOf := goodIn_r _ [7, 8, 9, 6, 10, 11, 12, 13, 14, 15, 16] (by decide +kernel) (by decide +kernel)
set_option maxRecDepth 20000 in
theorem gX2_follow_X1_partOf : GoodIn wsX2_follow (va_wsS RX2 118 yX1_partOf wsX1_partOf) := goodIn_app (goodIn_of _ (by decide +kernel)) ggX2_follow_X1_partOf
set_option maxRecDepth 20000 in
theorem ggX2_follow_X5_nextInteger : GoodIn wsX2_follow wsX5_nextInteger := goodIn_r _ [21, 22, 23, 24, 25, 26, 20, 27, 28, 29, 30, 117, 118, 119, 120, 121] (by decide +kernel) (by decide +kernel)
set_option maxRecDepth 20000 in
theorem gX2_follow_X5_nextInteger : GoodIn wsX2_follow (wsV RX2 105 RX5 yX5_nextInteger wsX5_nextInteger) := goodIn_app (goodIn_of _ (by decide +kernel)) ggX2_follow_X5_nextInteger
set_option maxRecDepth 20000 in
theorem ggX2_follow_X6_count : GoodIn wsX2_follow wsX6_count := goodIn_r _ [35, 36, 120, 121] (by decide +kernel) (by decide +kernel)
set_option maxRecDepth 20000 in
theorem gX2_follow_X6_count : GoodIn wsX2_follow (wsV RX2 92 RX6 yX6_count wsX6_count) := goodIn_app (goodIn_of _ (by decide +kernel)) ggX2_follow_X6_count
set_option maxRecDepth 20000 in
theorem ggX2_follow_X2_add : GoodIn wsX2_follow wsX2_add := goodIn_r _ [41, 42, 3, 43, 44, 45, 20, 46, 29, 28, 47, 25, 26, 27, 30, 48, 49, 50, 34, 51, 36, 52, 104, 105, 106, 107, 108, 109, 110, 111, 112, 113, 114, 115, 116, 117, 118, 119, 120, 121] (by decide +kernel) (by decide +kernel)
set_option maxRecDepth 20000 in
theorem gX2_follow_X2_add : GoodIn wsX2_follow (wsV RX2 124 RX2 yX2_add wsX2_add) := goodIn_app (goodIn_of _ (by decide +kernel)) ggX2_follow_X2_add
set_option maxRecDepth 20000 in
theorem ggX2_follow_X2_run : GoodIn wsX2_follow wsX2_run := goodIn_r _ [56, 42, 3, 47, 25, 26, 20, 27, 28, 29, 30, 48, 49, 50, 34, 51, 36, 52, 104, 105, 106, 107, 108, 109, 110, 111, 112, 113, 114, 115, 116, 117, 118, 119, 120, 121] (by decide +kernel) (by decide +kernel)
set_option maxRecDepth 20000 in
theorem gX2_follow_X2_run : GoodIn wsX2_follow (wsV RX2 128 RX2 yX2_run wsX2_run) := goodIn_app (goodIn_of _ (by decide +kernel)) ggX2_follow_X2_run
set_option maxRecDepth 20000 in
theorem ggX2_follow_X2_readAddress : GoodIn wsX2_follow wsX2_readAddress := goodIn_r _ [60, 61, 62, 63, 47, 25, 26, 20, 27, 28, 29, 30, 64, 65, 66, 67, 68, 69, 17, 18, 19, 21, 22, 23, 24, 70, 71, 72, 40, 73, 74, 3, 75, 31, 32, 33, 34, 35, 36, 76, 77, 78, 79, 80, 104, 105, 106, 107, 108, 109, 110, 111, 112, 113, 114, 115, 116, 117, 118, 119, 120, 121, 122, 123, 124] (by decide +kernel) (by decide +kernel)
set_option maxRecDepth 20000 in
theorem gX2_follow_X2_readAddress : GoodIn wsX2_follow (wsV RX2 131 RX2 yX2_readAddress wsX2_readAddress) := goodIn_app (goodIn_of _ (by decide +kernel)) ggX2_follow_X2_readAddress
set_option maxRecDepth 20000 in
theorem ggX2_follow_X2_copy : GoodIn wsX2_follow wsX2_copy := goodIn_r _ [84, 3, 63, 70, 71, 72, 40, 73, 74, 75, 31, 32, 33, 34, 35, 36, 85, 86, 87, 88, 89, 90, 91, 92, 93, 94, 52, 48, 49, 50, 51, 95, 96, 97, 67, 98, 80, 99, 69, 100, 101, 102, 103, 104, 105, 106, 107, 108, 109, 110, 111, 112, 113, 114, 115, 116, 120, 121, 122, 123, 124] (by decide +kernel) (by decide +kernel)
set_option maxRecDepth 20000 in
theorem gX2_follow_X2_copy : GoodIn wsX2_follow (wsV RX2 135 RX2 yX2_copy wsX2_copy) := goodIn_app (goodIn_of _ (by decide +kernel)) ggX2_follow_X2_copy
theorem dX2_follow_0 : decode cX2_follow 0 = .ok (.iload_n 1, 1) := by decide +kernel
theorem dX2_follow_1 : decode cX2_follow 1 = .ok (.iload_n 2, 1) := by decide +kernel
theorem dX2_follow_2 : decode cX2_follow 2 = .ok (.iconst 1, 1) := by decide +kernel
theorem dX2_follow_3 : decode cX2_follow 3 = .ok (.iadd, 1) := by decide +kernel
theorem dX2_follow_4 : decode cX2_follow 4 = .ok (.invokestatic 118, 3) := by decide +kernel
theorem dX2_follow_7 : decode cX2_follow 7 = .ok (.istore_n 3, 1) := by decide +kernel
theorem dX2_follow_8 : decode cX2_follow 8 = .ok (.iload_n 3, 1) := by decide +kernel
theorem dX2_follow_9 : decode cX2_follow 9 = .ok (.ifCond .ne 11, 3) := by decide +kernel
theorem dX2_follow_12 : decode cX2_follow 12 = .ok (.aload_n 0, 1) := by decide +kernel
theorem dX2_follow_13 : decode cX2_follow 13 = .ok (.getfield 42, 3) := by decide +kernel
theorem dX2_follow_16 : decode cX2_follow 16 = .ok (.invokevirtual 105, 3) := by decide +kernel
theorem dX2_follow_19 : decode cX2_follow 19 = .ok (.istore_n 3, 1) := by decide +kernel
theorem dX2_follow_20 : decode cX2_follow 20 = .ok (.iload_n 3, 1) := by decide +kernel
theorem dX2_follow_21 : decode cX2_follow 21 = .ok (.iconst 1, 1) := by decide +kernel
theorem dX2_follow_22 : decode cX2_follow 22 = .ok (.if_icmp .lt 19, 3) := by decide +kernel
theorem dX2_follow_25 : decode cX2_follow 25 = .ok (.iload_n 3, 1) := by decide +kernel
theorem dX2_follow_26 : decode cX2_follow 26 = .ok (.aload_n 0, 1) := by decide +kernel
theorem dX2_follow_27 : decode cX2_follow 27 = .ok (.getfield 64, 3) := by decide +kernel
theorem dX2_follow_30 : decode cX2_follow 30 = .ok (.aload_n 0, 1) := by decide +kernel
theorem dX2_follow_31 : decode cX2_follow 31 = .ok (.getfield 20, 3) := by decide +kernel
theorem dX2_follow_34 : decode cX2_follow 34 = .ok (.invokevirtual 92, 3) := by decide +kernel
theorem dX2_follow_37 : decode cX2_follow 37 = .ok (.isub, 1) := by decide +kernel
theorem dX2_follow_38 : decode cX2_follow 38 = .ok (.if_icmp .le 5, 3) := by decide +kernel
theorem dX2_follow_41 : decode cX2_follow 41 = .ok (.iconst 0, 1) := by decide +kernel
theorem dX2_follow_42 : decode cX2_follow 42 = .ok (.ireturn, 1) := by decide +kernel
theorem dX2_follow_43 : decode cX2_follow 43 = .ok (.iload_n 1, 1) := by decide +kernel
theorem dX2_follow_44 : decode cX2_follow 44 = .ok (.iload_n 2, 1) := by decide +kernel
theorem dX2_follow_45 : decode cX2_follow 45 = .ok (.invokestatic 118, 3) := by decide +kernel
theorem dX2_follow_48 : decode cX2_follow 48 = .ok (.lookupswitch 40 #[(1, 28), (2, 34)], 28) := by decide +kernel
theorem dX2_follow_76 : decode cX2_follow 76 = .ok (.aload_n 0, 1) := by decide +kernel
theorem dX2_follow_77 : decode cX2_follow 77 = .ok (.iload_n 3, 1) := by decide +kernel
theorem dX2_follow_78 : decode cX2_follow 78 = .ok (.invokevirtual 124, 3) := by decide +kernel
theorem dX2_follow_81 : decode cX2_follow 81 = .ok (.ireturn, 1) := by decide +kernel
theorem dX2_follow_82 : decode cX2_follow 82 = .ok (.aload_n 0, 1) := by decide +kernel
theorem dX2_follow_83 : decode cX2_follow 83 = .ok (.iload_n 3, 1) := by decide +kernel
theorem dX2_follow_84 : decode cX2_follow 84 = .ok (.invokevirtual 128, 3) := by decide +kernel
theorem dX2_follow_87 : decode cX2_follow 87 = .ok (.ireturn, 1) := by decide +kernel
theorem dX2_follow_88 : decode cX2_follow 88 = .ok (.aload_n 0, 1) := by decide +kernel
theorem dX2_follow_89 : decode cX2_follow 89 = .ok (.iload_n 3, 1) := by decide +kernel
theorem dX2_follow_90 : decode cX2_follow 90 = .ok (.aload_n 0, 1) := by decide +kernel
theorem dX2_follow_91 : decode cX2_follow 91 = .ok (.iload_n 1, 1) := by decide +kernel
theorem dX2_follow_92 : decode cX2_follow 92 = .ok (.iload_n 2, 1) := by decide +kernel
theorem dX2_follow_93 : decode cX2_follow 93 = .ok (.iconst 2, 1) := by decide +kernel
theorem dX2_follow_94 : decode cX2_follow 94 = .ok (.iadd, 1) := by decide +kernel
theorem dX2_follow_95 : decode cX2_follow 95 = .ok (.invokestatic 118, 3) := by decide +kernel
theorem dX2_follow_98 : decode cX2_follow 98 = .ok (.invokevirtual 131, 3) := by decide +kernel
theorem dX2_follow_101 : decode cX2_follow 101 = .ok (.invokevirtual 135, 3) := by decide +kernel
theorem dX2_follow_104 : decode cX2_follow 104 = .ok (.ireturn, 1) := by decide +kernel
set_option maxRecDepth 20000 in
theorem ggX2_add_X5_left : GoodIn wsX2_add wsX5_left := goodIn_r _ [7, 8, 9, 35, 36, 37] (by decide +kernel) (by decide +kernel)
set_option maxRecDepth 20000 in
theorem gX2_add_X5_left : GoodIn wsX2_add (wsV RX2 81 RX5 yX5_left wsX5_left) := goodIn_app (goodIn_of _ (by decide +kernel)) ggX2_add_X5_left
set_option maxRecDepth 20000 in
theorem ggX2_add_X5_nextByte : GoodIn wsX2_add wsX5_nextByte := goodIn_r _ [13, 9, 8, 14, 35, 36, 37, 38, 39] (by decide +kernel) (by decide +kernel)
set_option maxRecDepth 20000 in
theorem gX2_add_X5_nextByte : GoodIn wsX2_add (wsV RX2 99 RX5 yX5_nextByte wsX5_nextByte) := goodIn_app (goodIn_of _ (by decide +kernel)) ggX2_add_X5_nextByte
set_option maxRecDepth 20000 in
theorem ggX2_add_X6_append : GoodIn wsX2_add wsX6_append := goodIn_r _ [19, 20, 21, 38, 39] (by decide +kernel) (by decide +kernel)
set_option maxRecDepth 20000 in
theorem gX2_add_X6_append : GoodIn wsX2_add (wsV RX2 139 RX6 yX6_append wsX6_append) := goodIn_app (goodIn_of _ (by decide +kernel)) ggX2_add_X6_append
theorem dX2_add_0 : decode cX2_add 0 = .ok (.iload_n 1, 1) := by decide +kernel
theorem dX2_add_1 : decode cX2_add 1 = .ok (.aload_n 0, 1) := by decide +kernel
theorem dX2_add_2 : decode cX2_add 2 = .ok (.getfield 39, 3) := by decide +kernel
theorem dX2_add_5 : decode cX2_add 5 = .ok (.invokevirtual 81, 3) := by decide +kernel
theorem dX2_add_8 : decode cX2_add 8 = .ok (.if_icmp .le 5, 3) := by decide +kernel
theorem dX2_add_11 : decode cX2_add 11 = .ok (.iconst 0, 1) := by decide +kernel
theorem dX2_add_12 : decode cX2_add 12 = .ok (.ireturn, 1) := by decide +kernel
theorem dX2_add_13 : decode cX2_add 13 = .ok (.iconst 0, 1) := by decide +kernel
theorem dX2_add_14 : decode cX2_add 14 = .ok (.istore_n 2, 1) := by decide +kernel
theorem dX2_add_15 : decode cX2_add 15 = .ok (.iload_n 2, 1) := by decide +kernel
theorem dX2_add_16 : decode cX2_add 16 = .ok (.iload_n 1, 1) := by decide +kernel
theorem dX2_add_17 : decode cX2_add 17 = .ok (.if_icmp .ge 23, 3) := by decide +kernel
theorem dX2_add_20 : decode cX2_add 20 = .ok (.aload_n 0, 1) := by decide +kernel
theorem dX2_add_21 : decode cX2_add 21 = .ok (.getfield 20, 3) := by decide +kernel
theorem dX2_add_24 : decode cX2_add 24 = .ok (.aload_n 0, 1) := by decide +kernel
theorem dX2_add_25 : decode cX2_add 25 = .ok (.getfield 39, 3) := by decide +kernel
theorem dX2_add_28 : decode cX2_add 28 = .ok (.invokevirtual 99, 3) := by decide +kernel
theorem dX2_add_31 : decode cX2_add 31 = .ok (.invokevirtual 139, 3) := by decide +kernel
theorem dX2_add_34 : decode cX2_add 34 = .ok (.iinc 2 1, 3) := by decide +kernel
theorem dX2_add_37 : decode cX2_add 37 = .ok (.goto (-22), 3) := by decide +kernel
theorem dX2_add_40 : decode cX2_add 40 = .ok (.iconst 1, 1) := by decide +kernel
theorem dX2_add_41 : decode cX2_add 41 = .ok (.ireturn, 1) := by decide +kernel
set_option maxRecDepth 20000 in
theorem ggX2_run_X5_nextByte : GoodIn wsX2_run wsX5_nextByte := goodIn_r _ [7, 8, 9, 10, 31, 32, 33, 34, 35] (by decide +kernel) (by decide +kernel)
set_option maxRecDepth 20000 in
theorem gX2_run_X5_nextByte : GoodIn wsX2_run (wsV RX2 99 RX5 yX5_nextByte wsX5_nextByte) := goodIn_app (goodIn_of _ (by decide +kernel)) ggX2_run_X5_nextByte
set_option maxRecDepth 20000 in
theorem ggX2_run_X6_append : GoodIn wsX2_run wsX6_append := goodIn_r _ [15, 16, 17, 34, 35] (by decide +kernel) (by decide +kernel)
set_option maxRecDepth 20000 in
theorem gX2_run_X6_append : GoodIn wsX2_run (wsV RX2 139 RX6 yX6_append wsX6_append) := goodIn_app (goodIn_of _ (by decide +kernel)) ggX2_run_X6_append
theorem dX2_run_0 : decode cX2_run 0 = .ok (.aload_n 0, 1) := by decide +kernel
theorem dX2_run_1 : decode cX2_run 1 = .ok (.getfield 39, 3) := by decide +kernel
theorem dX2_run_4 : decode cX2_run 4 = .ok (.invokevirtual 99, 3) := by decide +kernel
theorem dX2_run_7 : decode cX2_run 7 = .ok (.istore_n 2, 1) := by decide +kernel
theorem dX2_run_8 : decode cX2_run 8 = .ok (.iload_n 2, 1) := by decide +kernel
theorem dX2_run_9 : decode cX2_run 9 = .ok (.iconst (-1), 1) := by decide +kernel
theorem dX2_run_10 : decode cX2_run 10 = .ok (.if_icmp .ne 5, 3) := by decide +kernel
theorem dX2_run_13 : decode cX2_run 13 = .ok (.iconst 0, 1) := by decide +kernel
theorem dX2_run_14 : decode cX2_run 14 = .ok (.ireturn, 1) := by decide +kernel
theorem dX2_run_15 : decode cX2_run 15 = .ok (.iconst 0, 1) := by decide +kernel
theorem dX2_run_16 : decode cX2_run 16 = .ok (.istore_n 3, 1) := by decide +kernel
theorem dX2_run_17 : decode cX2_run 17 = .ok (.iload_n 3, 1) := by decide +kernel
theorem dX2_run_18 : decode cX2_run 18 = .ok (.iload_n 1, 1) := by decide +kernel
theorem dX2_run_19 : decode cX2_run 19 = .ok (.if_icmp .ge 17, 3) := by decide +kernel
theorem dX2_run_22 : decode cX2_run 22 = .ok (.aload_n 0, 1) := by decide +kernel
theorem dX2_run_23 : decode cX2_run 23 = .ok (.getfield 20, 3) := by decide +kernel
theorem dX2_run_26 : decode cX2_run 26 = .ok (.iload_n 2, 1) := by decide +kernel
theorem dX2_run_27 : decode cX2_run 27 = .ok (.invokevirtual 139, 3) := by decide +kernel
theorem dX2_run_30 : decode cX2_run 30 = .ok (.iinc 3 1, 3) := by decide +kernel
theorem dX2_run_33 : decode cX2_run 33 = .ok (.goto (-16), 3) := by decide +kernel
theorem dX2_run_36 : decode cX2_run 36 = .ok (.iconst 1, 1) := by decide +kernel
theorem dX2_run_37 : decode cX2_run 37 = .ok (.ireturn, 1) := by decide +kernel
set_option maxRecDepth 20000 in
theorem ggX2_copy_X2_here : GoodIn wsX2_copy wsX2_here := goodIn_r _ [7, 8, 1, 9, 10, 11, 12, 13, 14, 15, 43, 44, 45, 46, 47, 48, 49, 50, 51, 52, 53, 54, 55, 56, 57] (by decide +kernel) (by decide +kernel)
set_option maxRecDepth 20000 in
theorem gX2_copy_X2_here : GoodIn wsX2_copy (wsV RX2 142 RX2 yX2_here wsX2_here) := goodIn_app (goodIn_of _ (by decide +kernel)) ggX2_copy_X2_here
set_option maxRecDepth 20000 in
theorem ggX2_copy_X2_stringAt : GoodIn wsX2_copy wsX2_stringAt := goodIn_r _ [19, 8, 20, 21, 1, 9, 22, 23, 24, 13, 25, 15, 26, 43, 44, 45, 46, 47, 48, 49, 50, 51, 52, 53, 54, 55, 56, 57] (by decide +kernel) (by decide +kernel)
set_option maxRecDepth 20000 in
theorem gX2_copy_X2_stringAt : GoodIn wsX2_copy (wsV RX2 145 RX2 yX2_stringAt wsX2_stringAt) := goodIn_app (goodIn_of _ (by decide +kernel)) ggX2_copy_X2_stringAt
set_option maxRecDepth 20000 in
theorem ggX2_copy_X6_append : GoodIn wsX2_copy wsX6_append := goodIn_r _ [30, 15, 26, 56, 57] (by decide +kernel) (by decide +kernel)
set_option maxRecDepth 20000 in
theorem gX2_copy_X6_append : GoodIn wsX2_copy (wsV RX2 139 RX6 yX6_append wsX6_append) := goodIn_app (goodIn_of _ (by decide +kernel)) ggX2_copy_X6_append
set_option maxRecDepth 20000 in
theorem ggX2_copy_X0_learn : GoodIn wsX2_copy wsX0_learn := goodIn_r _ [35, 36, 37, 38, 39, 40, 41, 42, 58, 59, 60] (by decide +kernel) (by decide +kernel)
set_option maxRecDepth 20000 in
theorem gX2_copy_X0_learn : GoodIn wsX2_copy (wsV RX2 148 RX0 yX0_learn wsX0_learn) := goodIn_app (goodIn_of _ (by decide +kernel)) ggX2_copy_X0_learn
theorem dX2_copy_0 : decode cX2_copy 0 = .ok (.lload_n 2, 1) := by decide +kernel
theorem dX2_copy_1 : decode cX2_copy 1 = .ok (.lconst 0, 1) := by decide +kernel
theorem dX2_copy_2 : decode cX2_copy 2 = .ok (.lcmp, 1) := by decide +kernel
theorem dX2_copy_3 : decode cX2_copy 3 = .ok (.ifCond .lt 13, 3) := by decide +kernel
theorem dX2_copy_6 : decode cX2_copy 6 = .ok (.lload_n 2, 1) := by decide +kernel
theorem dX2_copy_7 : decode cX2_copy 7 = .ok (.aload_n 0, 1) := by decide +kernel
theorem dX2_copy_8 : decode cX2_copy 8 = .ok (.invokevirtual 142, 3) := by decide +kernel
theorem dX2_copy_11 : decode cX2_copy 11 = .ok (.i2l, 1) := by decide +kernel
theorem dX2_copy_12 : decode cX2_copy 12 = .ok (.lcmp, 1) := by decide +kernel
theorem dX2_copy_13 : decode cX2_copy 13 = .ok (.ifCond .lt 5, 3) := by decide +kernel
theorem dX2_copy_16 : decode cX2_copy 16 = .ok (.iconst 0, 1) := by decide +kernel
theorem dX2_copy_17 : decode cX2_copy 17 = .ok (.ireturn, 1) := by decide +kernel
theorem dX2_copy_18 : decode cX2_copy 18 = .ok (.iconst 0, 1) := by decide +kernel
theorem dX2_copy_19 : decode cX2_copy 19 = .ok (.istore 4, 2) := by decide +kernel
theorem dX2_copy_21 : decode cX2_copy 21 = .ok (.iload 4, 2) := by decide +kernel
theorem dX2_copy_23 : decode cX2_copy 23 = .ok (.iload_n 1, 1) := by decide +kernel
theorem dX2_copy_24 : decode cX2_copy 24 = .ok (.if_icmp .ge 25, 3) := by decide +kernel
theorem dX2_copy_27 : decode cX2_copy 27 = .ok (.aload_n 0, 1) := by decide +kernel
theorem dX2_copy_28 : decode cX2_copy 28 = .ok (.getfield 20, 3) := by decide +kernel
theorem dX2_copy_31 : decode cX2_copy 31 = .ok (.aload_n 0, 1) := by decide +kernel
theorem dX2_copy_32 : decode cX2_copy 32 = .ok (.lload_n 2, 1) := by decide +kernel
theorem dX2_copy_33 : decode cX2_copy 33 = .ok (.l2i, 1) := by decide +kernel
theorem dX2_copy_34 : decode cX2_copy 34 = .ok (.iload 4, 2) := by decide +kernel
theorem dX2_copy_36 : decode cX2_copy 36 = .ok (.iadd, 1) := by decide +kernel
theorem dX2_copy_37 : decode cX2_copy 37 = .ok (.invokevirtual 145, 3) := by decide +kernel
theorem dX2_copy_40 : decode cX2_copy 40 = .ok (.invokevirtual 139, 3) := by decide +kernel
theorem dX2_copy_43 : decode cX2_copy 43 = .ok (.iinc 4 1, 3) := by decide +kernel
theorem dX2_copy_46 : decode cX2_copy 46 = .ok (.goto (-25), 3) := by decide +kernel
theorem dX2_copy_49 : decode cX2_copy 49 = .ok (.aload_n 0, 1) := by decide +kernel
theorem dX2_copy_50 : decode cX2_copy 50 = .ok (.getfield 26, 3) := by decide +kernel
theorem dX2_copy_53 : decode cX2_copy 53 = .ok (.lload_n 2, 1) := by decide +kernel
theorem dX2_copy_54 : decode cX2_copy 54 = .ok (.l2i, 1) := by decide +kernel
theorem dX2_copy_55 : decode cX2_copy 55 = .ok (.invokevirtual 148, 3) := by decide +kernel
theorem dX2_copy_58 : decode cX2_copy 58 = .ok (.iconst 1, 1) := by decide +kernel
theorem dX2_copy_59 : decode cX2_copy 59 = .ok (.ireturn, 1) := by decide +kernel
set_option maxRecDepth 20000 in
theorem ggX2_here_X6_count : GoodIn wsX2_here wsX6_count := goodIn_r _ [8, 9, 23, 24] (by decide +kernel) (by decide +kernel)
set_option maxRecDepth 20000 in
theorem gX2_here_X6_count : GoodIn wsX2_here (wsV RX2 92 RX6 yX6_count wsX6_count) := goodIn_app (goodIn_of _ (by decide +kernel)) ggX2_here_X6_count
theorem dX2_here_0 : decode cX2_here 0 = .ok (.aload_n 0, 1) := by decide +kernel
theorem dX2_here_1 : decode cX2_here 1 = .ok (.getfield 58, 3) := by decide +kernel
theorem dX2_here_4 : decode cX2_here 4 = .ok (.aload_n 0, 1) := by decide +kernel
theorem dX2_here_5 : decode cX2_here 5 = .ok (.getfield 20, 3) := by decide +kernel
theorem dX2_here_8 : decode cX2_here 8 = .ok (.invokevirtual 92, 3) := by decide +kernel
theorem dX2_here_11 : decode cX2_here 11 = .ok (.iadd, 1) := by decide +kernel
theorem dX2_here_12 : decode cX2_here 12 = .ok (.aload_n 0, 1) := by decide +kernel
theorem dX2_here_13 : decode cX2_here 13 = .ok (.getfield 61, 3) := by decide +kernel
theorem dX2_here_16 : decode cX2_here 16 = .ok (.isub, 1) := by decide +kernel
theorem dX2_here_17 : decode cX2_here 17 = .ok (.ireturn, 1) := by decide +kernel
set_option maxRecDepth 20000 in
theorem ggX2_stringAt_X6_at : GoodIn wsX2_stringAt wsX6_at := goodIn_r _ [10, 11, 12, 26, 27] (by decide +kernel) (by decide +kernel)
set_option maxRecDepth 20000 in
theorem gX2_stringAt_X6_at : GoodIn wsX2_stringAt (wsV RX2 151 RX6 yX6_at wsX6_at) := goodIn_app (goodIn_of _ (by decide +kernel)) ggX2_stringAt_X6_at
theorem dX2_stringAt_0 : decode cX2_stringAt 0 = .ok (.iload_n 1, 1) := by decide +kernel
theorem dX2_stringAt_1 : decode cX2_stringAt 1 = .ok (.aload_n 0, 1) := by decide +kernel
theorem dX2_stringAt_2 : decode cX2_stringAt 2 = .ok (.getfield 58, 3) := by decide +kernel
theorem dX2_stringAt_5 : decode cX2_stringAt 5 = .ok (.if_icmp .ge 19, 3) := by decide +kernel
theorem dX2_stringAt_8 : decode cX2_stringAt 8 = .ok (.aload_n 0, 1) := by decide +kernel
theorem dX2_stringAt_9 : decode cX2_stringAt 9 = .ok (.getfield 52, 3) := by decide +kernel
theorem dX2_stringAt_12 : decode cX2_stringAt 12 = .ok (.aload_n 0, 1) := by decide +kernel
theorem dX2_stringAt_13 : decode cX2_stringAt 13 = .ok (.getfield 55, 3) := by decide +kernel
theorem dX2_stringAt_16 : decode cX2_stringAt 16 = .ok (.iload_n 1, 1) := by decide +kernel
theorem dX2_stringAt_17 : decode cX2_stringAt 17 = .ok (.iadd, 1) := by decide +kernel
theorem dX2_stringAt_18 : decode cX2_stringAt 18 = .ok (.invokevirtual 151, 3) := by decide +kernel
theorem dX2_stringAt_21 : decode cX2_stringAt 21 = .ok (.goto 21, 3) := by decide +kernel
theorem dX2_stringAt_24 : decode cX2_stringAt 24 = .ok (.aload_n 0, 1) := by decide +kernel
theorem dX2_stringAt_25 : decode cX2_stringAt 25 = .ok (.getfield 20, 3) := by decide +kernel
theorem dX2_stringAt_28 : decode cX2_stringAt 28 = .ok (.aload_n 0, 1) := by decide +kernel
theorem dX2_stringAt_29 : decode cX2_stringAt 29 = .ok (.getfield 61, 3) := by decide +kernel
theorem dX2_stringAt_32 : decode cX2_stringAt 32 = .ok (.iload_n 1, 1) := by decide +kernel
theorem dX2_stringAt_33 : decode cX2_stringAt 33 = .ok (.iadd, 1) := by decide +kernel
theorem dX2_stringAt_34 : decode cX2_stringAt 34 = .ok (.aload_n 0, 1) := by decide +kernel
theorem dX2_stringAt_35 : decode cX2_stringAt 35 = .ok (.getfield 58, 3) := by decide +kernel
theorem dX2_stringAt_38 : decode cX2_stringAt 38 = .ok (.isub, 1) := by decide +kernel
theorem dX2_stringAt_39 : decode cX2_stringAt 39 = .ok (.invokevirtual 151, 3) := by decide +kernel
theorem dX2_stringAt_42 : decode cX2_stringAt 42 = .ok (.ireturn, 1) := by decide +kernel
set_option maxRecDepth 20000 in
theorem ggX2_readAddress_X5_nextByte : GoodIn wsX2_readAddress wsX5_nextByte := goodIn_r _ [8, 9, 10, 11, 57, 58, 59, 60, 61] (by decide +kernel) (by decide +kernel)
set_option maxRecDepth 20000 in
theorem gX2_readAddress_X5_nextByte : GoodIn wsX2_readAddress (wsV RX2 99 RX5 yX5_nextByte wsX5_nextByte) := goodIn_app (goodIn_of _ (by decide +kernel)) ggX2_readAddress_X5_nextByte
set_option maxRecDepth 20000 in
theorem ggX2_readAddress_X0_same : GoodIn wsX2_readAddress wsX0_same := goodIn_r _ [16, 17, 62, 63, 64] (by decide +kernel) (by decide +kernel)
set_option maxRecDepth 20000 in
theorem gX2_readAddress_X0_same : GoodIn wsX2_readAddress (wsV RX2 156 RX0 yX0_same wsX0_same) := goodIn_app (goodIn_of _ (by decide +kernel)) ggX2_readAddress_X0_same
set_option maxRecDepth 20000 in
theorem ggX2_readAddress_X5_nextInteger : GoodIn wsX2_readAddress wsX5_nextInteger := goodIn_r _ [21, 22, 23, 24, 5, 6, 7, 8, 9, 10, 11, 57, 58, 59, 60, 61] (by decide +kernel) (by decide +kernel)
set_option maxRecDepth 20000 in
theorem gX2_readAddress_X5_nextInteger : GoodIn wsX2_readAddress (wsV RX2 105 RX5 yX5_nextInteger wsX5_nextInteger) := goodIn_app (goodIn_of _ (by decide +kernel)) ggX2_readAddress_X5_nextInteger
set_option maxRecDepth 20000 in
theorem ggX2_readAddress_X2_here : GoodIn wsX2_readAddress wsX2_here := goodIn_r _ [29, 30, 31, 32, 33, 34, 35, 36, 37, 38, 44, 45, 46, 47, 48, 49, 50, 51, 52, 53, 54, 55, 56, 60, 61] (by decide +kernel) (by decide +kernel)
set_option maxRecDepth 20000 in
theorem gX2_readAddress_X2_here : GoodIn wsX2_readAddress (wsV RX2 142 RX2 yX2_here wsX2_here) := goodIn_app (goodIn_of _ (by decide +kernel)) ggX2_readAddress_X2_here
set_option maxRecDepth 20000 in
theorem ggX2_readAddress_X0_addressFor : GoodIn wsX2_readAddress wsX0_addressFor := goodIn_r _ [42, 43, 62, 63, 64] (by decide +kernel) (by decide +kernel)
set_option maxRecDepth 20000 in
theorem gX2_readAddress_X0_addressFor : GoodIn wsX2_readAddress (wsV RX2 159 RX0 yX0_addressFor wsX0_addressFor) := goodIn_app (goodIn_of _ (by decide +kernel)) ggX2_readAddress_X0_addressFor
theorem dX2_readAddress_0 : decode cX2_readAddress 0 = .ok (.iload_n 1, 1) := by decide +kernel
theorem dX2_readAddress_1 : decode cX2_readAddress 1 = .ok (.bipush 6, 2) := by decide +kernel
theorem dX2_readAddress_3 : decode cX2_readAddress 3 = .ok (.if_icmp .lt 41, 3) := by decide +kernel
theorem dX2_readAddress_6 : decode cX2_readAddress 6 = .ok (.aload_n 0, 1) := by decide +kernel
theorem dX2_readAddress_7 : decode cX2_readAddress 7 = .ok (.getfield 45, 3) := by decide +kernel
theorem dX2_readAddress_10 : decode cX2_readAddress 10 = .ok (.invokevirtual 99, 3) := by decide +kernel
theorem dX2_readAddress_13 : decode cX2_readAddress 13 = .ok (.istore_n 2, 1) := by decide +kernel
theorem dX2_readAddress_14 : decode cX2_readAddress 14 = .ok (.iload_n 2, 1) := by decide +kernel
theorem dX2_readAddress_15 : decode cX2_readAddress 15 = .ok (.iconst (-1), 1) := by decide +kernel
theorem dX2_readAddress_16 : decode cX2_readAddress 16 = .ok (.if_icmp .ne 9, 3) := by decide +kernel
theorem dX2_readAddress_19 : decode cX2_readAddress 19 = .ok (.ldc2_w 154, 3) := by decide +kernel
theorem dX2_readAddress_22 : decode cX2_readAddress 22 = .ok (.goto 21, 3) := by decide +kernel
theorem dX2_readAddress_25 : decode cX2_readAddress 25 = .ok (.aload_n 0, 1) := by decide +kernel
theorem dX2_readAddress_26 : decode cX2_readAddress 26 = .ok (.getfield 26, 3) := by decide +kernel
theorem dX2_readAddress_29 : decode cX2_readAddress 29 = .ok (.sipush 256, 3) := by decide +kernel
theorem dX2_readAddress_32 : decode cX2_readAddress 32 = .ok (.iload_n 1, 1) := by decide +kernel
theorem dX2_readAddress_33 : decode cX2_readAddress 33 = .ok (.bipush 6, 2) := by decide +kernel
theorem dX2_readAddress_35 : decode cX2_readAddress 35 = .ok (.isub, 1) := by decide +kernel
theorem dX2_readAddress_36 : decode cX2_readAddress 36 = .ok (.imul, 1) := by decide +kernel
theorem dX2_readAddress_37 : decode cX2_readAddress 37 = .ok (.iload_n 2, 1) := by decide +kernel
theorem dX2_readAddress_38 : decode cX2_readAddress 38 = .ok (.iadd, 1) := by decide +kernel
theorem dX2_readAddress_39 : decode cX2_readAddress 39 = .ok (.invokevirtual 156, 3) := by decide +kernel
theorem dX2_readAddress_42 : decode cX2_readAddress 42 = .ok (.i2l, 1) := by decide +kernel
theorem dX2_readAddress_43 : decode cX2_readAddress 43 = .ok (.lreturn, 1) := by decide +kernel
theorem dX2_readAddress_44 : decode cX2_readAddress 44 = .ok (.aload_n 0, 1) := by decide +kernel
theorem dX2_readAddress_45 : decode cX2_readAddress 45 = .ok (.getfield 45, 3) := by decide +kernel
theorem dX2_readAddress_48 : decode cX2_readAddress 48 = .ok (.invokevirtual 105, 3) := by decide +kernel
theorem dX2_readAddress_51 : decode cX2_readAddress 51 = .ok (.istore_n 2, 1) := by decide +kernel
theorem dX2_readAddress_52 : decode cX2_readAddress 52 = .ok (.iload_n 2, 1) := by decide +kernel
theorem dX2_readAddress_53 : decode cX2_readAddress 53 = .ok (.iconst (-1), 1) := by decide +kernel
theorem dX2_readAddress_54 : decode cX2_readAddress 54 = .ok (.if_icmp .ne 9, 3) := by decide +kernel
theorem dX2_readAddress_57 : decode cX2_readAddress 57 = .ok (.ldc2_w 154, 3) := by decide +kernel
theorem dX2_readAddress_60 : decode cX2_readAddress 60 = .ok (.goto 16, 3) := by decide +kernel
theorem dX2_readAddress_63 : decode cX2_readAddress 63 = .ok (.aload_n 0, 1) := by decide +kernel
theorem dX2_readAddress_64 : decode cX2_readAddress 64 = .ok (.getfield 26, 3) := by decide +kernel
theorem dX2_readAddress_67 : decode cX2_readAddress 67 = .ok (.iload_n 1, 1) := by decide +kernel
theorem dX2_readAddress_68 : decode cX2_readAddress 68 = .ok (.iload_n 2, 1) := by decide +kernel
theorem dX2_readAddress_69 : decode cX2_readAddress 69 = .ok (.aload_n 0, 1) := by decide +kernel
theorem dX2_readAddress_70 : decode cX2_readAddress 70 = .ok (.invokevirtual 142, 3) := by decide +kernel
theorem dX2_readAddress_73 : decode cX2_readAddress 73 = .ok (.invokevirtual 159, 3) := by decide +kernel
theorem dX2_readAddress_76 : decode cX2_readAddress 76 = .ok (.lreturn, 1) := by decide +kernel
set_option maxRecDepth 20000 in
theorem ggX3_init_X0_init : GoodIn wsX3_init wsX0_init := goodIn_r _ [27, 28, 2, 3, 29, 30, 31, 32, 59, 60, 61] (by decide +kernel) (by decide +kernel)
set_option maxRecDepth 20000 in
theorem gX3_init_X0_init : GoodIn wsX3_init (wsX0_init) := ggX3_init_X0_init
set_option maxRecDepth 20000 in
theorem ggX3_init_X4_init : GoodIn wsX3_init wsX4_init := goodIn_r _ [35, 36, 2, 3, 29, 37, 38, 39, 40, 62, 63, 64, 65] (by decide +kernel) (by decide +kernel)
set_option maxRecDepth 20000 in
theorem gX3_init_X4_init : GoodIn wsX3_init (wsX4_init) := ggX3_init_X4_init
set_option maxRecDepth 20000 in
theorem ggX3_init_X6_init : GoodIn wsX3_init wsX6_init := goodIn_r _ [43, 44, 2, 3, 29, 45, 46, 66, 67] (by decide +kernel) (by decide +kernel)
set_option maxRecDepth 20000 in
theorem gX3_init_X6_init : GoodIn wsX3_init (wsX6_init) := ggX3_init_X6_init
theorem dX3_init_0 : decode cX3_init 0 = .ok (.aload_n 0, 1) := by decide +kernel
theorem dX3_init_1 : decode cX3_init 1 = .ok (.invokespecial 3, 3) := by decide +kernel
theorem dX3_init_4 : decode cX3_init 4 = .ok (.aload_n 0, 1) := by decide +kernel
theorem dX3_init_5 : decode cX3_init 5 = .ok (.aload_n 1, 1) := by decide +kernel
theorem dX3_init_6 : decode cX3_init 6 = .ok (.putfield 9, 3) := by decide +kernel
theorem dX3_init_9 : decode cX3_init 9 = .ok (.aload_n 0, 1) := by decide +kernel
theorem dX3_init_10 : decode cX3_init 10 = .ok (.aload_n 2, 1) := by decide +kernel
theorem dX3_init_11 : decode cX3_init 11 = .ok (.putfield 15, 3) := by decide +kernel
theorem dX3_init_14 : decode cX3_init 14 = .ok (.aload_n 0, 1) := by decide +kernel
theorem dX3_init_15 : decode cX3_init 15 = .ok (.aload_n 3, 1) := by decide +kernel
theorem dX3_init_16 : decode cX3_init 16 = .ok (.putfield 18, 3) := by decide +kernel
theorem dX3_init_19 : decode cX3_init 19 = .ok (.aload_n 0, 1) := by decide +kernel
theorem dX3_init_20 : decode cX3_init 20 = .ok (.new 21, 3) := by decide +kernel
theorem dX3_init_23 : decode cX3_init 23 = .ok (.dup, 1) := by decide +kernel
theorem dX3_init_24 : decode cX3_init 24 = .ok (.invokespecial 23, 3) := by decide +kernel
theorem dX3_init_27 : decode cX3_init 27 = .ok (.putfield 24, 3) := by decide +kernel
theorem dX3_init_30 : decode cX3_init 30 = .ok (.aload_n 0, 1) := by decide +kernel
theorem dX3_init_31 : decode cX3_init 31 = .ok (.new 28, 3) := by decide +kernel
theorem dX3_init_34 : decode cX3_init 34 = .ok (.dup, 1) := by decide +kernel
theorem dX3_init_35 : decode cX3_init 35 = .ok (.invokespecial 30, 3) := by decide +kernel
theorem dX3_init_38 : decode cX3_init 38 = .ok (.putfield 31, 3) := by decide +kernel
theorem dX3_init_41 : decode cX3_init 41 = .ok (.aload_n 0, 1) := by decide +kernel
theorem dX3_init_42 : decode cX3_init 42 = .ok (.new 35, 3) := by decide +kernel
theorem dX3_init_45 : decode cX3_init 45 = .ok (.dup, 1) := by decide +kernel
theorem dX3_init_46 : decode cX3_init 46 = .ok (.bipush 112, 2) := by decide +kernel
theorem dX3_init_48 : decode cX3_init 48 = .ok (.invokespecial 37, 3) := by decide +kernel
theorem dX3_init_51 : decode cX3_init 51 = .ok (.putfield 40, 3) := by decide +kernel
theorem dX3_init_54 : decode cX3_init 54 = .ok (.aload_n 0, 1) := by decide +kernel
theorem dX3_init_55 : decode cX3_init 55 = .ok (.new 35, 3) := by decide +kernel
theorem dX3_init_58 : decode cX3_init 58 = .ok (.dup, 1) := by decide +kernel
theorem dX3_init_59 : decode cX3_init 59 = .ok (.bipush 64, 2) := by decide +kernel
theorem dX3_init_61 : decode cX3_init 61 = .ok (.invokespecial 37, 3) := by decide +kernel
theorem dX3_init_64 : decode cX3_init 64 = .ok (.putfield 43, 3) := by decide +kernel
theorem dX3_init_67 : decode cX3_init 67 = .ok (.aload_n 0, 1) := by decide +kernel
theorem dX3_init_68 : decode cX3_init 68 = .ok (.new 35, 3) := by decide +kernel
theorem dX3_init_71 : decode cX3_init 71 = .ok (.dup, 1) := by decide +kernel
theorem dX3_init_72 : decode cX3_init 72 = .ok (.sipush 128, 3) := by decide +kernel
theorem dX3_init_75 : decode cX3_init 75 = .ok (.invokespecial 37, 3) := by decide +kernel
theorem dX3_init_78 : decode cX3_init 78 = .ok (.putfield 46, 3) := by decide +kernel
theorem dX3_init_81 : decode cX3_init 81 = .ok (.aload_n 0, 1) := by decide +kernel
theorem dX3_init_82 : decode cX3_init 82 = .ok (.new 35, 3) := by decide +kernel
theorem dX3_init_85 : decode cX3_init 85 = .ok (.dup, 1) := by decide +kernel
theorem dX3_init_86 : decode cX3_init 86 = .ok (.bipush 64, 2) := by decide +kernel
theorem dX3_init_88 : decode cX3_init 88 = .ok (.invokespecial 37, 3) := by decide +kernel
theorem dX3_init_91 : decode cX3_init 91 = .ok (.putfield 49, 3) := by decide +kernel
theorem dX3_init_94 : decode cX3_init 94 = .ok (.aload_n 0, 1) := by decide +kernel
theorem dX3_init_95 : decode cX3_init 95 = .ok (.new 35, 3) := by decide +kernel
theorem dX3_init_98 : decode cX3_init 98 = .ok (.dup, 1) := by decide +kernel
theorem dX3_init_99 : decode cX3_init 99 = .ok (.sipush 320, 3) := by decide +kernel
theorem dX3_init_102 : decode cX3_init 102 = .ok (.invokespecial 37, 3) := by decide +kernel
theorem dX3_init_105 : decode cX3_init 105 = .ok (.putfield 52, 3) := by decide +kernel
theorem dX3_init_108 : decode cX3_init 108 = .ok (.aload_n 0, 1) := by decide +kernel
theorem dX3_init_109 : decode cX3_init 109 = .ok (.iconst 0, 1) := by decide +kernel
theorem dX3_init_110 : decode cX3_init 110 = .ok (.putfield 55, 3) := by decide +kernel
theorem dX3_init_113 : decode cX3_init 113 = .ok (.aload_n 0, 1) := by decide +kernel
theorem dX3_init_114 : decode cX3_init 114 = .ok (.iconst 0, 1) := by decide +kernel
theorem dX3_init_115 : decode cX3_init 115 = .ok (.putfield 59, 3) := by decide +kernel
theorem dX3_init_118 : decode cX3_init 118 = .ok (.return_, 1) := by decide +kernel
set_option maxRecDepth 20000 in
theorem ggX3_writeDelta_X6_keep : GoodIn wsX3_writeDelta wsX6_keep := goodIn_r _ [15, 16, 188, 189] (by decide +kernel) (by decide +kernel)
set_option maxRecDepth 20000 in
theorem gX3_writeDelta_X6_keep : GoodIn wsX3_writeDelta (wsV RX3 62 RX6 yX6_keep wsX6_keep) := goodIn_app (goodIn_of _ (by decide +kernel)) ggX3_writeDelta_X6_keep
set_option maxRecDepth 20000 in
theorem ggX3_writeDelta_X6_append : GoodIn wsX3_writeDelta wsX6_append := goodIn_r _ [20, 16, 21, 188, 189] (by decide +kernel) (by decide +kernel)
set_option maxRecDepth 20000 in
theorem gX3_writeDelta_X6_append : GoodIn wsX3_writeDelta (wsV RX3 69 RX6 yX6_append wsX6_append) := goodIn_app (goodIn_of _ (by decide +kernel)) ggX3_writeDelta_X6_append
set_option maxRecDepth 20000 in
theorem ggX3_writeDelta_X0_clear : GoodIn wsX3_writeDelta wsX0_clear := goodIn_r _ [26, 27, 28, 29, 30, 31, 32, 33, 190, 191, 192] (by decide +kernel) (by decide +kernel)
set_option maxRecDepth 20000 in
theorem gX3_writeDelta_X0_clear : GoodIn wsX3_writeDelta (wsV RX3 72 RX0 yX0_clear wsX0_clear) := goodIn_app (goodIn_of _ (by decide +kernel)) ggX3_writeDelta_X0_clear
set_option maxRecDepth 20000 in
theorem ggX3_writeDelta_X6_count : GoodIn wsX3_writeDelta wsX6_count := goodIn_r _ [37, 16, 188, 189] (by decide +kernel) (by decide +kernel)
set_option maxRecDepth 20000 in
theorem gX3_writeDelta_X6_count : GoodIn wsX3_writeDelta (wsV RX3 75 RX6 yX6_count wsX6_count) := goodIn_app (goodIn_of _ (by decide +kernel)) ggX3_writeDelta_X6_count
set_option maxRecDepth 20000 in
theorem ggX3_writeDelta_X3_takePiece : GoodIn wsX3_writeDelta wsX3_takePiece := goodIn_r _ [42, 43, 44, 3, 2, 45, 46, 47, 48, 49, 50, 51, 52, 14, 53, 16, 54, 55, 56, 57, 21, 58, 18, 19, 20, 59, 60, 61, 62, 17, 22, 23, 24, 25, 26, 27, 28, 29, 30, 31, 32, 33, 63, 64, 65, 66, 67, 68, 11, 12, 13, 15, 176, 177, 178, 179, 180, 181, 182, 183, 184, 185, 186, 187, 188, 189, 190, 191, 192, 193, 194, 195, 196] (by decide +kernel) (by decide +kernel)
set_option maxRecDepth 20000 in
theorem gX3_writeDelta_X3_takePiece : GoodIn wsX3_writeDelta (wsV RX3 85 RX3 yX3_takePiece wsX3_takePiece) := goodIn_app (goodIn_of _ (by decide +kernel)) ggX3_writeDelta_X3_takePiece
set_option maxRecDepth 20000 in
theorem ggX3_writeDelta_X3_findInstructions : GoodIn wsX3_writeDelta wsX3_findInstructions := goodIn_r _ [72, 44, 43, 34, 35, 36, 14, 37, 16, 73, 74, 75, 41, 76, 77, 45, 46, 78, 79, 80, 81, 82, 59, 60, 61, 62, 21, 83, 84, 85, 86, 87, 88, 89, 66, 90, 68, 91, 92, 93, 17, 18, 19, 20, 94, 95, 96, 97, 2, 48, 98, 99, 100, 101, 102, 103, 104, 25, 105, 28, 106, 107, 108, 109, 110, 111, 112, 113, 27, 114, 115, 116, 117, 118, 58, 119, 120, 121, 122, 29, 123, 124, 125, 126, 127, 128, 176, 177, 178, 179, 180, 181, 182, 183, 184, 185, 186, 187, 188, 189, 193, 194, 195, 196, 190, 191, 192] (by decide +kernel) (by decide +kernel)
set_option maxRecDepth 20000 in
theorem gX3_writeDelta_X3_findInstructions : GoodIn wsX3_writeDelta (wsV RX3 89 RX3 yX3_findInstructions wsX3_findInstructions) := goodIn_app (goodIn_of _ (by decide +kernel)) ggX3_writeDelta_X3_findInstructions
set_option maxRecDepth 20000 in
theorem ggX3_writeDelta_X3_chooseCodes : GoodIn wsX3_writeDelta wsX3_chooseCodes := goodIn_r _ [132, 45, 47, 133, 134, 135, 66, 136, 68, 137, 138, 139, 140, 91, 92, 93, 141, 142, 143, 144, 145, 146, 147, 17, 18, 19, 14, 20, 16, 21, 148, 149, 150, 151, 152, 153, 154, 155, 156, 157, 158, 159, 160, 161, 162, 163, 164, 165, 166, 167, 168, 169, 170, 115, 116, 117, 118, 58, 176, 177, 178, 179, 180, 181, 182, 183, 184, 185, 186, 187, 193, 194, 195, 196, 188, 189] (by decide +kernel) (by decide +kernel)
set_option maxRecDepth 20000 in
theorem gX3_writeDelta_X3_chooseCodes : GoodIn wsX3_writeDelta (wsV RX3 92 RX3 yX3_chooseCodes wsX3_chooseCodes) := goodIn_app (goodIn_of _ (by decide +kernel)) ggX3_writeDelta_X3_chooseCodes
set_option maxRecDepth 20000 in
theorem ggX3_writeDelta_X3_writeWindow : GoodIn wsX3_writeDelta wsX3_writeWindow := goodIn_r _ [174, 44, 1, 49, 43, 46, 47, 48, 34, 35, 36, 14, 37, 16, 17, 18, 19, 20, 21, 115, 116, 117, 118, 58, 175, 55, 56, 57, 176, 177, 178, 179, 180, 181, 182, 183, 184, 185, 186, 187, 188, 189] (by decide +kernel) (by decide +kernel)
set_option maxRecDepth 20000 in
theorem gX3_writeDelta_X3_writeWindow : GoodIn wsX3_writeDelta (wsV RX3 95 RX3 yX3_writeWindow wsX3_writeWindow) := goodIn_app (goodIn_of _ (by decide +kernel)) ggX3_writeDelta_X3_writeWindow
theorem dX3_writeDelta_0 : decode cX3_writeDelta 0 = .ok (.aload_n 0, 1) := by decide +kernel
theorem dX3_writeDelta_1 : decode cX3_writeDelta 1 = .ok (.getfield 18, 3) := by decide +kernel
theorem dX3_writeDelta_4 : decode cX3_writeDelta 4 = .ok (.iconst 0, 1) := by decide +kernel
theorem dX3_writeDelta_5 : decode cX3_writeDelta 5 = .ok (.invokevirtual 62, 3) := by decide +kernel
theorem dX3_writeDelta_8 : decode cX3_writeDelta 8 = .ok (.getstatic 65, 3) := by decide +kernel
theorem dX3_writeDelta_11 : decode cX3_writeDelta 11 = .ok (.astore_n 2, 1) := by decide +kernel
theorem dX3_writeDelta_12 : decode cX3_writeDelta 12 = .ok (.aload_n 2, 1) := by decide +kernel
theorem dX3_writeDelta_13 : decode cX3_writeDelta 13 = .ok (.arraylength, 1) := by decide +kernel
theorem dX3_writeDelta_14 : decode cX3_writeDelta 14 = .ok (.istore_n 3, 1) := by decide +kernel
theorem dX3_writeDelta_15 : decode cX3_writeDelta 15 = .ok (.iconst 0, 1) := by decide +kernel
theorem dX3_writeDelta_16 : decode cX3_writeDelta 16 = .ok (.istore 4, 2) := by decide +kernel
theorem dX3_writeDelta_18 : decode cX3_writeDelta 18 = .ok (.iload 4, 2) := by decide +kernel
theorem dX3_writeDelta_20 : decode cX3_writeDelta 20 = .ok (.iload_n 3, 1) := by decide +kernel
theorem dX3_writeDelta_21 : decode cX3_writeDelta 21 = .ok (.if_icmp .ge 24, 3) := by decide +kernel
theorem dX3_writeDelta_24 : decode cX3_writeDelta 24 = .ok (.aload_n 2, 1) := by decide +kernel
theorem dX3_writeDelta_25 : decode cX3_writeDelta 25 = .ok (.iload 4, 2) := by decide +kernel
theorem dX3_writeDelta_27 : decode cX3_writeDelta 27 = .ok (.iaload, 1) := by decide +kernel
theorem dX3_writeDelta_28 : decode cX3_writeDelta 28 = .ok (.istore 5, 2) := by decide +kernel
theorem dX3_writeDelta_30 : decode cX3_writeDelta 30 = .ok (.aload_n 0, 1) := by decide +kernel
theorem dX3_writeDelta_31 : decode cX3_writeDelta 31 = .ok (.getfield 18, 3) := by decide +kernel
theorem dX3_writeDelta_34 : decode cX3_writeDelta 34 = .ok (.iload 5, 2) := by decide +kernel
theorem dX3_writeDelta_36 : decode cX3_writeDelta 36 = .ok (.invokevirtual 69, 3) := by decide +kernel
theorem dX3_writeDelta_39 : decode cX3_writeDelta 39 = .ok (.iinc 4 1, 3) := by decide +kernel
theorem dX3_writeDelta_42 : decode cX3_writeDelta 42 = .ok (.goto (-24), 3) := by decide +kernel
theorem dX3_writeDelta_45 : decode cX3_writeDelta 45 = .ok (.aload_n 0, 1) := by decide +kernel
theorem dX3_writeDelta_46 : decode cX3_writeDelta 46 = .ok (.getfield 24, 3) := by decide +kernel
theorem dX3_writeDelta_49 : decode cX3_writeDelta 49 = .ok (.invokevirtual 72, 3) := by decide +kernel
theorem dX3_writeDelta_52 : decode cX3_writeDelta 52 = .ok (.iconst 0, 1) := by decide +kernel
theorem dX3_writeDelta_53 : decode cX3_writeDelta 53 = .ok (.istore_n 2, 1) := by decide +kernel
theorem dX3_writeDelta_54 : decode cX3_writeDelta 54 = .ok (.iload_n 2, 1) := by decide +kernel
theorem dX3_writeDelta_55 : decode cX3_writeDelta 55 = .ok (.aload_n 0, 1) := by decide +kernel
theorem dX3_writeDelta_56 : decode cX3_writeDelta 56 = .ok (.getfield 15, 3) := by decide +kernel
theorem dX3_writeDelta_59 : decode cX3_writeDelta 59 = .ok (.invokevirtual 75, 3) := by decide +kernel
theorem dX3_writeDelta_62 : decode cX3_writeDelta 62 = .ok (.if_icmp .ge 44, 3) := by decide +kernel
theorem dX3_writeDelta_65 : decode cX3_writeDelta 65 = .ok (.aload_n 0, 1) := by decide +kernel
theorem dX3_writeDelta_66 : decode cX3_writeDelta 66 = .ok (.iload_n 2, 1) := by decide +kernel
theorem dX3_writeDelta_67 : decode cX3_writeDelta 67 = .ok (.iload_n 2, 1) := by decide +kernel
theorem dX3_writeDelta_68 : decode cX3_writeDelta 68 = .ok (.iload_n 1, 1) := by decide +kernel
theorem dX3_writeDelta_69 : decode cX3_writeDelta 69 = .ok (.iadd, 1) := by decide +kernel
theorem dX3_writeDelta_70 : decode cX3_writeDelta 70 = .ok (.aload_n 0, 1) := by decide +kernel
theorem dX3_writeDelta_71 : decode cX3_writeDelta 71 = .ok (.getfield 15, 3) := by decide +kernel
theorem dX3_writeDelta_74 : decode cX3_writeDelta 74 = .ok (.invokevirtual 75, 3) := by decide +kernel
theorem dX3_writeDelta_77 : decode cX3_writeDelta 77 = .ok (.invokestatic 79, 3) := by decide +kernel
theorem dX3_writeDelta_80 : decode cX3_writeDelta 80 = .ok (.invokevirtual 85, 3) := by decide +kernel
theorem dX3_writeDelta_83 : decode cX3_writeDelta 83 = .ok (.aload_n 0, 1) := by decide +kernel
theorem dX3_writeDelta_84 : decode cX3_writeDelta 84 = .ok (.invokevirtual 89, 3) := by decide +kernel
theorem dX3_writeDelta_87 : decode cX3_writeDelta 87 = .ok (.aload_n 0, 1) := by decide +kernel
theorem dX3_writeDelta_88 : decode cX3_writeDelta 88 = .ok (.invokevirtual 92, 3) := by decide +kernel
theorem dX3_writeDelta_91 : decode cX3_writeDelta 91 = .ok (.aload_n 0, 1) := by decide +kernel
theorem dX3_writeDelta_92 : decode cX3_writeDelta 92 = .ok (.invokevirtual 95, 3) := by decide +kernel
theorem dX3_writeDelta_95 : decode cX3_writeDelta 95 = .ok (.iload_n 2, 1) := by decide +kernel
theorem dX3_writeDelta_96 : decode cX3_writeDelta 96 = .ok (.iconst 1, 1) := by decide +kernel
theorem dX3_writeDelta_97 : decode cX3_writeDelta 97 = .ok (.iload_n 1, 1) := by decide +kernel
theorem dX3_writeDelta_98 : decode cX3_writeDelta 98 = .ok (.invokestatic 98, 3) := by decide +kernel
theorem dX3_writeDelta_101 : decode cX3_writeDelta 101 = .ok (.iadd, 1) := by decide +kernel
theorem dX3_writeDelta_102 : decode cX3_writeDelta 102 = .ok (.istore_n 2, 1) := by decide +kernel
theorem dX3_writeDelta_103 : decode cX3_writeDelta 103 = .ok (.goto (-49), 3) := by decide +kernel
theorem dX3_writeDelta_106 : decode cX3_writeDelta 106 = .ok (.return_, 1) := by decide +kernel
set_option maxRecDepth 20000 in
theorem ggX3_takePiece_X6_become : GoodIn wsX3_takePiece wsX6_become := goodIn_r _ [14, 15, 16, 17, 18, 13, 19, 20, 21, 22, 23, 24, 64, 65] (by decide +kernel) (by decide +kernel)
set_option maxRecDepth 20000 in
theorem gX3_takePiece_X6_become : GoodIn wsX3_takePiece (wsV RX3 101 RX6 yX6_become wsX6_become) := goodIn_app (goodIn_of _ (by decide +kernel)) ggX3_takePiece_X6_become
set_option maxRecDepth 20000 in
theorem ggX3_takePiece_X6_at : GoodIn wsX3_takePiece wsX6_at := goodIn_r _ [28, 15, 20, 64, 65] (by decide +kernel) (by decide +kernel)
set_option maxRecDepth 20000 in
theorem gX3_takePiece_X6_at : GoodIn wsX3_takePiece (wsV RX3 105 RX6 yX6_at wsX6_at) := goodIn_app (goodIn_of _ (by decide +kernel)) ggX3_takePiece_X6_at
set_option maxRecDepth 20000 in
theorem ggX3_takePiece_X6_append : GoodIn wsX3_takePiece wsX6_append := goodIn_r _ [24, 15, 20, 64, 65] (by decide +kernel) (by decide +kernel)
set_option maxRecDepth 20000 in
theorem gX3_takePiece_X6_append : GoodIn wsX3_takePiece (wsV RX3 69 RX6 yX6_append wsX6_append) := goodIn_app (goodIn_of _ (by decide +kernel)) ggX3_takePiece_X6_append
set_option maxRecDepth 20000 in
theorem ggX3_takePiece_X0_clear : GoodIn wsX3_takePiece wsX0_clear := goodIn_r _ [34, 35, 36, 37, 38, 39, 40, 41, 66, 67, 68] (by decide +kernel) (by decide +kernel)
set_option maxRecDepth 20000 in
theorem gX3_takePiece_X0_clear : GoodIn wsX3_takePiece (wsV RX3 72 RX0 yX0_clear wsX0_clear) := goodIn_app (goodIn_of _ (by decide +kernel)) ggX3_takePiece_X0_clear
set_option maxRecDepth 20000 in
theorem ggX3_takePiece_X4_clear : GoodIn wsX3_takePiece wsX4_clear := goodIn_r _ [46, 47, 69, 70, 71, 72] (by decide +kernel) (by decide +kernel)
set_option maxRecDepth 20000 in
theorem gX3_takePiece_X4_clear : GoodIn wsX3_takePiece (wsV RX3 109 RX4 yX4_clear wsX4_clear) := goodIn_app (goodIn_of _ (by decide +kernel)) ggX3_takePiece_X4_clear
set_option maxRecDepth 20000 in
theorem ggX3_takePiece_X6_keep : GoodIn wsX3_takePiece wsX6_keep := goodIn_r _ [51, 15, 64, 65] (by decide +kernel) (by decide +kernel)
set_option maxRecDepth 20000 in
theorem gX3_takePiece_X6_keep : GoodIn wsX3_takePiece (wsV RX3 62 RX6 yX6_keep wsX6_keep) := goodIn_app (goodIn_of _ (by decide +kernel)) ggX3_takePiece_X6_keep
theorem dX3_takePiece_0 : decode cX3_takePiece 0 = .ok (.aload_n 0, 1) := by decide +kernel
theorem dX3_takePiece_1 : decode cX3_takePiece 1 = .ok (.getfield 40, 3) := by decide +kernel
theorem dX3_takePiece_4 : decode cX3_takePiece 4 = .ok (.aload_n 0, 1) := by decide +kernel
theorem dX3_takePiece_5 : decode cX3_takePiece 5 = .ok (.getfield 9, 3) := by decide +kernel
theorem dX3_takePiece_8 : decode cX3_takePiece 8 = .ok (.invokevirtual 101, 3) := by decide +kernel
theorem dX3_takePiece_11 : decode cX3_takePiece 11 = .ok (.iload_n 1, 1) := by decide +kernel
theorem dX3_takePiece_12 : decode cX3_takePiece 12 = .ok (.istore_n 3, 1) := by decide +kernel
theorem dX3_takePiece_13 : decode cX3_takePiece 13 = .ok (.iload_n 3, 1) := by decide +kernel
theorem dX3_takePiece_14 : decode cX3_takePiece 14 = .ok (.iload_n 2, 1) := by decide +kernel
theorem dX3_takePiece_15 : decode cX3_takePiece 15 = .ok (.if_icmp .ge 24, 3) := by decide +kernel
theorem dX3_takePiece_18 : decode cX3_takePiece 18 = .ok (.aload_n 0, 1) := by decide +kernel
theorem dX3_takePiece_19 : decode cX3_takePiece 19 = .ok (.getfield 40, 3) := by decide +kernel
theorem dX3_takePiece_22 : decode cX3_takePiece 22 = .ok (.aload_n 0, 1) := by decide +kernel
theorem dX3_takePiece_23 : decode cX3_takePiece 23 = .ok (.getfield 15, 3) := by decide +kernel
theorem dX3_takePiece_26 : decode cX3_takePiece 26 = .ok (.iload_n 3, 1) := by decide +kernel
theorem dX3_takePiece_27 : decode cX3_takePiece 27 = .ok (.invokevirtual 105, 3) := by decide +kernel
theorem dX3_takePiece_30 : decode cX3_takePiece 30 = .ok (.invokevirtual 69, 3) := by decide +kernel
theorem dX3_takePiece_33 : decode cX3_takePiece 33 = .ok (.iinc 3 1, 3) := by decide +kernel
theorem dX3_takePiece_36 : decode cX3_takePiece 36 = .ok (.goto (-23), 3) := by decide +kernel
theorem dX3_takePiece_39 : decode cX3_takePiece 39 = .ok (.aload_n 0, 1) := by decide +kernel
theorem dX3_takePiece_40 : decode cX3_takePiece 40 = .ok (.getfield 24, 3) := by decide +kernel
theorem dX3_takePiece_43 : decode cX3_takePiece 43 = .ok (.invokevirtual 72, 3) := by decide +kernel
theorem dX3_takePiece_46 : decode cX3_takePiece 46 = .ok (.aload_n 0, 1) := by decide +kernel
theorem dX3_takePiece_47 : decode cX3_takePiece 47 = .ok (.getfield 31, 3) := by decide +kernel
theorem dX3_takePiece_50 : decode cX3_takePiece 50 = .ok (.invokevirtual 109, 3) := by decide +kernel
theorem dX3_takePiece_53 : decode cX3_takePiece 53 = .ok (.aload_n 0, 1) := by decide +kernel
theorem dX3_takePiece_54 : decode cX3_takePiece 54 = .ok (.getfield 43, 3) := by decide +kernel
theorem dX3_takePiece_57 : decode cX3_takePiece 57 = .ok (.iconst 0, 1) := by decide +kernel
theorem dX3_takePiece_58 : decode cX3_takePiece 58 = .ok (.invokevirtual 62, 3) := by decide +kernel
theorem dX3_takePiece_61 : decode cX3_takePiece 61 = .ok (.aload_n 0, 1) := by decide +kernel
theorem dX3_takePiece_62 : decode cX3_takePiece 62 = .ok (.getfield 46, 3) := by decide +kernel
theorem dX3_takePiece_65 : decode cX3_takePiece 65 = .ok (.iconst 0, 1) := by decide +kernel
theorem dX3_takePiece_66 : decode cX3_takePiece 66 = .ok (.invokevirtual 62, 3) := by decide +kernel
theorem dX3_takePiece_69 : decode cX3_takePiece 69 = .ok (.aload_n 0, 1) := by decide +kernel
theorem dX3_takePiece_70 : decode cX3_takePiece 70 = .ok (.getfield 49, 3) := by decide +kernel
theorem dX3_takePiece_73 : decode cX3_takePiece 73 = .ok (.iconst 0, 1) := by decide +kernel
theorem dX3_takePiece_74 : decode cX3_takePiece 74 = .ok (.invokevirtual 62, 3) := by decide +kernel
theorem dX3_takePiece_77 : decode cX3_takePiece 77 = .ok (.aload_n 0, 1) := by decide +kernel
theorem dX3_takePiece_78 : decode cX3_takePiece 78 = .ok (.getfield 52, 3) := by decide +kernel
theorem dX3_takePiece_81 : decode cX3_takePiece 81 = .ok (.iconst 0, 1) := by decide +kernel
theorem dX3_takePiece_82 : decode cX3_takePiece 82 = .ok (.invokevirtual 62, 3) := by decide +kernel
theorem dX3_takePiece_85 : decode cX3_takePiece 85 = .ok (.return_, 1) := by decide +kernel
set_option maxRecDepth 20000 in
theorem ggX3_findInstructions_X6_count : GoodIn wsX3_findInstructions wsX6_count := goodIn_r _ [7, 8, 98, 99] (by decide +kernel) (by decide +kernel)
set_option maxRecDepth 20000 in
theorem gX3_findInstructions_X6_count : GoodIn wsX3_findInstructions (wsV RX3 75 RX6 yX6_count wsX6_count) := goodIn_app (goodIn_of _ (by decide +kernel)) ggX3_findInstructions_X6_count
set_option maxRecDepth 20000 in
theorem ggX3_findInstructions_X3_findInstruction : GoodIn wsX3_findInstructions wsX3_findInstruction := goodIn_r _ [13, 14, 15, 16, 2, 17, 18, 19, 20, 12, 21, 3, 4, 5, 6, 7, 8, 22, 23, 24, 25, 26, 27, 28, 29, 30, 31, 32, 33, 34, 35, 36, 37, 38, 39, 40, 41, 42, 43, 44, 45, 46, 47, 48, 49, 50, 51, 52, 53, 54, 55, 56, 57, 58, 59, 60, 61, 62, 63, 64, 65, 66, 67, 68, 69, 70, 71, 72, 73, 74, 75, 76, 77, 78, 79, 80, 81, 82, 83, 84, 85, 86, 87, 88, 89, 90, 91, 92, 93, 94, 95, 96, 97, 98, 99, 100, 101, 102, 103, 104, 105, 106] (by decide +kernel) (by decide +kernel)
set_option maxRecDepth 20000 in
theorem gX3_findInstructions_X3_findInstruction : GoodIn wsX3_findInstructions (wsV RX3 110 RX3 yX3_findInstruction wsX3_findInstruction) := goodIn_app (goodIn_of _ (by decide +kernel)) ggX3_findInstructions_X3_findInstruction
theorem dX3_findInstructions_0 : decode cX3_findInstructions 0 = .ok (.aload_n 0, 1) := by decide +kernel
theorem dX3_findInstructions_1 : decode cX3_findInstructions 1 = .ok (.getfield 9, 3) := by decide +kernel
theorem dX3_findInstructions_4 : decode cX3_findInstructions 4 = .ok (.invokevirtual 75, 3) := by decide +kernel
theorem dX3_findInstructions_7 : decode cX3_findInstructions 7 = .ok (.istore_n 1, 1) := by decide +kernel
theorem dX3_findInstructions_8 : decode cX3_findInstructions 8 = .ok (.aload_n 0, 1) := by decide +kernel
theorem dX3_findInstructions_9 : decode cX3_findInstructions 9 = .ok (.getfield 9, 3) := by decide +kernel
theorem dX3_findInstructions_12 : decode cX3_findInstructions 12 = .ok (.invokevirtual 75, 3) := by decide +kernel
theorem dX3_findInstructions_15 : decode cX3_findInstructions 15 = .ok (.istore_n 2, 1) := by decide +kernel
theorem dX3_findInstructions_16 : decode cX3_findInstructions 16 = .ok (.iload_n 2, 1) := by decide +kernel
theorem dX3_findInstructions_17 : decode cX3_findInstructions 17 = .ok (.aload_n 0, 1) := by decide +kernel
theorem dX3_findInstructions_18 : decode cX3_findInstructions 18 = .ok (.getfield 40, 3) := by decide +kernel
theorem dX3_findInstructions_21 : decode cX3_findInstructions 21 = .ok (.invokevirtual 75, 3) := by decide +kernel
theorem dX3_findInstructions_24 : decode cX3_findInstructions 24 = .ok (.if_icmp .ge 22, 3) := by decide +kernel
theorem dX3_findInstructions_27 : decode cX3_findInstructions 27 = .ok (.iload_n 2, 1) := by decide +kernel
theorem dX3_findInstructions_28 : decode cX3_findInstructions 28 = .ok (.iload_n 1, 1) := by decide +kernel
theorem dX3_findInstructions_29 : decode cX3_findInstructions 29 = .ok (.if_icmp .ne 11, 3) := by decide +kernel
theorem dX3_findInstructions_32 : decode cX3_findInstructions 32 = .ok (.iload_n 1, 1) := by decide +kernel
theorem dX3_findInstructions_33 : decode cX3_findInstructions 33 = .ok (.aload_n 0, 1) := by decide +kernel
theorem dX3_findInstructions_34 : decode cX3_findInstructions 34 = .ok (.iload_n 2, 1) := by decide +kernel
theorem dX3_findInstructions_35 : decode cX3_findInstructions 35 = .ok (.invokevirtual 110, 3) := by decide +kernel
theorem dX3_findInstructions_38 : decode cX3_findInstructions 38 = .ok (.iadd, 1) := by decide +kernel
theorem dX3_findInstructions_39 : decode cX3_findInstructions 39 = .ok (.istore_n 1, 1) := by decide +kernel
theorem dX3_findInstructions_40 : decode cX3_findInstructions 40 = .ok (.iinc 2 1, 3) := by decide +kernel
theorem dX3_findInstructions_43 : decode cX3_findInstructions 43 = .ok (.goto (-27), 3) := by decide +kernel
theorem dX3_findInstructions_46 : decode cX3_findInstructions 46 = .ok (.return_, 1) := by decide +kernel
set_option maxRecDepth 20000 in
theorem ggX3_findInstruction_X3_sameBytes : GoodIn wsX3_findInstruction wsX3_sameBytes := goodIn_r _ [10, 4, 11, 12, 13, 14, 15, 16, 17, 18, 19, 20, 21, 81, 82, 83, 84, 85, 86, 87, 88, 89, 90, 91, 92, 93, 94] (by decide +kernel) (by decide +kernel)
set_option maxRecDepth 20000 in
theorem gX3_findInstruction_X3_sameBytes : GoodIn wsX3_findInstruction (wsV RX3 113 RX3 yX3_sameBytes wsX3_sameBytes) := goodIn_app (goodIn_of _ (by decide +kernel)) ggX3_findInstruction_X3_sameBytes
set_option maxRecDepth 20000 in
theorem ggX3_findInstruction_X3_findCopy : GoodIn wsX3_findInstruction wsX3_findCopy := goodIn_r _ [25, 1, 5, 4, 11, 12, 13, 14, 15, 16, 17, 18, 19, 20, 21, 81, 82, 83, 84, 85, 86, 87, 88, 89, 90, 91, 92, 93, 94] (by decide +kernel) (by decide +kernel)
set_option maxRecDepth 20000 in
theorem gX3_findInstruction_X3_findCopy : GoodIn wsX3_findInstruction (wsV RX3 116 RX3 yX3_findCopy wsX3_findCopy) := goodIn_app (goodIn_of _ (by decide +kernel)) ggX3_findInstruction_X3_findCopy
set_option maxRecDepth 20000 in
theorem ggX3_findInstruction_X4_append : GoodIn wsX3_findInstruction wsX4_append := goodIn_r _ [30, 31, 32, 33, 34, 95, 96, 97, 98] (by decide +kernel) (by decide +kernel)
set_option maxRecDepth 20000 in
theorem gX3_findInstruction_X4_append : GoodIn wsX3_findInstruction (wsV RX3 119 RX4 yX4_append wsX4_append) := goodIn_app (goodIn_of _ (by decide +kernel)) ggX3_findInstruction_X4_append
set_option maxRecDepth 20000 in
theorem ggX3_findInstruction_X6_at : GoodIn wsX3_findInstruction wsX6_at := goodIn_r _ [20, 16, 21, 93, 94] (by decide +kernel) (by decide +kernel)
