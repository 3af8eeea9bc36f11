theorem dX8_copy_82 : decode cX8_copy 82 = .ok (.idiv, 1) := by decide +kernel
theorem dX8_copy_83 : decode cX8_copy 83 = .ok (.iadd, 1) := by decide +kernel
theorem dX8_copy_84 : decode cX8_copy 84 = .ok (.istore 4, 2) := by decide +kernel
theorem dX8_copy_86 : decode cX8_copy 86 = .ok (.aload_n 0, 1) := by decide +kernel
theorem dX8_copy_87 : decode cX8_copy 87 = .ok (.iconst 2, 1) := by decide +kernel
theorem dX8_copy_88 : decode cX8_copy 88 = .ok (.iload_n 1, 1) := by decide +kernel
theorem dX8_copy_89 : decode cX8_copy 89 = .ok (.sipush 768, 3) := by decide +kernel
theorem dX8_copy_92 : decode cX8_copy 92 = .ok (.irem, 1) := by decide +kernel
theorem dX8_copy_93 : decode cX8_copy 93 = .ok (.sipush 256, 3) := by decide +kernel
theorem dX8_copy_96 : decode cX8_copy 96 = .ok (.irem, 1) := by decide +kernel
theorem dX8_copy_97 : decode cX8_copy 97 = .ok (.invokevirtual 73, 3) := by decide +kernel
theorem dX8_copy_100 : decode cX8_copy 100 = .ok (.goto 16, 3) := by decide +kernel
theorem dX8_copy_103 : decode cX8_copy 103 = .ok (.aload_n 0, 1) := by decide +kernel
theorem dX8_copy_104 : decode cX8_copy 104 = .ok (.iconst 2, 1) := by decide +kernel
theorem dX8_copy_105 : decode cX8_copy 105 = .ok (.aload_n 0, 1) := by decide +kernel
theorem dX8_copy_106 : decode cX8_copy 106 = .ok (.iload 4, 2) := by decide +kernel
theorem dX8_copy_108 : decode cX8_copy 108 = .ok (.iload_n 1, 1) := by decide +kernel
theorem dX8_copy_109 : decode cX8_copy 109 = .ok (.iload_n 3, 1) := by decide +kernel
theorem dX8_copy_110 : decode cX8_copy 110 = .ok (.invokevirtual 86, 3) := by decide +kernel
theorem dX8_copy_113 : decode cX8_copy 113 = .ok (.invokevirtual 89, 3) := by decide +kernel
theorem dX8_copy_116 : decode cX8_copy 116 = .ok (.aload_n 0, 1) := by decide +kernel
theorem dX8_copy_117 : decode cX8_copy 117 = .ok (.iconst 3, 1) := by decide +kernel
theorem dX8_copy_118 : decode cX8_copy 118 = .ok (.iload_n 2, 1) := by decide +kernel
theorem dX8_copy_119 : decode cX8_copy 119 = .ok (.iload 4, 2) := by decide +kernel
theorem dX8_copy_121 : decode cX8_copy 121 = .ok (.invokevirtual 82, 3) := by decide +kernel
theorem dX8_copy_124 : decode cX8_copy 124 = .ok (.aload_n 0, 1) := by decide +kernel
theorem dX8_copy_125 : decode cX8_copy 125 = .ok (.iload_n 1, 1) := by decide +kernel
theorem dX8_copy_126 : decode cX8_copy 126 = .ok (.invokevirtual 92, 3) := by decide +kernel
theorem dX8_copy_129 : decode cX8_copy 129 = .ok (.return_, 1) := by decide +kernel
set_option maxRecDepth 20000 in
theorem ggX8_findInstructions_X8_reach : GoodIn wsX8_findInstructions wsX8_reach := goodIn_r _ [7, 2, 8, 9, 10, 6, 11, 1, 59, 60, 61, 62, 63, 64, 65, 66, 67, 68, 69, 70, 71, 72, 73, 74, 75, 76, 77, 78, 79] (by decide +kernel) (by decide +kernel)
set_option maxRecDepth 20000 in
theorem gX8_findInstructions_X8_reach : GoodIn wsX8_findInstructions (wsV RX8 96 RX8 yX8_reach wsX8_reach) := goodIn_app (goodIn_of _ (by decide +kernel)) ggX8_findInstructions_X8_reach
set_option maxRecDepth 20000 in
theorem ggX8_findInstructions_X8_runFrom : GoodIn wsX8_findInstructions wsX8_runFrom := goodIn_r _ [15, 2, 59, 60, 61, 62, 63, 64, 65, 66, 67, 68, 69, 70, 71, 72, 73, 74, 75, 76, 77, 78, 79] (by decide +kernel) (by decide +kernel)
set_option maxRecDepth 20000 in
theorem gX8_findInstructions_X8_runFrom : GoodIn wsX8_findInstructions (wsV RX8 100 RX8 yX8_runFrom wsX8_runFrom) := goodIn_app (goodIn_of _ (by decide +kernel)) ggX8_findInstructions_X8_runFrom
set_option maxRecDepth 20000 in
theorem ggX8_findInstructions_X8_instruct : GoodIn wsX8_findInstructions wsX8_instruct := goodIn_r _ [19, 20, 21, 22, 23, 59, 60, 61, 62, 63, 64, 65, 66, 67, 68, 69, 70, 71, 72, 73, 74, 75, 76, 77, 78, 79] (by decide +kernel) (by decide +kernel)
set_option maxRecDepth 20000 in
theorem gX8_findInstructions_X8_instruct : GoodIn wsX8_findInstructions (wsV RX8 82 RX8 yX8_instruct wsX8_instruct) := goodIn_app (goodIn_of _ (by decide +kernel)) ggX8_findInstructions_X8_instruct
set_option maxRecDepth 20000 in
theorem ggX8_findInstructions_X8_write : GoodIn wsX8_findInstructions wsX8_write := goodIn_r _ [27, 28, 29, 59, 60, 61, 62, 63, 64, 65, 66, 67, 68, 69, 70, 71, 72, 73, 74, 75, 76, 77, 78, 79] (by decide +kernel) (by decide +kernel)
set_option maxRecDepth 20000 in
theorem gX8_findInstructions_X8_write : GoodIn wsX8_findInstructions (wsV RX8 73 RX8 yX8_write wsX8_write) := goodIn_app (goodIn_of _ (by decide +kernel)) ggX8_findInstructions_X8_write
set_option maxRecDepth 20000 in
theorem ggX8_findInstructions_X8_copy : GoodIn wsX8_findInstructions wsX8_copy := goodIn_r _ [33, 34, 35, 36, 37, 6, 38, 39, 24, 25, 26, 27, 28, 29, 40, 41, 42, 43, 44, 45, 46, 47, 48, 49, 16, 17, 18, 19, 20, 21, 22, 23, 50, 51, 52, 53, 54, 59, 60, 61, 62, 63, 64, 65, 66, 67, 68, 69, 70, 71, 72, 73, 74, 75, 76, 77, 78, 79] (by decide +kernel) (by decide +kernel)
set_option maxRecDepth 20000 in
theorem gX8_findInstructions_X8_copy : GoodIn wsX8_findInstructions (wsV RX8 103 RX8 yX8_copy wsX8_copy) := goodIn_app (goodIn_of _ (by decide +kernel)) ggX8_findInstructions_X8_copy
set_option maxRecDepth 20000 in
theorem ggX8_findInstructions_X8_addByte : GoodIn wsX8_findInstructions wsX8_addByte := goodIn_r _ [58, 21, 20, 22, 16, 17, 18, 6, 19, 23, 24, 25, 26, 27, 28, 29, 59, 60, 61, 62, 63, 64, 65, 66, 67, 68, 69, 70, 71, 72, 73, 74, 75, 76, 77, 78, 79] (by decide +kernel) (by decide +kernel)
set_option maxRecDepth 20000 in
theorem gX8_findInstructions_X8_addByte : GoodIn wsX8_findInstructions (wsV RX8 106 RX8 yX8_addByte wsX8_addByte) := goodIn_app (goodIn_of _ (by decide +kernel)) ggX8_findInstructions_X8_addByte
theorem dX8_findInstructions_0 : decode cX8_findInstructions 0 = .ok (.iload_n 1, 1) := by decide +kernel
theorem dX8_findInstructions_1 : decode cX8_findInstructions 1 = .ok (.istore_n 3, 1) := by decide +kernel
theorem dX8_findInstructions_2 : decode cX8_findInstructions 2 = .ok (.iload_n 3, 1) := by decide +kernel
theorem dX8_findInstructions_3 : decode cX8_findInstructions 3 = .ok (.iload_n 2, 1) := by decide +kernel
theorem dX8_findInstructions_4 : decode cX8_findInstructions 4 = .ok (.if_icmp .ge 176, 3) := by decide +kernel
theorem dX8_findInstructions_7 : decode cX8_findInstructions 7 = .ok (.aload_n 0, 1) := by decide +kernel
theorem dX8_findInstructions_8 : decode cX8_findInstructions 8 = .ok (.getfield 13, 3) := by decide +kernel
theorem dX8_findInstructions_11 : decode cX8_findInstructions 11 = .ok (.iconst 0, 1) := by decide +kernel
theorem dX8_findInstructions_12 : decode cX8_findInstructions 12 = .ok (.iaload, 1) := by decide +kernel
theorem dX8_findInstructions_13 : decode cX8_findInstructions 13 = .ok (.iload_n 3, 1) := by decide +kernel
theorem dX8_findInstructions_14 : decode cX8_findInstructions 14 = .ok (.iadd, 1) := by decide +kernel
theorem dX8_findInstructions_15 : decode cX8_findInstructions 15 = .ok (.iload_n 1, 1) := by decide +kernel
theorem dX8_findInstructions_16 : decode cX8_findInstructions 16 = .ok (.isub, 1) := by decide +kernel
theorem dX8_findInstructions_17 : decode cX8_findInstructions 17 = .ok (.istore 4, 2) := by decide +kernel
theorem dX8_findInstructions_19 : decode cX8_findInstructions 19 = .ok (.iconst (-1), 1) := by decide +kernel
theorem dX8_findInstructions_20 : decode cX8_findInstructions 20 = .ok (.istore 5, 2) := by decide +kernel
theorem dX8_findInstructions_22 : decode cX8_findInstructions 22 = .ok (.iconst 0, 1) := by decide +kernel
theorem dX8_findInstructions_23 : decode cX8_findInstructions 23 = .ok (.istore 6, 2) := by decide +kernel
theorem dX8_findInstructions_25 : decode cX8_findInstructions 25 = .ok (.iconst 0, 1) := by decide +kernel
theorem dX8_findInstructions_26 : decode cX8_findInstructions 26 = .ok (.istore 7, 2) := by decide +kernel
theorem dX8_findInstructions_28 : decode cX8_findInstructions 28 = .ok (.iload 7, 2) := by decide +kernel
theorem dX8_findInstructions_30 : decode cX8_findInstructions 30 = .ok (.iload 4, 2) := by decide +kernel
theorem dX8_findInstructions_32 : decode cX8_findInstructions 32 = .ok (.if_icmp .ge 52, 3) := by decide +kernel
theorem dX8_findInstructions_35 : decode cX8_findInstructions 35 = .ok (.aload_n 0, 1) := by decide +kernel
theorem dX8_findInstructions_36 : decode cX8_findInstructions 36 = .ok (.iload_n 1, 1) := by decide +kernel
theorem dX8_findInstructions_37 : decode cX8_findInstructions 37 = .ok (.iload_n 2, 1) := by decide +kernel
theorem dX8_findInstructions_38 : decode cX8_findInstructions 38 = .ok (.iload_n 3, 1) := by decide +kernel
theorem dX8_findInstructions_39 : decode cX8_findInstructions 39 = .ok (.iload 7, 2) := by decide +kernel
theorem dX8_findInstructions_41 : decode cX8_findInstructions 41 = .ok (.invokevirtual 96, 3) := by decide +kernel
theorem dX8_findInstructions_44 : decode cX8_findInstructions 44 = .ok (.istore 8, 2) := by decide +kernel
theorem dX8_findInstructions_46 : decode cX8_findInstructions 46 = .ok (.iload 8, 2) := by decide +kernel
theorem dX8_findInstructions_48 : decode cX8_findInstructions 48 = .ok (.iload 6, 2) := by decide +kernel
theorem dX8_findInstructions_50 : decode cX8_findInstructions 50 = .ok (.if_icmp .le 8, 3) := by decide +kernel
theorem dX8_findInstructions_53 : decode cX8_findInstructions 53 = .ok (.iload 7, 2) := by decide +kernel
theorem dX8_findInstructions_55 : decode cX8_findInstructions 55 = .ok (.goto 5, 3) := by decide +kernel
theorem dX8_findInstructions_58 : decode cX8_findInstructions 58 = .ok (.iload 5, 2) := by decide +kernel
theorem dX8_findInstructions_60 : decode cX8_findInstructions 60 = .ok (.istore 5, 2) := by decide +kernel
theorem dX8_findInstructions_62 : decode cX8_findInstructions 62 = .ok (.iload 8, 2) := by decide +kernel
theorem dX8_findInstructions_64 : decode cX8_findInstructions 64 = .ok (.iload 6, 2) := by decide +kernel
theorem dX8_findInstructions_66 : decode cX8_findInstructions 66 = .ok (.if_icmp .le 8, 3) := by decide +kernel
theorem dX8_findInstructions_69 : decode cX8_findInstructions 69 = .ok (.iload 8, 2) := by decide +kernel
theorem dX8_findInstructions_71 : decode cX8_findInstructions 71 = .ok (.goto 5, 3) := by decide +kernel
theorem dX8_findInstructions_74 : decode cX8_findInstructions 74 = .ok (.iload 6, 2) := by decide +kernel
theorem dX8_findInstructions_76 : decode cX8_findInstructions 76 = .ok (.istore 6, 2) := by decide +kernel
theorem dX8_findInstructions_78 : decode cX8_findInstructions 78 = .ok (.iinc 7 1, 3) := by decide +kernel
theorem dX8_findInstructions_81 : decode cX8_findInstructions 81 = .ok (.goto (-53), 3) := by decide +kernel
theorem dX8_findInstructions_84 : decode cX8_findInstructions 84 = .ok (.aload_n 0, 1) := by decide +kernel
theorem dX8_findInstructions_85 : decode cX8_findInstructions 85 = .ok (.iload_n 3, 1) := by decide +kernel
theorem dX8_findInstructions_86 : decode cX8_findInstructions 86 = .ok (.iload_n 2, 1) := by decide +kernel
theorem dX8_findInstructions_87 : decode cX8_findInstructions 87 = .ok (.invokevirtual 100, 3) := by decide +kernel
theorem dX8_findInstructions_90 : decode cX8_findInstructions 90 = .ok (.istore 7, 2) := by decide +kernel
theorem dX8_findInstructions_92 : decode cX8_findInstructions 92 = .ok (.iload 7, 2) := by decide +kernel
theorem dX8_findInstructions_94 : decode cX8_findInstructions 94 = .ok (.iconst 4, 1) := by decide +kernel
theorem dX8_findInstructions_95 : decode cX8_findInstructions 95 = .ok (.if_icmp .lt 41, 3) := by decide +kernel
theorem dX8_findInstructions_98 : decode cX8_findInstructions 98 = .ok (.iload 7, 2) := by decide +kernel
theorem dX8_findInstructions_100 : decode cX8_findInstructions 100 = .ok (.iload 6, 2) := by decide +kernel
theorem dX8_findInstructions_102 : decode cX8_findInstructions 102 = .ok (.if_icmp .lt 34, 3) := by decide +kernel
theorem dX8_findInstructions_105 : decode cX8_findInstructions 105 = .ok (.aload_n 0, 1) := by decide +kernel
theorem dX8_findInstructions_106 : decode cX8_findInstructions 106 = .ok (.iconst 2, 1) := by decide +kernel
theorem dX8_findInstructions_107 : decode cX8_findInstructions 107 = .ok (.iload 7, 2) := by decide +kernel
theorem dX8_findInstructions_109 : decode cX8_findInstructions 109 = .ok (.iconst 0, 1) := by decide +kernel
theorem dX8_findInstructions_110 : decode cX8_findInstructions 110 = .ok (.invokevirtual 82, 3) := by decide +kernel
theorem dX8_findInstructions_113 : decode cX8_findInstructions 113 = .ok (.aload_n 0, 1) := by decide +kernel
theorem dX8_findInstructions_114 : decode cX8_findInstructions 114 = .ok (.iconst 0, 1) := by decide +kernel
theorem dX8_findInstructions_115 : decode cX8_findInstructions 115 = .ok (.aload_n 0, 1) := by decide +kernel
theorem dX8_findInstructions_116 : decode cX8_findInstructions 116 = .ok (.getfield 7, 3) := by decide +kernel
theorem dX8_findInstructions_119 : decode cX8_findInstructions 119 = .ok (.sipush 1000, 3) := by decide +kernel
theorem dX8_findInstructions_122 : decode cX8_findInstructions 122 = .ok (.iload_n 3, 1) := by decide +kernel
theorem dX8_findInstructions_123 : decode cX8_findInstructions 123 = .ok (.iadd, 1) := by decide +kernel
theorem dX8_findInstructions_124 : decode cX8_findInstructions 124 = .ok (.iaload, 1) := by decide +kernel
theorem dX8_findInstructions_125 : decode cX8_findInstructions 125 = .ok (.invokevirtual 73, 3) := by decide +kernel
theorem dX8_findInstructions_128 : decode cX8_findInstructions 128 = .ok (.iload_n 3, 1) := by decide +kernel
theorem dX8_findInstructions_129 : decode cX8_findInstructions 129 = .ok (.iload 7, 2) := by decide +kernel
theorem dX8_findInstructions_131 : decode cX8_findInstructions 131 = .ok (.iadd, 1) := by decide +kernel
theorem dX8_findInstructions_132 : decode cX8_findInstructions 132 = .ok (.istore_n 3, 1) := by decide +kernel
theorem dX8_findInstructions_133 : decode cX8_findInstructions 133 = .ok (.goto 44, 3) := by decide +kernel
theorem dX8_findInstructions_136 : decode cX8_findInstructions 136 = .ok (.iload 6, 2) := by decide +kernel
theorem dX8_findInstructions_138 : decode cX8_findInstructions 138 = .ok (.iconst 4, 1) := by decide +kernel
theorem dX8_findInstructions_139 : decode cX8_findInstructions 139 = .ok (.if_icmp .lt 21, 3) := by decide +kernel
theorem dX8_findInstructions_142 : decode cX8_findInstructions 142 = .ok (.aload_n 0, 1) := by decide +kernel
theorem dX8_findInstructions_143 : decode cX8_findInstructions 143 = .ok (.iload 5, 2) := by decide +kernel
theorem dX8_findInstructions_145 : decode cX8_findInstructions 145 = .ok (.iload 6, 2) := by decide +kernel
theorem dX8_findInstructions_147 : decode cX8_findInstructions 147 = .ok (.iload 4, 2) := by decide +kernel
theorem dX8_findInstructions_149 : decode cX8_findInstructions 149 = .ok (.invokevirtual 103, 3) := by decide +kernel
theorem dX8_findInstructions_152 : decode cX8_findInstructions 152 = .ok (.iload_n 3, 1) := by decide +kernel
theorem dX8_findInstructions_153 : decode cX8_findInstructions 153 = .ok (.iload 6, 2) := by decide +kernel
theorem dX8_findInstructions_155 : decode cX8_findInstructions 155 = .ok (.iadd, 1) := by decide +kernel
theorem dX8_findInstructions_156 : decode cX8_findInstructions 156 = .ok (.istore_n 3, 1) := by decide +kernel
theorem dX8_findInstructions_157 : decode cX8_findInstructions 157 = .ok (.goto 20, 3) := by decide +kernel
theorem dX8_findInstructions_160 : decode cX8_findInstructions 160 = .ok (.aload_n 0, 1) := by decide +kernel
theorem dX8_findInstructions_161 : decode cX8_findInstructions 161 = .ok (.aload_n 0, 1) := by decide +kernel
theorem dX8_findInstructions_162 : decode cX8_findInstructions 162 = .ok (.getfield 7, 3) := by decide +kernel
theorem dX8_findInstructions_165 : decode cX8_findInstructions 165 = .ok (.sipush 1000, 3) := by decide +kernel
theorem dX8_findInstructions_168 : decode cX8_findInstructions 168 = .ok (.iload_n 3, 1) := by decide +kernel
theorem dX8_findInstructions_169 : decode cX8_findInstructions 169 = .ok (.iadd, 1) := by decide +kernel
theorem dX8_findInstructions_170 : decode cX8_findInstructions 170 = .ok (.iaload, 1) := by decide +kernel
theorem dX8_findInstructions_171 : decode cX8_findInstructions 171 = .ok (.invokevirtual 106, 3) := by decide +kernel
theorem dX8_findInstructions_174 : decode cX8_findInstructions 174 = .ok (.iinc 3 1, 3) := by decide +kernel
theorem dX8_findInstructions_177 : decode cX8_findInstructions 177 = .ok (.goto (-175), 3) := by decide +kernel
theorem dX8_findInstructions_180 : decode cX8_findInstructions 180 = .ok (.return_, 1) := by decide +kernel
set_option maxRecDepth 20000 in
theorem ggX8_writeCodes_X8_find : GoodIn wsX8_writeCodes wsX8_find := goodIn_r _ [8, 9, 10, 7, 11] (by decide +kernel) (by decide +kernel)
set_option maxRecDepth 20000 in
theorem gX8_writeCodes_X8_find : GoodIn wsX8_writeCodes (va_wsS RX8 109 yX8_find wsX8_find) := goodIn_app (goodIn_of _ (by decide +kernel)) ggX8_writeCodes_X8_find
set_option maxRecDepth 20000 in
theorem ggX8_writeCodes_X8_write : GoodIn wsX8_writeCodes wsX8_write := goodIn_r _ [15, 16, 17, 28, 29, 30, 31, 32, 33, 34, 35, 36, 37, 38, 39, 40, 41, 42, 43, 44, 45, 46, 47, 48] (by decide +kernel) (by decide +kernel)
set_option maxRecDepth 20000 in
theorem gX8_writeCodes_X8_write : GoodIn wsX8_writeCodes (wsV RX8 73 RX8 yX8_write wsX8_write) := goodIn_app (goodIn_of _ (by decide +kernel)) ggX8_writeCodes_X8_write
set_option maxRecDepth 20000 in
theorem ggX8_writeCodes_X8_writeInteger : GoodIn wsX8_writeCodes wsX8_writeInteger := goodIn_r _ [21, 22, 23, 7, 24, 25, 26, 27, 12, 13, 14, 15, 16, 17, 28, 29, 30, 31, 32, 33, 34, 35, 36, 37, 38, 39, 40, 41, 42, 43, 44, 45, 46, 47, 48] (by decide +kernel) (by decide +kernel)
set_option maxRecDepth 20000 in
theorem gX8_writeCodes_X8_writeInteger : GoodIn wsX8_writeCodes (wsV RX8 89 RX8 yX8_writeInteger wsX8_writeInteger) := goodIn_app (goodIn_of _ (by decide +kernel)) ggX8_writeCodes_X8_writeInteger
theorem dX8_writeCodes_0 : decode cX8_writeCodes 0 = .ok (.iconst 0, 1) := by decide +kernel
theorem dX8_writeCodes_1 : decode cX8_writeCodes 1 = .ok (.istore_n 1, 1) := by decide +kernel
theorem dX8_writeCodes_2 : decode cX8_writeCodes 2 = .ok (.iload_n 1, 1) := by decide +kernel
theorem dX8_writeCodes_3 : decode cX8_writeCodes 3 = .ok (.aload_n 0, 1) := by decide +kernel
theorem dX8_writeCodes_4 : decode cX8_writeCodes 4 = .ok (.getfield 79, 3) := by decide +kernel
theorem dX8_writeCodes_7 : decode cX8_writeCodes 7 = .ok (.if_icmp .ge 166, 3) := by decide +kernel
theorem dX8_writeCodes_10 : decode cX8_writeCodes 10 = .ok (.iload_n 1, 1) := by decide +kernel
theorem dX8_writeCodes_11 : decode cX8_writeCodes 11 = .ok (.iconst 1, 1) := by decide +kernel
theorem dX8_writeCodes_12 : decode cX8_writeCodes 12 = .ok (.iadd, 1) := by decide +kernel
theorem dX8_writeCodes_13 : decode cX8_writeCodes 13 = .ok (.aload_n 0, 1) := by decide +kernel
theorem dX8_writeCodes_14 : decode cX8_writeCodes 14 = .ok (.getfield 79, 3) := by decide +kernel
theorem dX8_writeCodes_17 : decode cX8_writeCodes 17 = .ok (.if_icmp .ge 51, 3) := by decide +kernel
theorem dX8_writeCodes_20 : decode cX8_writeCodes 20 = .ok (.aload_n 0, 1) := by decide +kernel
theorem dX8_writeCodes_21 : decode cX8_writeCodes 21 = .ok (.getfield 25, 3) := by decide +kernel
theorem dX8_writeCodes_24 : decode cX8_writeCodes 24 = .ok (.iload_n 1, 1) := by decide +kernel
theorem dX8_writeCodes_25 : decode cX8_writeCodes 25 = .ok (.iaload, 1) := by decide +kernel
theorem dX8_writeCodes_26 : decode cX8_writeCodes 26 = .ok (.aload_n 0, 1) := by decide +kernel
theorem dX8_writeCodes_27 : decode cX8_writeCodes 27 = .ok (.getfield 28, 3) := by decide +kernel
theorem dX8_writeCodes_30 : decode cX8_writeCodes 30 = .ok (.iload_n 1, 1) := by decide +kernel
theorem dX8_writeCodes_31 : decode cX8_writeCodes 31 = .ok (.iaload, 1) := by decide +kernel
theorem dX8_writeCodes_32 : decode cX8_writeCodes 32 = .ok (.aload_n 0, 1) := by decide +kernel
theorem dX8_writeCodes_33 : decode cX8_writeCodes 33 = .ok (.getfield 31, 3) := by decide +kernel
theorem dX8_writeCodes_36 : decode cX8_writeCodes 36 = .ok (.iload_n 1, 1) := by decide +kernel
theorem dX8_writeCodes_37 : decode cX8_writeCodes 37 = .ok (.iaload, 1) := by decide +kernel
theorem dX8_writeCodes_38 : decode cX8_writeCodes 38 = .ok (.aload_n 0, 1) := by decide +kernel
theorem dX8_writeCodes_39 : decode cX8_writeCodes 39 = .ok (.getfield 25, 3) := by decide +kernel
theorem dX8_writeCodes_42 : decode cX8_writeCodes 42 = .ok (.iload_n 1, 1) := by decide +kernel
theorem dX8_writeCodes_43 : decode cX8_writeCodes 43 = .ok (.iconst 1, 1) := by decide +kernel
theorem dX8_writeCodes_44 : decode cX8_writeCodes 44 = .ok (.iadd, 1) := by decide +kernel
theorem dX8_writeCodes_45 : decode cX8_writeCodes 45 = .ok (.iaload, 1) := by decide +kernel
theorem dX8_writeCodes_46 : decode cX8_writeCodes 46 = .ok (.aload_n 0, 1) := by decide +kernel
theorem dX8_writeCodes_47 : decode cX8_writeCodes 47 = .ok (.getfield 28, 3) := by decide +kernel
theorem dX8_writeCodes_50 : decode cX8_writeCodes 50 = .ok (.iload_n 1, 1) := by decide +kernel
theorem dX8_writeCodes_51 : decode cX8_writeCodes 51 = .ok (.iconst 1, 1) := by decide +kernel
theorem dX8_writeCodes_52 : decode cX8_writeCodes 52 = .ok (.iadd, 1) := by decide +kernel
theorem dX8_writeCodes_53 : decode cX8_writeCodes 53 = .ok (.iaload, 1) := by decide +kernel
theorem dX8_writeCodes_54 : decode cX8_writeCodes 54 = .ok (.aload_n 0, 1) := by decide +kernel
theorem dX8_writeCodes_55 : decode cX8_writeCodes 55 = .ok (.getfield 31, 3) := by decide +kernel
theorem dX8_writeCodes_58 : decode cX8_writeCodes 58 = .ok (.iload_n 1, 1) := by decide +kernel
theorem dX8_writeCodes_59 : decode cX8_writeCodes 59 = .ok (.iconst 1, 1) := by decide +kernel
theorem dX8_writeCodes_60 : decode cX8_writeCodes 60 = .ok (.iadd, 1) := by decide +kernel
theorem dX8_writeCodes_61 : decode cX8_writeCodes 61 = .ok (.iaload, 1) := by decide +kernel
theorem dX8_writeCodes_62 : decode cX8_writeCodes 62 = .ok (.invokestatic 109, 3) := by decide +kernel
theorem dX8_writeCodes_65 : decode cX8_writeCodes 65 = .ok (.goto 4, 3) := by decide +kernel
theorem dX8_writeCodes_68 : decode cX8_writeCodes 68 = .ok (.iconst (-1), 1) := by decide +kernel
theorem dX8_writeCodes_69 : decode cX8_writeCodes 69 = .ok (.istore_n 2, 1) := by decide +kernel
theorem dX8_writeCodes_70 : decode cX8_writeCodes 70 = .ok (.aload_n 0, 1) := by decide +kernel
theorem dX8_writeCodes_71 : decode cX8_writeCodes 71 = .ok (.getfield 25, 3) := by decide +kernel
theorem dX8_writeCodes_74 : decode cX8_writeCodes 74 = .ok (.iload_n 1, 1) := by decide +kernel
theorem dX8_writeCodes_75 : decode cX8_writeCodes 75 = .ok (.iaload, 1) := by decide +kernel
theorem dX8_writeCodes_76 : decode cX8_writeCodes 76 = .ok (.aload_n 0, 1) := by decide +kernel
theorem dX8_writeCodes_77 : decode cX8_writeCodes 77 = .ok (.getfield 28, 3) := by decide +kernel
theorem dX8_writeCodes_80 : decode cX8_writeCodes 80 = .ok (.iload_n 1, 1) := by decide +kernel
theorem dX8_writeCodes_81 : decode cX8_writeCodes 81 = .ok (.iaload, 1) := by decide +kernel
theorem dX8_writeCodes_82 : decode cX8_writeCodes 82 = .ok (.aload_n 0, 1) := by decide +kernel
theorem dX8_writeCodes_83 : decode cX8_writeCodes 83 = .ok (.getfield 31, 3) := by decide +kernel
theorem dX8_writeCodes_86 : decode cX8_writeCodes 86 = .ok (.iload_n 1, 1) := by decide +kernel
theorem dX8_writeCodes_87 : decode cX8_writeCodes 87 = .ok (.iaload, 1) := by decide +kernel
theorem dX8_writeCodes_88 : decode cX8_writeCodes 88 = .ok (.iconst 0, 1) := by decide +kernel
theorem dX8_writeCodes_89 : decode cX8_writeCodes 89 = .ok (.iconst 0, 1) := by decide +kernel
theorem dX8_writeCodes_90 : decode cX8_writeCodes 90 = .ok (.iconst 0, 1) := by decide +kernel
theorem dX8_writeCodes_91 : decode cX8_writeCodes 91 = .ok (.invokestatic 109, 3) := by decide +kernel
theorem dX8_writeCodes_94 : decode cX8_writeCodes 94 = .ok (.istore_n 3, 1) := by decide +kernel
theorem dX8_writeCodes_95 : decode cX8_writeCodes 95 = .ok (.iload_n 2, 1) := by decide +kernel
theorem dX8_writeCodes_96 : decode cX8_writeCodes 96 = .ok (.ifCond .lt 12, 3) := by decide +kernel
theorem dX8_writeCodes_99 : decode cX8_writeCodes 99 = .ok (.aload_n 0, 1) := by decide +kernel
theorem dX8_writeCodes_100 : decode cX8_writeCodes 100 = .ok (.iconst 1, 1) := by decide +kernel
theorem dX8_writeCodes_101 : decode cX8_writeCodes 101 = .ok (.iload_n 2, 1) := by decide +kernel
theorem dX8_writeCodes_102 : decode cX8_writeCodes 102 = .ok (.invokevirtual 73, 3) := by decide +kernel
theorem dX8_writeCodes_105 : decode cX8_writeCodes 105 = .ok (.goto 51, 3) := by decide +kernel
theorem dX8_writeCodes_108 : decode cX8_writeCodes 108 = .ok (.iload_n 3, 1) := by decide +kernel
theorem dX8_writeCodes_109 : decode cX8_writeCodes 109 = .ok (.ifCond .lt 12, 3) := by decide +kernel
theorem dX8_writeCodes_112 : decode cX8_writeCodes 112 = .ok (.aload_n 0, 1) := by decide +kernel
theorem dX8_writeCodes_113 : decode cX8_writeCodes 113 = .ok (.iconst 1, 1) := by decide +kernel
theorem dX8_writeCodes_114 : decode cX8_writeCodes 114 = .ok (.iload_n 3, 1) := by decide +kernel
theorem dX8_writeCodes_115 : decode cX8_writeCodes 115 = .ok (.invokevirtual 73, 3) := by decide +kernel
theorem dX8_writeCodes_118 : decode cX8_writeCodes 118 = .ok (.goto 38, 3) := by decide +kernel
theorem dX8_writeCodes_121 : decode cX8_writeCodes 121 = .ok (.aload_n 0, 1) := by decide +kernel
theorem dX8_writeCodes_122 : decode cX8_writeCodes 122 = .ok (.iconst 1, 1) := by decide +kernel
theorem dX8_writeCodes_123 : decode cX8_writeCodes 123 = .ok (.aload_n 0, 1) := by decide +kernel
theorem dX8_writeCodes_124 : decode cX8_writeCodes 124 = .ok (.getfield 25, 3) := by decide +kernel
theorem dX8_writeCodes_127 : decode cX8_writeCodes 127 = .ok (.iload_n 1, 1) := by decide +kernel
theorem dX8_writeCodes_128 : decode cX8_writeCodes 128 = .ok (.iaload, 1) := by decide +kernel
theorem dX8_writeCodes_129 : decode cX8_writeCodes 129 = .ok (.iconst 0, 1) := by decide +kernel
theorem dX8_writeCodes_130 : decode cX8_writeCodes 130 = .ok (.aload_n 0, 1) := by decide +kernel
theorem dX8_writeCodes_131 : decode cX8_writeCodes 131 = .ok (.getfield 31, 3) := by decide +kernel
theorem dX8_writeCodes_134 : decode cX8_writeCodes 134 = .ok (.iload_n 1, 1) := by decide +kernel
theorem dX8_writeCodes_135 : decode cX8_writeCodes 135 = .ok (.iaload, 1) := by decide +kernel
theorem dX8_writeCodes_136 : decode cX8_writeCodes 136 = .ok (.iconst 0, 1) := by decide +kernel
theorem dX8_writeCodes_137 : decode cX8_writeCodes 137 = .ok (.iconst 0, 1) := by decide +kernel
theorem dX8_writeCodes_138 : decode cX8_writeCodes 138 = .ok (.iconst 0, 1) := by decide +kernel
theorem dX8_writeCodes_139 : decode cX8_writeCodes 139 = .ok (.invokestatic 109, 3) := by decide +kernel
theorem dX8_writeCodes_142 : decode cX8_writeCodes 142 = .ok (.invokevirtual 73, 3) := by decide +kernel
theorem dX8_writeCodes_145 : decode cX8_writeCodes 145 = .ok (.aload_n 0, 1) := by decide +kernel
theorem dX8_writeCodes_146 : decode cX8_writeCodes 146 = .ok (.iconst 1, 1) := by decide +kernel
theorem dX8_writeCodes_147 : decode cX8_writeCodes 147 = .ok (.aload_n 0, 1) := by decide +kernel
theorem dX8_writeCodes_148 : decode cX8_writeCodes 148 = .ok (.getfield 28, 3) := by decide +kernel
theorem dX8_writeCodes_151 : decode cX8_writeCodes 151 = .ok (.iload_n 1, 1) := by decide +kernel
theorem dX8_writeCodes_152 : decode cX8_writeCodes 152 = .ok (.iaload, 1) := by decide +kernel
theorem dX8_writeCodes_153 : decode cX8_writeCodes 153 = .ok (.invokevirtual 89, 3) := by decide +kernel
theorem dX8_writeCodes_156 : decode cX8_writeCodes 156 = .ok (.iload_n 2, 1) := by decide +kernel
theorem dX8_writeCodes_157 : decode cX8_writeCodes 157 = .ok (.ifCond .lt 9, 3) := by decide +kernel
theorem dX8_writeCodes_160 : decode cX8_writeCodes 160 = .ok (.iload_n 1, 1) := by decide +kernel
theorem dX8_writeCodes_161 : decode cX8_writeCodes 161 = .ok (.iconst 2, 1) := by decide +kernel
theorem dX8_writeCodes_162 : decode cX8_writeCodes 162 = .ok (.iadd, 1) := by decide +kernel
theorem dX8_writeCodes_163 : decode cX8_writeCodes 163 = .ok (.goto 6, 3) := by decide +kernel
theorem dX8_writeCodes_166 : decode cX8_writeCodes 166 = .ok (.iload_n 1, 1) := by decide +kernel
theorem dX8_writeCodes_167 : decode cX8_writeCodes 167 = .ok (.iconst 1, 1) := by decide +kernel
theorem dX8_writeCodes_168 : decode cX8_writeCodes 168 = .ok (.iadd, 1) := by decide +kernel
theorem dX8_writeCodes_169 : decode cX8_writeCodes 169 = .ok (.istore_n 1, 1) := by decide +kernel
theorem dX8_writeCodes_170 : decode cX8_writeCodes 170 = .ok (.goto (-168), 3) := by decide +kernel
theorem dX8_writeCodes_173 : decode cX8_writeCodes 173 = .ok (.return_, 1) := by decide +kernel
set_option maxRecDepth 20000 in
theorem ggX8_window_X8_forget : GoodIn wsX8_window wsX8_forget := goodIn_r _ [9, 10, 11, 12, 85, 86, 87, 88, 89, 90, 91, 92, 93, 94, 95, 96, 97, 98, 99, 100, 101, 102, 103, 104, 105] (by decide +kernel) (by decide +kernel)
set_option maxRecDepth 20000 in
theorem gX8_window_X8_forget : GoodIn wsX8_window (wsV RX8 113 RX8 yX8_forget wsX8_forget) := goodIn_app (goodIn_of _ (by decide +kernel)) ggX8_window_X8_forget
set_option maxRecDepth 20000 in
theorem ggX8_window_X8_findInstructions : GoodIn wsX8_window wsX8_findInstructions := goodIn_r _ [16, 3, 17, 18, 19, 20, 8, 21, 22, 23, 24, 25, 26, 27, 28, 29, 30, 31, 32, 33, 34, 1, 35, 36, 37, 38, 39, 40, 4, 2, 41, 42, 43, 44, 11, 45, 46, 47, 48, 10, 49, 50, 51, 52, 53, 54, 55, 56, 57, 58, 59, 60, 61, 62, 12, 63, 64, 65, 66, 85, 86, 87, 88, 89, 90, 91, 92, 93, 94, 95, 96, 97, 98, 99, 100, 101, 102, 103, 104, 105] (by decide +kernel) (by decide +kernel)
set_option maxRecDepth 20000 in
theorem gX8_window_X8_findInstructions : GoodIn wsX8_window (wsV RX8 116 RX8 yX8_findInstructions wsX8_findInstructions) := goodIn_app (goodIn_of _ (by decide +kernel)) ggX8_window_X8_findInstructions
set_option maxRecDepth 20000 in
theorem ggX8_window_X8_writeCodes : GoodIn wsX8_window wsX8_writeCodes := goodIn_r _ [70, 1, 34, 35, 36, 71, 72, 8, 73, 74, 75, 76, 37, 38, 39, 40, 4, 2, 49, 50, 51, 52, 53, 54, 55, 56, 57, 58, 85, 86, 87, 88, 89, 90, 91, 92, 93, 94, 95, 96, 97, 98, 99, 100, 101, 102, 103, 104, 105] (by decide +kernel) (by decide +kernel)
set_option maxRecDepth 20000 in
theorem gX8_window_X8_writeCodes : GoodIn wsX8_window (wsV RX8 119 RX8 yX8_writeCodes wsX8_writeCodes) := goodIn_app (goodIn_of _ (by decide +kernel)) ggX8_window_X8_writeCodes
set_option maxRecDepth 20000 in
theorem ggX8_window_X8_append : GoodIn wsX8_window wsX8_append := goodIn_r _ [80, 17, 3, 85, 86, 87, 88, 89, 90, 91, 92, 93, 94, 95, 96, 97, 98, 99, 100, 101, 102, 103, 104, 105] (by decide +kernel) (by decide +kernel)
set_option maxRecDepth 20000 in
theorem gX8_window_X8_append : GoodIn wsX8_window (wsV RX8 54 RX8 yX8_append wsX8_append) := goodIn_app (goodIn_of _ (by decide +kernel)) ggX8_window_X8_append
set_option maxRecDepth 20000 in
theorem ggX8_window_X8_appendInteger : GoodIn wsX8_window wsX8_appendInteger := goodIn_r _ [84, 53, 54, 8, 55, 56, 57, 58, 77, 78, 79, 80, 17, 3, 85, 86, 87, 88, 89, 90, 91, 92, 93, 94, 95, 96, 97, 98, 99, 100, 101, 102, 103, 104, 105] (by decide +kernel) (by decide +kernel)
set_option maxRecDepth 20000 in
theorem gX8_window_X8_appendInteger : GoodIn wsX8_window (wsV RX8 122 RX8 yX8_appendInteger wsX8_appendInteger) := goodIn_app (goodIn_of _ (by decide +kernel)) ggX8_window_X8_appendInteger
set_option maxRecDepth 20000 in
theorem ggX8_window_X8_bytesOf : GoodIn wsX8_window wsX8_bytesOf := goodIn_r _ [55] (by decide +kernel) (by decide +kernel)
set_option maxRecDepth 20000 in
theorem gX8_window_X8_bytesOf : GoodIn wsX8_window (va_wsS RX8 66 yX8_bytesOf wsX8_bytesOf) := goodIn_app (goodIn_of _ (by decide +kernel)) ggX8_window_X8_bytesOf
theorem dX8_window_0 : decode cX8_window 0 = .ok (.aload_n 0, 1) := by decide +kernel
theorem dX8_window_1 : decode cX8_window 1 = .ok (.invokevirtual 113, 3) := by decide +kernel
theorem dX8_window_4 : decode cX8_window 4 = .ok (.aload_n 0, 1) := by decide +kernel
theorem dX8_window_5 : decode cX8_window 5 = .ok (.iconst 0, 1) := by decide +kernel
theorem dX8_window_6 : decode cX8_window 6 = .ok (.putfield 79, 3) := by decide +kernel
theorem dX8_window_9 : decode cX8_window 9 = .ok (.iconst 0, 1) := by decide +kernel
theorem dX8_window_10 : decode cX8_window 10 = .ok (.istore_n 3, 1) := by decide +kernel
theorem dX8_window_11 : decode cX8_window 11 = .ok (.iconst 0, 1) := by decide +kernel
theorem dX8_window_12 : decode cX8_window 12 = .ok (.istore 4, 2) := by decide +kernel
theorem dX8_window_14 : decode cX8_window 14 = .ok (.iload 4, 2) := by decide +kernel
theorem dX8_window_16 : decode cX8_window 16 = .ok (.iconst 3, 1) := by decide +kernel
theorem dX8_window_17 : decode cX8_window 17 = .ok (.if_icmp .ge 17, 3) := by decide +kernel
theorem dX8_window_20 : decode cX8_window 20 = .ok (.aload_n 0, 1) := by decide +kernel
theorem dX8_window_21 : decode cX8_window 21 = .ok (.getfield 37, 3) := by decide +kernel
theorem dX8_window_24 : decode cX8_window 24 = .ok (.iload 4, 2) := by decide +kernel
theorem dX8_window_26 : decode cX8_window 26 = .ok (.iconst 0, 1) := by decide +kernel
theorem dX8_window_27 : decode cX8_window 27 = .ok (.iastore, 1) := by decide +kernel
theorem dX8_window_28 : decode cX8_window 28 = .ok (.iinc 4 1, 3) := by decide +kernel
theorem dX8_window_31 : decode cX8_window 31 = .ok (.goto (-17), 3) := by decide +kernel
theorem dX8_window_34 : decode cX8_window 34 = .ok (.aload_n 0, 1) := by decide +kernel
theorem dX8_window_35 : decode cX8_window 35 = .ok (.iload_n 1, 1) := by decide +kernel
theorem dX8_window_36 : decode cX8_window 36 = .ok (.iload_n 2, 1) := by decide +kernel
theorem dX8_window_37 : decode cX8_window 37 = .ok (.invokevirtual 116, 3) := by decide +kernel
theorem dX8_window_40 : decode cX8_window 40 = .ok (.aload_n 0, 1) := by decide +kernel
theorem dX8_window_41 : decode cX8_window 41 = .ok (.invokevirtual 119, 3) := by decide +kernel
theorem dX8_window_44 : decode cX8_window 44 = .ok (.aload_n 0, 1) := by decide +kernel
theorem dX8_window_45 : decode cX8_window 45 = .ok (.iconst 2, 1) := by decide +kernel
theorem dX8_window_46 : decode cX8_window 46 = .ok (.aload_n 0, 1) := by decide +kernel
theorem dX8_window_47 : decode cX8_window 47 = .ok (.getfield 13, 3) := by decide +kernel
theorem dX8_window_50 : decode cX8_window 50 = .ok (.iconst 0, 1) := by decide +kernel
theorem dX8_window_51 : decode cX8_window 51 = .ok (.iaload, 1) := by decide +kernel
theorem dX8_window_52 : decode cX8_window 52 = .ok (.ifCond .le 7, 3) := by decide +kernel
theorem dX8_window_55 : decode cX8_window 55 = .ok (.iconst 1, 1) := by decide +kernel
theorem dX8_window_56 : decode cX8_window 56 = .ok (.goto 4, 3) := by decide +kernel
theorem dX8_window_59 : decode cX8_window 59 = .ok (.iconst 0, 1) := by decide +kernel
theorem dX8_window_60 : decode cX8_window 60 = .ok (.invokevirtual 54, 3) := by decide +kernel
theorem dX8_window_63 : decode cX8_window 63 = .ok (.aload_n 0, 1) := by decide +kernel
theorem dX8_window_64 : decode cX8_window 64 = .ok (.getfield 13, 3) := by decide +kernel
theorem dX8_window_67 : decode cX8_window 67 = .ok (.iconst 0, 1) := by decide +kernel
theorem dX8_window_68 : decode cX8_window 68 = .ok (.iaload, 1) := by decide +kernel
theorem dX8_window_69 : decode cX8_window 69 = .ok (.ifCond .le 18, 3) := by decide +kernel
theorem dX8_window_72 : decode cX8_window 72 = .ok (.aload_n 0, 1) := by decide +kernel
theorem dX8_window_73 : decode cX8_window 73 = .ok (.aload_n 0, 1) := by decide +kernel
theorem dX8_window_74 : decode cX8_window 74 = .ok (.getfield 13, 3) := by decide +kernel
theorem dX8_window_77 : decode cX8_window 77 = .ok (.iconst 0, 1) := by decide +kernel
theorem dX8_window_78 : decode cX8_window 78 = .ok (.iaload, 1) := by decide +kernel
theorem dX8_window_79 : decode cX8_window 79 = .ok (.invokevirtual 122, 3) := by decide +kernel
theorem dX8_window_82 : decode cX8_window 82 = .ok (.aload_n 0, 1) := by decide +kernel
theorem dX8_window_83 : decode cX8_window 83 = .ok (.iconst 0, 1) := by decide +kernel
theorem dX8_window_84 : decode cX8_window 84 = .ok (.invokevirtual 122, 3) := by decide +kernel
theorem dX8_window_87 : decode cX8_window 87 = .ok (.iconst 0, 1) := by decide +kernel
theorem dX8_window_88 : decode cX8_window 88 = .ok (.istore 4, 2) := by decide +kernel
theorem dX8_window_90 : decode cX8_window 90 = .ok (.iload 4, 2) := by decide +kernel
theorem dX8_window_92 : decode cX8_window 92 = .ok (.iconst 3, 1) := by decide +kernel
theorem dX8_window_93 : decode cX8_window 93 = .ok (.if_icmp .ge 30, 3) := by decide +kernel
theorem dX8_window_96 : decode cX8_window 96 = .ok (.iload_n 3, 1) := by decide +kernel
theorem dX8_window_97 : decode cX8_window 97 = .ok (.aload_n 0, 1) := by decide +kernel
theorem dX8_window_98 : decode cX8_window 98 = .ok (.getfield 37, 3) := by decide +kernel
theorem dX8_window_101 : decode cX8_window 101 = .ok (.iload 4, 2) := by decide +kernel
theorem dX8_window_103 : decode cX8_window 103 = .ok (.iaload, 1) := by decide +kernel
theorem dX8_window_104 : decode cX8_window 104 = .ok (.iadd, 1) := by decide +kernel
theorem dX8_window_105 : decode cX8_window 105 = .ok (.aload_n 0, 1) := by decide +kernel
theorem dX8_window_106 : decode cX8_window 106 = .ok (.getfield 37, 3) := by decide +kernel
theorem dX8_window_109 : decode cX8_window 109 = .ok (.iload 4, 2) := by decide +kernel
theorem dX8_window_111 : decode cX8_window 111 = .ok (.iaload, 1) := by decide +kernel
theorem dX8_window_112 : decode cX8_window 112 = .ok (.invokestatic 66, 3) := by decide +kernel
theorem dX8_window_115 : decode cX8_window 115 = .ok (.iadd, 1) := by decide +kernel
theorem dX8_window_116 : decode cX8_window 116 = .ok (.istore_n 3, 1) := by decide +kernel
theorem dX8_window_117 : decode cX8_window 117 = .ok (.iinc 4 1, 3) := by decide +kernel
theorem dX8_window_120 : decode cX8_window 120 = .ok (.goto (-30), 3) := by decide +kernel
theorem dX8_window_123 : decode cX8_window 123 = .ok (.aload_n 0, 1) := by decide +kernel
theorem dX8_window_124 : decode cX8_window 124 = .ok (.iload_n 3, 1) := by decide +kernel
theorem dX8_window_125 : decode cX8_window 125 = .ok (.iload_n 2, 1) := by decide +kernel
theorem dX8_window_126 : decode cX8_window 126 = .ok (.iload_n 1, 1) := by decide +kernel
theorem dX8_window_127 : decode cX8_window 127 = .ok (.isub, 1) := by decide +kernel
theorem dX8_window_128 : decode cX8_window 128 = .ok (.invokestatic 66, 3) := by decide +kernel
theorem dX8_window_131 : decode cX8_window 131 = .ok (.iadd, 1) := by decide +kernel
theorem dX8_window_132 : decode cX8_window 132 = .ok (.iconst 1, 1) := by decide +kernel
theorem dX8_window_133 : decode cX8_window 133 = .ok (.iadd, 1) := by decide +kernel
theorem dX8_window_134 : decode cX8_window 134 = .ok (.invokevirtual 122, 3) := by decide +kernel
theorem dX8_window_137 : decode cX8_window 137 = .ok (.aload_n 0, 1) := by decide +kernel
theorem dX8_window_138 : decode cX8_window 138 = .ok (.iload_n 2, 1) := by decide +kernel
theorem dX8_window_139 : decode cX8_window 139 = .ok (.iload_n 1, 1) := by decide +kernel
theorem dX8_window_140 : decode cX8_window 140 = .ok (.isub, 1) := by decide +kernel
theorem dX8_window_141 : decode cX8_window 141 = .ok (.invokevirtual 122, 3) := by decide +kernel
theorem dX8_window_144 : decode cX8_window 144 = .ok (.aload_n 0, 1) := by decide +kernel
theorem dX8_window_145 : decode cX8_window 145 = .ok (.iconst 2, 1) := by decide +kernel
theorem dX8_window_146 : decode cX8_window 146 = .ok (.iconst 0, 1) := by decide +kernel
theorem dX8_window_147 : decode cX8_window 147 = .ok (.invokevirtual 54, 3) := by decide +kernel
theorem dX8_window_150 : decode cX8_window 150 = .ok (.iconst 0, 1) := by decide +kernel
theorem dX8_window_151 : decode cX8_window 151 = .ok (.istore 4, 2) := by decide +kernel
theorem dX8_window_153 : decode cX8_window 153 = .ok (.iload 4, 2) := by decide +kernel
theorem dX8_window_155 : decode cX8_window 155 = .ok (.iconst 3, 1) := by decide +kernel
theorem dX8_window_156 : decode cX8_window 156 = .ok (.if_icmp .ge 20, 3) := by decide +kernel
theorem dX8_window_159 : decode cX8_window 159 = .ok (.aload_n 0, 1) := by decide +kernel
theorem dX8_window_160 : decode cX8_window 160 = .ok (.aload_n 0, 1) := by decide +kernel
theorem dX8_window_161 : decode cX8_window 161 = .ok (.getfield 37, 3) := by decide +kernel
theorem dX8_window_164 : decode cX8_window 164 = .ok (.iload 4, 2) := by decide +kernel
theorem dX8_window_166 : decode cX8_window 166 = .ok (.iaload, 1) := by decide +kernel
theorem dX8_window_167 : decode cX8_window 167 = .ok (.invokevirtual 122, 3) := by decide +kernel
theorem dX8_window_170 : decode cX8_window 170 = .ok (.iinc 4 1, 3) := by decide +kernel
theorem dX8_window_173 : decode cX8_window 173 = .ok (.goto (-20), 3) := by decide +kernel
theorem dX8_window_176 : decode cX8_window 176 = .ok (.iconst 0, 1) := by decide +kernel
theorem dX8_window_177 : decode cX8_window 177 = .ok (.istore 4, 2) := by decide +kernel
theorem dX8_window_179 : decode cX8_window 179 = .ok (.iload 4, 2) := by decide +kernel
theorem dX8_window_181 : decode cX8_window 181 = .ok (.iconst 3, 1) := by decide +kernel
theorem dX8_window_182 : decode cX8_window 182 = .ok (.if_icmp .ge 49, 3) := by decide +kernel
theorem dX8_window_185 : decode cX8_window 185 = .ok (.iconst 0, 1) := by decide +kernel
theorem dX8_window_186 : decode cX8_window 186 = .ok (.istore 5, 2) := by decide +kernel
theorem dX8_window_188 : decode cX8_window 188 = .ok (.iload 5, 2) := by decide +kernel
theorem dX8_window_190 : decode cX8_window 190 = .ok (.aload_n 0, 1) := by decide +kernel
theorem dX8_window_191 : decode cX8_window 191 = .ok (.getfield 37, 3) := by decide +kernel
theorem dX8_window_194 : decode cX8_window 194 = .ok (.iload 4, 2) := by decide +kernel
theorem dX8_window_196 : decode cX8_window 196 = .ok (.iaload, 1) := by decide +kernel
theorem dX8_window_197 : decode cX8_window 197 = .ok (.if_icmp .ge 28, 3) := by decide +kernel
theorem dX8_window_200 : decode cX8_window 200 = .ok (.aload_n 0, 1) := by decide +kernel
theorem dX8_window_201 : decode cX8_window 201 = .ok (.iconst 2, 1) := by decide +kernel
theorem dX8_window_202 : decode cX8_window 202 = .ok (.aload_n 0, 1) := by decide +kernel
theorem dX8_window_203 : decode cX8_window 203 = .ok (.getfield 34, 3) := by decide +kernel
theorem dX8_window_206 : decode cX8_window 206 = .ok (.sipush 400, 3) := by decide +kernel
theorem dX8_window_209 : decode cX8_window 209 = .ok (.iload 4, 2) := by decide +kernel
theorem dX8_window_211 : decode cX8_window 211 = .ok (.imul, 1) := by decide +kernel
theorem dX8_window_212 : decode cX8_window 212 = .ok (.iload 5, 2) := by decide +kernel
theorem dX8_window_214 : decode cX8_window 214 = .ok (.iadd, 1) := by decide +kernel
theorem dX8_window_215 : decode cX8_window 215 = .ok (.iaload, 1) := by decide +kernel
theorem dX8_window_216 : decode cX8_window 216 = .ok (.invokevirtual 54, 3) := by decide +kernel
theorem dX8_window_219 : decode cX8_window 219 = .ok (.iinc 5 1, 3) := by decide +kernel
theorem dX8_window_222 : decode cX8_window 222 = .ok (.goto (-34), 3) := by decide +kernel
theorem dX8_window_225 : decode cX8_window 225 = .ok (.iinc 4 1, 3) := by decide +kernel
theorem dX8_window_228 : decode cX8_window 228 = .ok (.goto (-49), 3) := by decide +kernel
theorem dX8_window_231 : decode cX8_window 231 = .ok (.return_, 1) := by decide +kernel
theorem dX8_head_0 : decode cX8_head 0 = .ok (.iload_n 0, 1) := by decide +kernel
theorem dX8_head_1 : decode cX8_head 1 = .ok (.ifCond .ne 9, 3) := by decide +kernel
theorem dX8_head_4 : decode cX8_head 4 = .ok (.sipush 214, 3) := by decide +kernel
theorem dX8_head_7 : decode cX8_head 7 = .ok (.goto 26, 3) := by decide +kernel
theorem dX8_head_10 : decode cX8_head 10 = .ok (.iload_n 0, 1) := by decide +kernel
theorem dX8_head_11 : decode cX8_head 11 = .ok (.iconst 1, 1) := by decide +kernel
theorem dX8_head_12 : decode cX8_head 12 = .ok (.if_icmp .ne 9, 3) := by decide +kernel
theorem dX8_head_15 : decode cX8_head 15 = .ok (.sipush 195, 3) := by decide +kernel
theorem dX8_head_18 : decode cX8_head 18 = .ok (.goto 15, 3) := by decide +kernel
theorem dX8_head_21 : decode cX8_head 21 = .ok (.iload_n 0, 1) := by decide +kernel
theorem dX8_head_22 : decode cX8_head 22 = .ok (.iconst 2, 1) := by decide +kernel
theorem dX8_head_23 : decode cX8_head 23 = .ok (.if_icmp .ne 9, 3) := by decide +kernel
theorem dX8_head_26 : decode cX8_head 26 = .ok (.sipush 196, 3) := by decide +kernel
theorem dX8_head_29 : decode cX8_head 29 = .ok (.goto 4, 3) := by decide +kernel
theorem dX8_head_32 : decode cX8_head 32 = .ok (.iconst 0, 1) := by decide +kernel
theorem dX8_head_33 : decode cX8_head 33 = .ok (.ireturn, 1) := by decide +kernel
set_option maxRecDepth 20000 in
theorem ggX8_encode_X8_forget : GoodIn wsX8_encode wsX8_forget := goodIn_r _ [6, 7, 8, 9, 97, 98, 99, 100, 101, 102, 103, 104, 105, 106, 107, 108, 109, 110, 111, 112, 113, 114, 115, 116, 117] (by decide +kernel) (by decide +kernel)
set_option maxRecDepth 20000 in
theorem gX8_encode_X8_forget : GoodIn wsX8_encode (wsV RX8 113 RX8 yX8_forget wsX8_forget) := goodIn_app (goodIn_of _ (by decide +kernel)) ggX8_encode_X8_forget
set_option maxRecDepth 20000 in
theorem ggX8_encode_X8_head : GoodIn wsX8_encode wsX8_head := goodIn_r _ [12] (by decide +kernel) (by decide +kernel)
set_option maxRecDepth 20000 in
theorem gX8_encode_X8_head : GoodIn wsX8_encode (va_wsS RX8 125 yX8_head wsX8_head) := goodIn_app (goodIn_of _ (by decide +kernel)) ggX8_encode_X8_head
set_option maxRecDepth 20000 in
theorem ggX8_encode_X8_append : GoodIn wsX8_encode wsX8_append := goodIn_r _ [16, 17, 1, 97, 98, 99, 100, 101, 102, 103, 104, 105, 106, 107, 108, 109, 110, 111, 112, 113, 114, 115, 116, 117] (by decide +kernel) (by decide +kernel)
set_option maxRecDepth 20000 in
theorem gX8_encode_X8_append : GoodIn wsX8_encode (wsV RX8 54 RX8 yX8_append wsX8_append) := goodIn_app (goodIn_of _ (by decide +kernel)) ggX8_encode_X8_append
set_option maxRecDepth 20000 in
theorem ggX8_encode_X8_window : GoodIn wsX8_encode wsX8_window := goodIn_r _ [21, 22, 23, 1, 24, 2, 3, 4, 5, 6, 7, 8, 9, 25, 26, 27, 28, 17, 29, 30, 31, 32, 33, 34, 35, 36, 37, 38, 39, 40, 41, 42, 43, 44, 45, 46, 47, 48, 49, 50, 51, 52, 53, 54, 55, 56, 57, 58, 59, 60, 61, 62, 63, 64, 65, 66, 67, 68, 69, 70, 71, 72, 73, 74, 75, 76, 77, 78, 79, 80, 81, 82, 83, 84, 85, 86, 87, 13, 14, 15, 16, 88, 89, 90, 91, 97, 98, 99, 100, 101, 102, 103, 104, 105, 106, 107, 108, 109, 110, 111, 112, 113, 114, 115, 116, 117] (by decide +kernel) (by decide +kernel)
set_option maxRecDepth 20000 in
theorem gX8_encode_X8_window : GoodIn wsX8_encode (wsV RX8 128 RX8 yX8_window wsX8_window) := goodIn_app (goodIn_of _ (by decide +kernel)) ggX8_encode_X8_window
set_option maxRecDepth 20000 in
theorem ggX8_encode_X8_show : GoodIn wsX8_encode wsX8_show := goodIn_r _ [95, 96, 7, 8, 97, 98, 99, 100, 101, 102, 103, 104, 105, 106, 107, 108, 109, 110, 111, 112, 113, 114, 115, 116, 117] (by decide +kernel) (by decide +kernel)
set_option maxRecDepth 20000 in
theorem gX8_encode_X8_show : GoodIn wsX8_encode (wsV RX8 131 RX8 yX8_show wsX8_show) := goodIn_app (goodIn_of _ (by decide +kernel)) ggX8_encode_X8_show
theorem dX8_encode_0 : decode cX8_encode 0 = .ok (.iload_n 1, 1) := by decide +kernel
theorem dX8_encode_1 : decode cX8_encode 1 = .ok (.iconst 1, 1) := by decide +kernel
theorem dX8_encode_2 : decode cX8_encode 2 = .ok (.if_icmp .lt 9, 3) := by decide +kernel
theorem dX8_encode_5 : decode cX8_encode 5 = .ok (.iload_n 1, 1) := by decide +kernel
theorem dX8_encode_6 : decode cX8_encode 6 = .ok (.bipush 64, 2) := by decide +kernel
theorem dX8_encode_8 : decode cX8_encode 8 = .ok (.if_icmp .le 5, 3) := by decide +kernel
theorem dX8_encode_11 : decode cX8_encode 11 = .ok (.iconst (-1), 1) := by decide +kernel
theorem dX8_encode_12 : decode cX8_encode 12 = .ok (.ireturn, 1) := by decide +kernel
theorem dX8_encode_13 : decode cX8_encode 13 = .ok (.aload_n 0, 1) := by decide +kernel
theorem dX8_encode_14 : decode cX8_encode 14 = .ok (.invokevirtual 113, 3) := by decide +kernel
theorem dX8_encode_17 : decode cX8_encode 17 = .ok (.aload_n 0, 1) := by decide +kernel
theorem dX8_encode_18 : decode cX8_encode 18 = .ok (.getfield 13, 3) := by decide +kernel
theorem dX8_encode_21 : decode cX8_encode 21 = .ok (.iconst 2, 1) := by decide +kernel
theorem dX8_encode_22 : decode cX8_encode 22 = .ok (.iconst 0, 1) := by decide +kernel
theorem dX8_encode_23 : decode cX8_encode 23 = .ok (.iastore, 1) := by decide +kernel
theorem dX8_encode_24 : decode cX8_encode 24 = .ok (.iconst 0, 1) := by decide +kernel
theorem dX8_encode_25 : decode cX8_encode 25 = .ok (.istore_n 2, 1) := by decide +kernel
theorem dX8_encode_26 : decode cX8_encode 26 = .ok (.iload_n 2, 1) := by decide +kernel
theorem dX8_encode_27 : decode cX8_encode 27 = .ok (.iconst 5, 1) := by decide +kernel
theorem dX8_encode_28 : decode cX8_encode 28 = .ok (.if_icmp .ge 18, 3) := by decide +kernel
theorem dX8_encode_31 : decode cX8_encode 31 = .ok (.aload_n 0, 1) := by decide +kernel
theorem dX8_encode_32 : decode cX8_encode 32 = .ok (.iconst 2, 1) := by decide +kernel
theorem dX8_encode_33 : decode cX8_encode 33 = .ok (.iload_n 2, 1) := by decide +kernel
theorem dX8_encode_34 : decode cX8_encode 34 = .ok (.invokestatic 125, 3) := by decide +kernel
theorem dX8_encode_37 : decode cX8_encode 37 = .ok (.invokevirtual 54, 3) := by decide +kernel
theorem dX8_encode_40 : decode cX8_encode 40 = .ok (.iinc 2 1, 3) := by decide +kernel
theorem dX8_encode_43 : decode cX8_encode 43 = .ok (.goto (-17), 3) := by decide +kernel
theorem dX8_encode_46 : decode cX8_encode 46 = .ok (.iconst 0, 1) := by decide +kernel
theorem dX8_encode_47 : decode cX8_encode 47 = .ok (.istore_n 2, 1) := by decide +kernel
theorem dX8_encode_48 : decode cX8_encode 48 = .ok (.iload_n 2, 1) := by decide +kernel
theorem dX8_encode_49 : decode cX8_encode 49 = .ok (.aload_n 0, 1) := by decide +kernel
theorem dX8_encode_50 : decode cX8_encode 50 = .ok (.getfield 13, 3) := by decide +kernel
theorem dX8_encode_53 : decode cX8_encode 53 = .ok (.iconst 1, 1) := by decide +kernel
theorem dX8_encode_54 : decode cX8_encode 54 = .ok (.iaload, 1) := by decide +kernel
theorem dX8_encode_55 : decode cX8_encode 55 = .ok (.if_icmp .ge 39, 3) := by decide +kernel
theorem dX8_encode_58 : decode cX8_encode 58 = .ok (.aload_n 0, 1) := by decide +kernel
theorem dX8_encode_59 : decode cX8_encode 59 = .ok (.iload_n 2, 1) := by decide +kernel
theorem dX8_encode_60 : decode cX8_encode 60 = .ok (.iload_n 2, 1) := by decide +kernel
theorem dX8_encode_61 : decode cX8_encode 61 = .ok (.iload_n 1, 1) := by decide +kernel
theorem dX8_encode_62 : decode cX8_encode 62 = .ok (.iadd, 1) := by decide +kernel
theorem dX8_encode_63 : decode cX8_encode 63 = .ok (.aload_n 0, 1) := by decide +kernel
theorem dX8_encode_64 : decode cX8_encode 64 = .ok (.getfield 13, 3) := by decide +kernel
theorem dX8_encode_67 : decode cX8_encode 67 = .ok (.iconst 1, 1) := by decide +kernel
theorem dX8_encode_68 : decode cX8_encode 68 = .ok (.iaload, 1) := by decide +kernel
theorem dX8_encode_69 : decode cX8_encode 69 = .ok (.if_icmp .ge 9, 3) := by decide +kernel
theorem dX8_encode_72 : decode cX8_encode 72 = .ok (.iload_n 2, 1) := by decide +kernel
theorem dX8_encode_73 : decode cX8_encode 73 = .ok (.iload_n 1, 1) := by decide +kernel
theorem dX8_encode_74 : decode cX8_encode 74 = .ok (.iadd, 1) := by decide +kernel
theorem dX8_encode_75 : decode cX8_encode 75 = .ok (.goto 9, 3) := by decide +kernel
theorem dX8_encode_78 : decode cX8_encode 78 = .ok (.aload_n 0, 1) := by decide +kernel
theorem dX8_encode_79 : decode cX8_encode 79 = .ok (.getfield 13, 3) := by decide +kernel
theorem dX8_encode_82 : decode cX8_encode 82 = .ok (.iconst 1, 1) := by decide +kernel
theorem dX8_encode_83 : decode cX8_encode 83 = .ok (.iaload, 1) := by decide +kernel
theorem dX8_encode_84 : decode cX8_encode 84 = .ok (.invokevirtual 128, 3) := by decide +kernel
theorem dX8_encode_87 : decode cX8_encode 87 = .ok (.iload_n 2, 1) := by decide +kernel
theorem dX8_encode_88 : decode cX8_encode 88 = .ok (.iload_n 1, 1) := by decide +kernel
theorem dX8_encode_89 : decode cX8_encode 89 = .ok (.iadd, 1) := by decide +kernel
theorem dX8_encode_90 : decode cX8_encode 90 = .ok (.istore_n 2, 1) := by decide +kernel
theorem dX8_encode_91 : decode cX8_encode 91 = .ok (.goto (-43), 3) := by decide +kernel
theorem dX8_encode_94 : decode cX8_encode 94 = .ok (.aload_n 0, 1) := by decide +kernel
theorem dX8_encode_95 : decode cX8_encode 95 = .ok (.iconst 0, 1) := by decide +kernel
theorem dX8_encode_96 : decode cX8_encode 96 = .ok (.invokevirtual 131, 3) := by decide +kernel
theorem dX8_encode_99 : decode cX8_encode 99 = .ok (.aload_n 0, 1) := by decide +kernel
theorem dX8_encode_100 : decode cX8_encode 100 = .ok (.getfield 13, 3) := by decide +kernel
theorem dX8_encode_103 : decode cX8_encode 103 = .ok (.iconst 2, 1) := by decide +kernel
theorem dX8_encode_104 : decode cX8_encode 104 = .ok (.iaload, 1) := by decide +kernel
theorem dX8_encode_105 : decode cX8_encode 105 = .ok (.ireturn, 1) := by decide +kernel
theorem dX8_next_0 : decode cX8_next 0 = .ok (.aload_n 0, 1) := by decide +kernel
theorem dX8_next_1 : decode cX8_next 1 = .ok (.getfield 40, 3) := by decide +kernel
theorem dX8_next_4 : decode cX8_next 4 = .ok (.iload_n 1, 1) := by decide +kernel
theorem dX8_next_5 : decode cX8_next 5 = .ok (.iaload, 1) := by decide +kernel
theorem dX8_next_6 : decode cX8_next 6 = .ok (.aload_n 0, 1) := by decide +kernel
theorem dX8_next_7 : decode cX8_next 7 = .ok (.getfield 43, 3) := by decide +kernel
theorem dX8_next_10 : decode cX8_next 10 = .ok (.iload_n 1, 1) := by decide +kernel
theorem dX8_next_11 : decode cX8_next 11 = .ok (.iaload, 1) := by decide +kernel
theorem dX8_next_12 : decode cX8_next 12 = .ok (.if_icmp .lt 10, 3) := by decide +kernel
theorem dX8_next_15 : decode cX8_next 15 = .ok (.aload_n 0, 1) := by decide +kernel
theorem dX8_next_16 : decode cX8_next 16 = .ok (.iconst 1, 1) := by decide +kernel
theorem dX8_next_17 : decode cX8_next 17 = .ok (.putfield 134, 3) := by decide +kernel
theorem dX8_next_20 : decode cX8_next 20 = .ok (.iconst 0, 1) := by decide +kernel
theorem dX8_next_21 : decode cX8_next 21 = .ok (.ireturn, 1) := by decide +kernel
theorem dX8_next_22 : decode cX8_next 22 = .ok (.aload_n 0, 1) := by decide +kernel
theorem dX8_next_23 : decode cX8_next 23 = .ok (.getfield 40, 3) := by decide +kernel
theorem dX8_next_26 : decode cX8_next 26 = .ok (.iload_n 1, 1) := by decide +kernel
theorem dX8_next_27 : decode cX8_next 27 = .ok (.dup2, 1) := by decide +kernel
theorem dX8_next_28 : decode cX8_next 28 = .ok (.iaload, 1) := by decide +kernel
theorem dX8_next_29 : decode cX8_next 29 = .ok (.iconst 1, 1) := by decide +kernel
theorem dX8_next_30 : decode cX8_next 30 = .ok (.iadd, 1) := by decide +kernel
theorem dX8_next_31 : decode cX8_next 31 = .ok (.iastore, 1) := by decide +kernel
theorem dX8_next_32 : decode cX8_next 32 = .ok (.aload_n 0, 1) := by decide +kernel
theorem dX8_next_33 : decode cX8_next 33 = .ok (.getfield 7, 3) := by decide +kernel
theorem dX8_next_36 : decode cX8_next 36 = .ok (.sipush 2000, 3) := by decide +kernel
theorem dX8_next_39 : decode cX8_next 39 = .ok (.aload_n 0, 1) := by decide +kernel
theorem dX8_next_40 : decode cX8_next 40 = .ok (.getfield 40, 3) := by decide +kernel
theorem dX8_next_43 : decode cX8_next 43 = .ok (.iload_n 1, 1) := by decide +kernel
theorem dX8_next_44 : decode cX8_next 44 = .ok (.iaload, 1) := by decide +kernel
theorem dX8_next_45 : decode cX8_next 45 = .ok (.iadd, 1) := by decide +kernel
theorem dX8_next_46 : decode cX8_next 46 = .ok (.iconst 1, 1) := by decide +kernel
theorem dX8_next_47 : decode cX8_next 47 = .ok (.isub, 1) := by decide +kernel
theorem dX8_next_48 : decode cX8_next 48 = .ok (.iaload, 1) := by decide +kernel
theorem dX8_next_49 : decode cX8_next 49 = .ok (.ireturn, 1) := by decide +kernel
set_option maxRecDepth 20000 in
theorem ggX8_nextInteger_X8_next : GoodIn wsX8_nextInteger wsX8_next := goodIn_r _ [8, 9, 10, 1, 11, 12, 13, 14, 15, 16, 17, 18, 19, 20, 21, 22, 23, 24, 25, 26, 27, 28, 29, 30, 31, 32] (by decide +kernel) (by decide +kernel)
set_option maxRecDepth 20000 in
theorem gX8_nextInteger_X8_next : GoodIn wsX8_nextInteger (wsV RX8 138 RX8 yX8_next wsX8_next) := goodIn_app (goodIn_of _ (by decide +kernel)) ggX8_nextInteger_X8_next
theorem dX8_nextInteger_0 : decode cX8_nextInteger 0 = .ok (.lconst 0, 1) := by decide +kernel
theorem dX8_nextInteger_1 : decode cX8_nextInteger 1 = .ok (.lstore_n 2, 1) := by decide +kernel
theorem dX8_nextInteger_2 : decode cX8_nextInteger 2 = .ok (.iconst 0, 1) := by decide +kernel
theorem dX8_nextInteger_3 : decode cX8_nextInteger 3 = .ok (.istore 4, 2) := by decide +kernel
theorem dX8_nextInteger_5 : decode cX8_nextInteger 5 = .ok (.iload 4, 2) := by decide +kernel
theorem dX8_nextInteger_7 : decode cX8_nextInteger 7 = .ok (.iconst 5, 1) := by decide +kernel
theorem dX8_nextInteger_8 : decode cX8_nextInteger 8 = .ok (.if_icmp .ge 83, 3) := by decide +kernel
theorem dX8_nextInteger_11 : decode cX8_nextInteger 11 = .ok (.aload_n 0, 1) := by decide +kernel
theorem dX8_nextInteger_12 : decode cX8_nextInteger 12 = .ok (.getfield 134, 3) := by decide +kernel
theorem dX8_nextInteger_15 : decode cX8_nextInteger 15 = .ok (.ifCond .ne 76, 3) := by decide +kernel
theorem dX8_nextInteger_18 : decode cX8_nextInteger 18 = .ok (.aload_n 0, 1) := by decide +kernel
theorem dX8_nextInteger_19 : decode cX8_nextInteger 19 = .ok (.iload_n 1, 1) := by decide +kernel
theorem dX8_nextInteger_20 : decode cX8_nextInteger 20 = .ok (.invokevirtual 138, 3) := by decide +kernel
theorem dX8_nextInteger_23 : decode cX8_nextInteger 23 = .ok (.istore 5, 2) := by decide +kernel
theorem dX8_nextInteger_25 : decode cX8_nextInteger 25 = .ok (.lload_n 2, 1) := by decide +kernel
theorem dX8_nextInteger_26 : decode cX8_nextInteger 26 = .ok (.ldc2_w 141, 3) := by decide +kernel
theorem dX8_nextInteger_29 : decode cX8_nextInteger 29 = .ok (.lmul, 1) := by decide +kernel
theorem dX8_nextInteger_30 : decode cX8_nextInteger 30 = .ok (.iload 5, 2) := by decide +kernel
theorem dX8_nextInteger_32 : decode cX8_nextInteger 32 = .ok (.sipush 128, 3) := by decide +kernel
theorem dX8_nextInteger_35 : decode cX8_nextInteger 35 = .ok (.irem, 1) := by decide +kernel
theorem dX8_nextInteger_36 : decode cX8_nextInteger 36 = .ok (.i2l, 1) := by decide +kernel
theorem dX8_nextInteger_37 : decode cX8_nextInteger 37 = .ok (.ladd, 1) := by decide +kernel
theorem dX8_nextInteger_38 : decode cX8_nextInteger 38 = .ok (.lstore_n 2, 1) := by decide +kernel
theorem dX8_nextInteger_39 : decode cX8_nextInteger 39 = .ok (.iload 5, 2) := by decide +kernel
theorem dX8_nextInteger_41 : decode cX8_nextInteger 41 = .ok (.sipush 128, 3) := by decide +kernel
theorem dX8_nextInteger_44 : decode cX8_nextInteger 44 = .ok (.if_icmp .ge 41, 3) := by decide +kernel
theorem dX8_nextInteger_47 : decode cX8_nextInteger 47 = .ok (.aload_n 0, 1) := by decide +kernel
theorem dX8_nextInteger_48 : decode cX8_nextInteger 48 = .ok (.aload_n 0, 1) := by decide +kernel
theorem dX8_nextInteger_49 : decode cX8_nextInteger 49 = .ok (.getfield 134, 3) := by decide +kernel
theorem dX8_nextInteger_52 : decode cX8_nextInteger 52 = .ok (.ifCond .ne 11, 3) := by decide +kernel
theorem dX8_nextInteger_55 : decode cX8_nextInteger 55 = .ok (.lload_n 2, 1) := by decide +kernel
theorem dX8_nextInteger_56 : decode cX8_nextInteger 56 = .ok (.ldc2_w 143, 3) := by decide +kernel
theorem dX8_nextInteger_59 : decode cX8_nextInteger 59 = .ok (.lcmp, 1) := by decide +kernel
theorem dX8_nextInteger_60 : decode cX8_nextInteger 60 = .ok (.ifCond .le 7, 3) := by decide +kernel
theorem dX8_nextInteger_63 : decode cX8_nextInteger 63 = .ok (.iconst 1, 1) := by decide +kernel
theorem dX8_nextInteger_64 : decode cX8_nextInteger 64 = .ok (.goto 4, 3) := by decide +kernel
theorem dX8_nextInteger_67 : decode cX8_nextInteger 67 = .ok (.iconst 0, 1) := by decide +kernel
theorem dX8_nextInteger_68 : decode cX8_nextInteger 68 = .ok (.putfield 134, 3) := by decide +kernel
theorem dX8_nextInteger_71 : decode cX8_nextInteger 71 = .ok (.aload_n 0, 1) := by decide +kernel
theorem dX8_nextInteger_72 : decode cX8_nextInteger 72 = .ok (.getfield 134, 3) := by decide +kernel
theorem dX8_nextInteger_75 : decode cX8_nextInteger 75 = .ok (.ifCond .eq 7, 3) := by decide +kernel
theorem dX8_nextInteger_78 : decode cX8_nextInteger 78 = .ok (.iconst 0, 1) := by decide +kernel
theorem dX8_nextInteger_79 : decode cX8_nextInteger 79 = .ok (.goto 5, 3) := by decide +kernel
theorem dX8_nextInteger_82 : decode cX8_nextInteger 82 = .ok (.lload_n 2, 1) := by decide +kernel
theorem dX8_nextInteger_83 : decode cX8_nextInteger 83 = .ok (.l2i, 1) := by decide +kernel
theorem dX8_nextInteger_84 : decode cX8_nextInteger 84 = .ok (.ireturn, 1) := by decide +kernel
theorem dX8_nextInteger_85 : decode cX8_nextInteger 85 = .ok (.iinc 4 1, 3) := by decide +kernel
theorem dX8_nextInteger_88 : decode cX8_nextInteger 88 = .ok (.goto (-83), 3) := by decide +kernel
theorem dX8_nextInteger_91 : decode cX8_nextInteger 91 = .ok (.aload_n 0, 1) := by decide +kernel
theorem dX8_nextInteger_92 : decode cX8_nextInteger 92 = .ok (.iconst 1, 1) := by decide +kernel
theorem dX8_nextInteger_93 : decode cX8_nextInteger 93 = .ok (.putfield 134, 3) := by decide +kernel
theorem dX8_nextInteger_96 : decode cX8_nextInteger 96 = .ok (.iconst 0, 1) := by decide +kernel
theorem dX8_nextInteger_97 : decode cX8_nextInteger 97 = .ok (.ireturn, 1) := by decide +kernel
theorem dX8_made_0 : decode cX8_made 0 = .ok (.aload_n 0, 1) := by decide +kernel
theorem dX8_made_1 : decode cX8_made 1 = .ok (.getfield 13, 3) := by decide +kernel
theorem dX8_made_4 : decode cX8_made 4 = .ok (.iconst 4, 1) := by decide +kernel
theorem dX8_made_5 : decode cX8_made 5 = .ok (.iaload, 1) := by decide +kernel
theorem dX8_made_6 : decode cX8_made 6 = .ok (.aload_n 0, 1) := by decide +kernel
theorem dX8_made_7 : decode cX8_made 7 = .ok (.getfield 145, 3) := by decide +kernel
theorem dX8_made_10 : decode cX8_made 10 = .ok (.isub, 1) := by decide +kernel
theorem dX8_made_11 : decode cX8_made 11 = .ok (.ireturn, 1) := by decide +kernel
set_option maxRecDepth 20000 in
theorem ggX8_here_X8_made : GoodIn wsX8_here wsX8_made := goodIn_r _ [6, 7, 8, 9, 10, 11, 12, 13, 14, 15, 16, 17, 18, 19, 20, 21, 22, 23, 24, 25, 26, 27, 28, 29] (by decide +kernel) (by decide +kernel)
set_option maxRecDepth 20000 in
theorem gX8_here_X8_made : GoodIn wsX8_here (wsV RX8 151 RX8 yX8_made wsX8_made) := goodIn_app (goodIn_of _ (by decide +kernel)) ggX8_here_X8_made
theorem dX8_here_0 : decode cX8_here 0 = .ok (.aload_n 0, 1) := by decide +kernel
theorem dX8_here_1 : decode cX8_here 1 = .ok (.getfield 148, 3) := by decide +kernel
theorem dX8_here_4 : decode cX8_here 4 = .ok (.aload_n 0, 1) := by decide +kernel
theorem dX8_here_5 : decode cX8_here 5 = .ok (.invokevirtual 151, 3) := by decide +kernel
theorem dX8_here_8 : decode cX8_here 8 = .ok (.iadd, 1) := by decide +kernel
theorem dX8_here_9 : decode cX8_here 9 = .ok (.ireturn, 1) := by decide +kernel
theorem dX8_readString_0 : decode cX8_readString 0 = .ok (.iload_n 1, 1) := by decide +kernel
theorem dX8_readString_1 : decode cX8_readString 1 = .ok (.aload_n 0, 1) := by decide +kernel
theorem dX8_readString_2 : decode cX8_readString 2 = .ok (.getfield 148, 3) := by decide +kernel
theorem dX8_readString_5 : decode cX8_readString 5 = .ok (.if_icmp .lt 24, 3) := by decide +kernel
theorem dX8_readString_8 : decode cX8_readString 8 = .ok (.aload_n 0, 1) := by decide +kernel
theorem dX8_readString_9 : decode cX8_readString 9 = .ok (.getfield 7, 3) := by decide +kernel
theorem dX8_readString_12 : decode cX8_readString 12 = .ok (.sipush 4000, 3) := by decide +kernel
theorem dX8_readString_15 : decode cX8_readString 15 = .ok (.aload_n 0, 1) := by decide +kernel
theorem dX8_readString_16 : decode cX8_readString 16 = .ok (.getfield 145, 3) := by decide +kernel
theorem dX8_readString_19 : decode cX8_readString 19 = .ok (.iadd, 1) := by decide +kernel
theorem dX8_readString_20 : decode cX8_readString 20 = .ok (.iload_n 1, 1) := by decide +kernel
theorem dX8_readString_21 : decode cX8_readString 21 = .ok (.iadd, 1) := by decide +kernel
theorem dX8_readString_22 : decode cX8_readString 22 = .ok (.aload_n 0, 1) := by decide +kernel
theorem dX8_readString_23 : decode cX8_readString 23 = .ok (.getfield 148, 3) := by decide +kernel
theorem dX8_readString_26 : decode cX8_readString 26 = .ok (.isub, 1) := by decide +kernel
theorem dX8_readString_27 : decode cX8_readString 27 = .ok (.iaload, 1) := by decide +kernel
theorem dX8_readString_28 : decode cX8_readString 28 = .ok (.ireturn, 1) := by decide +kernel
theorem dX8_readString_29 : decode cX8_readString 29 = .ok (.aload_n 0, 1) := by decide +kernel
theorem dX8_readString_30 : decode cX8_readString 30 = .ok (.getfield 155, 3) := by decide +kernel
theorem dX8_readString_33 : decode cX8_readString 33 = .ok (.iconst 1, 1) := by decide +kernel
theorem dX8_readString_34 : decode cX8_readString 34 = .ok (.if_icmp .ne 17, 3) := by decide +kernel
theorem dX8_readString_37 : decode cX8_readString 37 = .ok (.aload_n 0, 1) := by decide +kernel
theorem dX8_readString_38 : decode cX8_readString 38 = .ok (.getfield 7, 3) := by decide +kernel
theorem dX8_readString_41 : decode cX8_readString 41 = .ok (.aload_n 0, 1) := by decide +kernel
theorem dX8_readString_42 : decode cX8_readString 42 = .ok (.getfield 158, 3) := by decide +kernel
theorem dX8_readString_45 : decode cX8_readString 45 = .ok (.iload_n 1, 1) := by decide +kernel
theorem dX8_readString_46 : decode cX8_readString 46 = .ok (.iadd, 1) := by decide +kernel
theorem dX8_readString_47 : decode cX8_readString 47 = .ok (.iaload, 1) := by decide +kernel
theorem dX8_readString_48 : decode cX8_readString 48 = .ok (.goto 18, 3) := by decide +kernel
theorem dX8_readString_51 : decode cX8_readString 51 = .ok (.aload_n 0, 1) := by decide +kernel
theorem dX8_readString_52 : decode cX8_readString 52 = .ok (.getfield 7, 3) := by decide +kernel
theorem dX8_readString_55 : decode cX8_readString 55 = .ok (.sipush 4000, 3) := by decide +kernel
theorem dX8_readString_58 : decode cX8_readString 58 = .ok (.aload_n 0, 1) := by decide +kernel
theorem dX8_readString_59 : decode cX8_readString 59 = .ok (.getfield 158, 3) := by decide +kernel
theorem dX8_readString_62 : decode cX8_readString 62 = .ok (.iadd, 1) := by decide +kernel
theorem dX8_readString_63 : decode cX8_readString 63 = .ok (.iload_n 1, 1) := by decide +kernel
theorem dX8_readString_64 : decode cX8_readString 64 = .ok (.iadd, 1) := by decide +kernel
theorem dX8_readString_65 : decode cX8_readString 65 = .ok (.iaload, 1) := by decide +kernel
theorem dX8_readString_66 : decode cX8_readString 66 = .ok (.ireturn, 1) := by decide +kernel
set_option maxRecDepth 20000 in
theorem ggX8_address_X8_next : GoodIn wsX8_address wsX8_next := goodIn_r _ [8, 9, 10, 3, 11, 29, 30, 31, 32, 33, 34, 35, 36, 37, 38, 39, 40, 41, 42, 43, 44, 45, 46, 47, 48, 49] (by decide +kernel) (by decide +kernel)
set_option maxRecDepth 20000 in
theorem gX8_address_X8_next : GoodIn wsX8_address (wsV RX8 138 RX8 yX8_next wsX8_next) := goodIn_app (goodIn_of _ (by decide +kernel)) ggX8_address_X8_next
set_option maxRecDepth 20000 in
theorem ggX8_address_X8_nextInteger : GoodIn wsX8_address wsX8_nextInteger := goodIn_r _ [15, 3, 16, 17, 4, 5, 6, 7, 8, 9, 10, 11, 29, 30, 31, 32, 33, 34, 35, 36, 37, 38, 39, 40, 41, 42, 43, 44, 45, 46, 47, 48, 49] (by decide +kernel) (by decide +kernel)
set_option maxRecDepth 20000 in
theorem gX8_address_X8_nextInteger : GoodIn wsX8_address (wsV RX8 161 RX8 yX8_nextInteger wsX8_nextInteger) := goodIn_app (goodIn_of _ (by decide +kernel)) ggX8_address_X8_nextInteger
set_option maxRecDepth 20000 in
theorem ggX8_address_X8_here : GoodIn wsX8_address wsX8_here := goodIn_r _ [21, 22, 23, 24, 25, 7, 26, 27, 28, 29, 30, 31, 32, 33, 34, 35, 36, 37, 38, 39, 40, 41, 42, 43, 44, 45, 46, 47, 48, 49] (by decide +kernel) (by decide +kernel)
set_option maxRecDepth 20000 in
theorem gX8_address_X8_here : GoodIn wsX8_address (wsV RX8 164 RX8 yX8_here wsX8_here) := goodIn_app (goodIn_of _ (by decide +kernel)) ggX8_address_X8_here
theorem dX8_address_0 : decode cX8_address 0 = .ok (.lconst 0, 1) := by decide +kernel
theorem dX8_address_1 : decode cX8_address 1 = .ok (.lstore_n 2, 1) := by decide +kernel
theorem dX8_address_2 : decode cX8_address 2 = .ok (.iload_n 1, 1) := by decide +kernel
theorem dX8_address_3 : decode cX8_address 3 = .ok (.iconst 5, 1) := by decide +kernel
theorem dX8_address_4 : decode cX8_address 4 = .ok (.if_icmp .le 31, 3) := by decide +kernel
theorem dX8_address_7 : decode cX8_address 7 = .ok (.aload_n 0, 1) := by decide +kernel
theorem dX8_address_8 : decode cX8_address 8 = .ok (.iconst 2, 1) := by decide +kernel
theorem dX8_address_9 : decode cX8_address 9 = .ok (.invokevirtual 138, 3) := by decide +kernel
theorem dX8_address_12 : decode cX8_address 12 = .ok (.istore 4, 2) := by decide +kernel
theorem dX8_address_14 : decode cX8_address 14 = .ok (.aload_n 0, 1) := by decide +kernel
theorem dX8_address_15 : decode cX8_address 15 = .ok (.getfield 19, 3) := by decide +kernel
theorem dX8_address_18 : decode cX8_address 18 = .ok (.sipush 256, 3) := by decide +kernel
theorem dX8_address_21 : decode cX8_address 21 = .ok (.iload_n 1, 1) := by decide +kernel
theorem dX8_address_22 : decode cX8_address 22 = .ok (.bipush 6, 2) := by decide +kernel
theorem dX8_address_24 : decode cX8_address 24 = .ok (.isub, 1) := by decide +kernel
theorem dX8_address_25 : decode cX8_address 25 = .ok (.imul, 1) := by decide +kernel
theorem dX8_address_26 : decode cX8_address 26 = .ok (.iload 4, 2) := by decide +kernel
theorem dX8_address_28 : decode cX8_address 28 = .ok (.iadd, 1) := by decide +kernel
theorem dX8_address_29 : decode cX8_address 29 = .ok (.iaload, 1) := by decide +kernel
theorem dX8_address_30 : decode cX8_address 30 = .ok (.i2l, 1) := by decide +kernel
theorem dX8_address_31 : decode cX8_address 31 = .ok (.lstore_n 2, 1) := by decide +kernel
theorem dX8_address_32 : decode cX8_address 32 = .ok (.goto 49, 3) := by decide +kernel
theorem dX8_address_35 : decode cX8_address 35 = .ok (.aload_n 0, 1) := by decide +kernel
theorem dX8_address_36 : decode cX8_address 36 = .ok (.iconst 2, 1) := by decide +kernel
theorem dX8_address_37 : decode cX8_address 37 = .ok (.invokevirtual 161, 3) := by decide +kernel
theorem dX8_address_40 : decode cX8_address 40 = .ok (.i2l, 1) := by decide +kernel
theorem dX8_address_41 : decode cX8_address 41 = .ok (.lstore 4, 2) := by decide +kernel
theorem dX8_address_43 : decode cX8_address 43 = .ok (.iload_n 1, 1) := by decide +kernel
theorem dX8_address_44 : decode cX8_address 44 = .ok (.ifCond .ne 8, 3) := by decide +kernel
theorem dX8_address_47 : decode cX8_address 47 = .ok (.lload 4, 2) := by decide +kernel
theorem dX8_address_49 : decode cX8_address 49 = .ok (.goto 31, 3) := by decide +kernel
theorem dX8_address_52 : decode cX8_address 52 = .ok (.iload_n 1, 1) := by decide +kernel
theorem dX8_address_53 : decode cX8_address 53 = .ok (.iconst 1, 1) := by decide +kernel
theorem dX8_address_54 : decode cX8_address 54 = .ok (.if_icmp .ne 14, 3) := by decide +kernel
theorem dX8_address_57 : decode cX8_address 57 = .ok (.aload_n 0, 1) := by decide +kernel
theorem dX8_address_58 : decode cX8_address 58 = .ok (.invokevirtual 164, 3) := by decide +kernel
theorem dX8_address_61 : decode cX8_address 61 = .ok (.i2l, 1) := by decide +kernel
theorem dX8_address_62 : decode cX8_address 62 = .ok (.lload 4, 2) := by decide +kernel
theorem dX8_address_64 : decode cX8_address 64 = .ok (.lsub, 1) := by decide +kernel
theorem dX8_address_65 : decode cX8_address 65 = .ok (.goto 15, 3) := by decide +kernel
theorem dX8_address_68 : decode cX8_address 68 = .ok (.aload_n 0, 1) := by decide +kernel
theorem dX8_address_69 : decode cX8_address 69 = .ok (.getfield 16, 3) := by decide +kernel
theorem dX8_address_72 : decode cX8_address 72 = .ok (.iload_n 1, 1) := by decide +kernel
theorem dX8_address_73 : decode cX8_address 73 = .ok (.iconst 2, 1) := by decide +kernel
theorem dX8_address_74 : decode cX8_address 74 = .ok (.isub, 1) := by decide +kernel
theorem dX8_address_75 : decode cX8_address 75 = .ok (.iaload, 1) := by decide +kernel
theorem dX8_address_76 : decode cX8_address 76 = .ok (.i2l, 1) := by decide +kernel
theorem dX8_address_77 : decode cX8_address 77 = .ok (.lload 4, 2) := by decide +kernel
theorem dX8_address_79 : decode cX8_address 79 = .ok (.ladd, 1) := by decide +kernel
theorem dX8_address_80 : decode cX8_address 80 = .ok (.lstore_n 2, 1) := by decide +kernel
theorem dX8_address_81 : decode cX8_address 81 = .ok (.aload_n 0, 1) := by decide +kernel
theorem dX8_address_82 : decode cX8_address 82 = .ok (.aload_n 0, 1) := by decide +kernel
theorem dX8_address_83 : decode cX8_address 83 = .ok (.getfield 134, 3) := by decide +kernel
theorem dX8_address_86 : decode cX8_address 86 = .ok (.ifCond .ne 19, 3) := by decide +kernel
theorem dX8_address_89 : decode cX8_address 89 = .ok (.lload_n 2, 1) := by decide +kernel
