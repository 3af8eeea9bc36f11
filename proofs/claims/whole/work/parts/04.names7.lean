theorem dX8_address_90 : decode cX8_address 90 = .ok (.lconst 0, 1) := by decide +kernel
theorem dX8_address_91 : decode cX8_address 91 = .ok (.lcmp, 1) := by decide +kernel
theorem dX8_address_92 : decode cX8_address 92 = .ok (.ifCond .lt 13, 3) := by decide +kernel
theorem dX8_address_95 : decode cX8_address 95 = .ok (.lload_n 2, 1) := by decide +kernel
theorem dX8_address_96 : decode cX8_address 96 = .ok (.aload_n 0, 1) := by decide +kernel
theorem dX8_address_97 : decode cX8_address 97 = .ok (.invokevirtual 164, 3) := by decide +kernel
theorem dX8_address_100 : decode cX8_address 100 = .ok (.i2l, 1) := by decide +kernel
theorem dX8_address_101 : decode cX8_address 101 = .ok (.lcmp, 1) := by decide +kernel
theorem dX8_address_102 : decode cX8_address 102 = .ok (.ifCond .lt 7, 3) := by decide +kernel
theorem dX8_address_105 : decode cX8_address 105 = .ok (.iconst 1, 1) := by decide +kernel
theorem dX8_address_106 : decode cX8_address 106 = .ok (.goto 4, 3) := by decide +kernel
theorem dX8_address_109 : decode cX8_address 109 = .ok (.iconst 0, 1) := by decide +kernel
theorem dX8_address_110 : decode cX8_address 110 = .ok (.putfield 134, 3) := by decide +kernel
theorem dX8_address_113 : decode cX8_address 113 = .ok (.aload_n 0, 1) := by decide +kernel
theorem dX8_address_114 : decode cX8_address 114 = .ok (.getfield 134, 3) := by decide +kernel
theorem dX8_address_117 : decode cX8_address 117 = .ok (.ifCond .eq 7, 3) := by decide +kernel
theorem dX8_address_120 : decode cX8_address 120 = .ok (.iconst 0, 1) := by decide +kernel
theorem dX8_address_121 : decode cX8_address 121 = .ok (.goto 5, 3) := by decide +kernel
theorem dX8_address_124 : decode cX8_address 124 = .ok (.lload_n 2, 1) := by decide +kernel
theorem dX8_address_125 : decode cX8_address 125 = .ok (.l2i, 1) := by decide +kernel
theorem dX8_address_126 : decode cX8_address 126 = .ok (.ireturn, 1) := by decide +kernel
set_option maxRecDepth 20000 in
theorem ggX8_perform_X8_made : GoodIn wsX8_perform wsX8_made := goodIn_r _ [7, 8, 9, 49, 50, 51, 52, 53, 54, 55, 56, 57, 58, 59, 60, 61, 62, 63, 64, 65, 66, 67, 68, 69] (by decide +kernel) (by decide +kernel)
set_option maxRecDepth 20000 in
theorem gX8_perform_X8_made : GoodIn wsX8_perform (wsV RX8 151 RX8 yX8_made wsX8_made) := goodIn_app (goodIn_of _ (by decide +kernel)) ggX8_perform_X8_made
set_option maxRecDepth 20000 in
theorem ggX8_perform_X8_address : GoodIn wsX8_perform wsX8_address := goodIn_r _ [13, 14, 15, 2, 16, 17, 18, 6, 19, 20, 21, 22, 23, 24, 25, 26, 27, 28, 29, 30, 31, 32, 33, 3, 4, 5, 7, 8, 9, 49, 50, 51, 52, 53, 54, 55, 56, 57, 58, 59, 60, 61, 62, 63, 64, 65, 66, 67, 68, 69] (by decide +kernel) (by decide +kernel)
set_option maxRecDepth 20000 in
theorem gX8_perform_X8_address : GoodIn wsX8_perform (wsV RX8 170 RX8 yX8_address wsX8_address) := goodIn_app (goodIn_of _ (by decide +kernel)) ggX8_perform_X8_address
set_option maxRecDepth 20000 in
theorem ggX8_perform_X8_readString : GoodIn wsX8_perform wsX8_readString := goodIn_r _ [37, 33, 22, 9, 38, 39, 49, 50, 51, 52, 53, 54, 55, 56, 57, 58, 59, 60, 61, 62, 63, 64, 65, 66, 67, 68, 69] (by decide +kernel) (by decide +kernel)
set_option maxRecDepth 20000 in
theorem gX8_perform_X8_readString : GoodIn wsX8_perform (wsV RX8 173 RX8 yX8_readString wsX8_readString) := goodIn_app (goodIn_of _ (by decide +kernel)) ggX8_perform_X8_readString
set_option maxRecDepth 20000 in
theorem ggX8_perform_X8_append : GoodIn wsX8_perform wsX8_append := goodIn_r _ [43, 22, 8, 49, 50, 51, 52, 53, 54, 55, 56, 57, 58, 59, 60, 61, 62, 63, 64, 65, 66, 67, 68, 69] (by decide +kernel) (by decide +kernel)
set_option maxRecDepth 20000 in
theorem gX8_perform_X8_append : GoodIn wsX8_perform (wsV RX8 54 RX8 yX8_append wsX8_append) := goodIn_app (goodIn_of _ (by decide +kernel)) ggX8_perform_X8_append
set_option maxRecDepth 20000 in
theorem ggX8_perform_X8_note : GoodIn wsX8_perform wsX8_note := goodIn_r _ [47, 15, 48, 14, 49, 50, 51, 52, 53, 54, 55, 56, 57, 58, 59, 60, 61, 62, 63, 64, 65, 66, 67, 68, 69] (by decide +kernel) (by decide +kernel)
set_option maxRecDepth 20000 in
theorem gX8_perform_X8_note : GoodIn wsX8_perform (wsV RX8 92 RX8 yX8_note wsX8_note) := goodIn_app (goodIn_of _ (by decide +kernel)) ggX8_perform_X8_note
set_option maxRecDepth 20000 in
theorem ggX8_perform_X8_next : GoodIn wsX8_perform wsX8_next := goodIn_r _ [19, 20, 21, 2, 22, 49, 50, 51, 52, 53, 54, 55, 56, 57, 58, 59, 60, 61, 62, 63, 64, 65, 66, 67, 68, 69] (by decide +kernel) (by decide +kernel)
set_option maxRecDepth 20000 in
theorem gX8_perform_X8_next : GoodIn wsX8_perform (wsV RX8 138 RX8 yX8_next wsX8_next) := goodIn_app (goodIn_of _ (by decide +kernel)) ggX8_perform_X8_next
theorem dX8_perform_0 : decode cX8_perform 0 = .ok (.iload_n 2, 1) := by decide +kernel
theorem dX8_perform_1 : decode cX8_perform 1 = .ok (.ifCond .eq 16, 3) := by decide +kernel
theorem dX8_perform_4 : decode cX8_perform 4 = .ok (.iload_n 2, 1) := by decide +kernel
theorem dX8_perform_5 : decode cX8_perform 5 = .ok (.aload_n 0, 1) := by decide +kernel
theorem dX8_perform_6 : decode cX8_perform 6 = .ok (.getfield 167, 3) := by decide +kernel
theorem dX8_perform_9 : decode cX8_perform 9 = .ok (.aload_n 0, 1) := by decide +kernel
theorem dX8_perform_10 : decode cX8_perform 10 = .ok (.invokevirtual 151, 3) := by decide +kernel
theorem dX8_perform_13 : decode cX8_perform 13 = .ok (.isub, 1) := by decide +kernel
theorem dX8_perform_14 : decode cX8_perform 14 = .ok (.if_icmp .le 9, 3) := by decide +kernel
theorem dX8_perform_17 : decode cX8_perform 17 = .ok (.aload_n 0, 1) := by decide +kernel
theorem dX8_perform_18 : decode cX8_perform 18 = .ok (.iconst 1, 1) := by decide +kernel
theorem dX8_perform_19 : decode cX8_perform 19 = .ok (.putfield 134, 3) := by decide +kernel
theorem dX8_perform_22 : decode cX8_perform 22 = .ok (.return_, 1) := by decide +kernel
theorem dX8_perform_23 : decode cX8_perform 23 = .ok (.iload_n 1, 1) := by decide +kernel
theorem dX8_perform_24 : decode cX8_perform 24 = .ok (.iconst 3, 1) := by decide +kernel
theorem dX8_perform_25 : decode cX8_perform 25 = .ok (.if_icmp .ne 60, 3) := by decide +kernel
theorem dX8_perform_28 : decode cX8_perform 28 = .ok (.aload_n 0, 1) := by decide +kernel
theorem dX8_perform_29 : decode cX8_perform 29 = .ok (.iload_n 3, 1) := by decide +kernel
theorem dX8_perform_30 : decode cX8_perform 30 = .ok (.invokevirtual 170, 3) := by decide +kernel
theorem dX8_perform_33 : decode cX8_perform 33 = .ok (.istore 4, 2) := by decide +kernel
theorem dX8_perform_35 : decode cX8_perform 35 = .ok (.iconst 0, 1) := by decide +kernel
theorem dX8_perform_36 : decode cX8_perform 36 = .ok (.istore 5, 2) := by decide +kernel
theorem dX8_perform_38 : decode cX8_perform 38 = .ok (.iload 5, 2) := by decide +kernel
theorem dX8_perform_40 : decode cX8_perform 40 = .ok (.iload_n 2, 1) := by decide +kernel
theorem dX8_perform_41 : decode cX8_perform 41 = .ok (.if_icmp .ge 30, 3) := by decide +kernel
theorem dX8_perform_44 : decode cX8_perform 44 = .ok (.aload_n 0, 1) := by decide +kernel
theorem dX8_perform_45 : decode cX8_perform 45 = .ok (.getfield 134, 3) := by decide +kernel
theorem dX8_perform_48 : decode cX8_perform 48 = .ok (.ifCond .ne 23, 3) := by decide +kernel
theorem dX8_perform_51 : decode cX8_perform 51 = .ok (.aload_n 0, 1) := by decide +kernel
theorem dX8_perform_52 : decode cX8_perform 52 = .ok (.iconst 4, 1) := by decide +kernel
theorem dX8_perform_53 : decode cX8_perform 53 = .ok (.aload_n 0, 1) := by decide +kernel
theorem dX8_perform_54 : decode cX8_perform 54 = .ok (.iload 4, 2) := by decide +kernel
theorem dX8_perform_56 : decode cX8_perform 56 = .ok (.iload 5, 2) := by decide +kernel
theorem dX8_perform_58 : decode cX8_perform 58 = .ok (.iadd, 1) := by decide +kernel
theorem dX8_perform_59 : decode cX8_perform 59 = .ok (.invokevirtual 173, 3) := by decide +kernel
theorem dX8_perform_62 : decode cX8_perform 62 = .ok (.invokevirtual 54, 3) := by decide +kernel
theorem dX8_perform_65 : decode cX8_perform 65 = .ok (.iinc 5 1, 3) := by decide +kernel
theorem dX8_perform_68 : decode cX8_perform 68 = .ok (.goto (-30), 3) := by decide +kernel
theorem dX8_perform_71 : decode cX8_perform 71 = .ok (.aload_n 0, 1) := by decide +kernel
theorem dX8_perform_72 : decode cX8_perform 72 = .ok (.getfield 134, 3) := by decide +kernel
theorem dX8_perform_75 : decode cX8_perform 75 = .ok (.ifCond .ne 9, 3) := by decide +kernel
theorem dX8_perform_78 : decode cX8_perform 78 = .ok (.aload_n 0, 1) := by decide +kernel
theorem dX8_perform_79 : decode cX8_perform 79 = .ok (.iload 4, 2) := by decide +kernel
theorem dX8_perform_81 : decode cX8_perform 81 = .ok (.invokevirtual 92, 3) := by decide +kernel
theorem dX8_perform_84 : decode cX8_perform 84 = .ok (.return_, 1) := by decide +kernel
theorem dX8_perform_85 : decode cX8_perform 85 = .ok (.iconst 0, 1) := by decide +kernel
theorem dX8_perform_86 : decode cX8_perform 86 = .ok (.istore 4, 2) := by decide +kernel
theorem dX8_perform_88 : decode cX8_perform 88 = .ok (.iconst 0, 1) := by decide +kernel
theorem dX8_perform_89 : decode cX8_perform 89 = .ok (.istore 5, 2) := by decide +kernel
theorem dX8_perform_91 : decode cX8_perform 91 = .ok (.iload 5, 2) := by decide +kernel
theorem dX8_perform_93 : decode cX8_perform 93 = .ok (.iload_n 2, 1) := by decide +kernel
theorem dX8_perform_94 : decode cX8_perform 94 = .ok (.if_icmp .ge 45, 3) := by decide +kernel
theorem dX8_perform_97 : decode cX8_perform 97 = .ok (.aload_n 0, 1) := by decide +kernel
theorem dX8_perform_98 : decode cX8_perform 98 = .ok (.getfield 134, 3) := by decide +kernel
theorem dX8_perform_101 : decode cX8_perform 101 = .ok (.ifCond .ne 38, 3) := by decide +kernel
theorem dX8_perform_104 : decode cX8_perform 104 = .ok (.iload_n 1, 1) := by decide +kernel
theorem dX8_perform_105 : decode cX8_perform 105 = .ok (.iconst 1, 1) := by decide +kernel
theorem dX8_perform_106 : decode cX8_perform 106 = .ok (.if_icmp .eq 8, 3) := by decide +kernel
theorem dX8_perform_109 : decode cX8_perform 109 = .ok (.iload 5, 2) := by decide +kernel
theorem dX8_perform_111 : decode cX8_perform 111 = .ok (.ifCond .ne 11, 3) := by decide +kernel
theorem dX8_perform_114 : decode cX8_perform 114 = .ok (.aload_n 0, 1) := by decide +kernel
theorem dX8_perform_115 : decode cX8_perform 115 = .ok (.iconst 0, 1) := by decide +kernel
theorem dX8_perform_116 : decode cX8_perform 116 = .ok (.invokevirtual 138, 3) := by decide +kernel
theorem dX8_perform_119 : decode cX8_perform 119 = .ok (.goto 5, 3) := by decide +kernel
theorem dX8_perform_122 : decode cX8_perform 122 = .ok (.iload 4, 2) := by decide +kernel
theorem dX8_perform_124 : decode cX8_perform 124 = .ok (.istore 4, 2) := by decide +kernel
theorem dX8_perform_126 : decode cX8_perform 126 = .ok (.aload_n 0, 1) := by decide +kernel
theorem dX8_perform_127 : decode cX8_perform 127 = .ok (.iconst 4, 1) := by decide +kernel
theorem dX8_perform_128 : decode cX8_perform 128 = .ok (.iload 4, 2) := by decide +kernel
theorem dX8_perform_130 : decode cX8_perform 130 = .ok (.invokevirtual 54, 3) := by decide +kernel
theorem dX8_perform_133 : decode cX8_perform 133 = .ok (.iinc 5 1, 3) := by decide +kernel
theorem dX8_perform_136 : decode cX8_perform 136 = .ok (.goto (-45), 3) := by decide +kernel
theorem dX8_perform_139 : decode cX8_perform 139 = .ok (.return_, 1) := by decide +kernel
set_option maxRecDepth 20000 in
theorem ggX8_performAll_X8_next : GoodIn wsX8_performAll wsX8_next := goodIn_r _ [9, 1, 2, 3, 10, 56, 57, 58, 59, 60, 61, 62, 63, 64, 65, 66, 67, 68, 69, 70, 71, 72, 73, 74, 75, 76] (by decide +kernel) (by decide +kernel)
set_option maxRecDepth 20000 in
theorem gX8_performAll_X8_next : GoodIn wsX8_performAll (wsV RX8 138 RX8 yX8_next wsX8_next) := goodIn_app (goodIn_of _ (by decide +kernel)) ggX8_performAll_X8_next
set_option maxRecDepth 20000 in
theorem ggX8_performAll_X8_part : GoodIn wsX8_performAll wsX8_part := goodIn_r _ [13] (by decide +kernel) (by decide +kernel)
set_option maxRecDepth 20000 in
theorem gX8_performAll_X8_part : GoodIn wsX8_performAll (va_wsS RX8 58 yX8_part wsX8_part) := goodIn_app (goodIn_of _ (by decide +kernel)) ggX8_performAll_X8_part
set_option maxRecDepth 20000 in
theorem ggX8_performAll_X8_nextInteger : GoodIn wsX8_performAll wsX8_nextInteger := goodIn_r _ [17, 3, 18, 19, 5, 6, 7, 8, 9, 1, 2, 10, 56, 57, 58, 59, 60, 61, 62, 63, 64, 65, 66, 67, 68, 69, 70, 71, 72, 73, 74, 75, 76] (by decide +kernel) (by decide +kernel)
set_option maxRecDepth 20000 in
theorem gX8_performAll_X8_nextInteger : GoodIn wsX8_performAll (wsV RX8 161 RX8 yX8_nextInteger wsX8_nextInteger) := goodIn_app (goodIn_of _ (by decide +kernel)) ggX8_performAll_X8_nextInteger
set_option maxRecDepth 20000 in
theorem ggX8_performAll_X8_perform : GoodIn wsX8_performAll wsX8_perform := goodIn_r _ [23, 4, 3, 24, 25, 26, 8, 27, 28, 29, 30, 31, 32, 33, 34, 35, 5, 6, 7, 9, 1, 2, 10, 14, 15, 16, 17, 18, 19, 36, 37, 38, 39, 40, 41, 42, 43, 44, 45, 46, 47, 48, 49, 50, 51, 52, 53, 54, 55, 56, 57, 58, 59, 60, 61, 62, 63, 64, 65, 66, 67, 68, 69, 70, 71, 72, 73, 74, 75, 76] (by decide +kernel) (by decide +kernel)
set_option maxRecDepth 20000 in
theorem gX8_performAll_X8_perform : GoodIn wsX8_performAll (wsV RX8 176 RX8 yX8_perform wsX8_perform) := goodIn_app (goodIn_of _ (by decide +kernel)) ggX8_performAll_X8_perform
set_option maxRecDepth 20000 in
theorem ggX8_performAll_X8_made : GoodIn wsX8_performAll wsX8_made := goodIn_r _ [27, 28, 29, 56, 57, 58, 59, 60, 61, 62, 63, 64, 65, 66, 67, 68, 69, 70, 71, 72, 73, 74, 75, 76] (by decide +kernel) (by decide +kernel)
set_option maxRecDepth 20000 in
theorem gX8_performAll_X8_made : GoodIn wsX8_performAll (wsV RX8 151 RX8 yX8_made wsX8_made) := goodIn_app (goodIn_of _ (by decide +kernel)) ggX8_performAll_X8_made
theorem dX8_performAll_0 : decode cX8_performAll 0 = .ok (.aload_n 0, 1) := by decide +kernel
theorem dX8_performAll_1 : decode cX8_performAll 1 = .ok (.getfield 40, 3) := by decide +kernel
theorem dX8_performAll_4 : decode cX8_performAll 4 = .ok (.iconst 1, 1) := by decide +kernel
theorem dX8_performAll_5 : decode cX8_performAll 5 = .ok (.iaload, 1) := by decide +kernel
theorem dX8_performAll_6 : decode cX8_performAll 6 = .ok (.aload_n 0, 1) := by decide +kernel
theorem dX8_performAll_7 : decode cX8_performAll 7 = .ok (.getfield 43, 3) := by decide +kernel
theorem dX8_performAll_10 : decode cX8_performAll 10 = .ok (.iconst 1, 1) := by decide +kernel
theorem dX8_performAll_11 : decode cX8_performAll 11 = .ok (.iaload, 1) := by decide +kernel
theorem dX8_performAll_12 : decode cX8_performAll 12 = .ok (.if_icmp .ge 95, 3) := by decide +kernel
theorem dX8_performAll_15 : decode cX8_performAll 15 = .ok (.aload_n 0, 1) := by decide +kernel
theorem dX8_performAll_16 : decode cX8_performAll 16 = .ok (.getfield 134, 3) := by decide +kernel
theorem dX8_performAll_19 : decode cX8_performAll 19 = .ok (.ifCond .ne 88, 3) := by decide +kernel
theorem dX8_performAll_22 : decode cX8_performAll 22 = .ok (.aload_n 0, 1) := by decide +kernel
theorem dX8_performAll_23 : decode cX8_performAll 23 = .ok (.iconst 1, 1) := by decide +kernel
theorem dX8_performAll_24 : decode cX8_performAll 24 = .ok (.invokevirtual 138, 3) := by decide +kernel
theorem dX8_performAll_27 : decode cX8_performAll 27 = .ok (.istore_n 1, 1) := by decide +kernel
theorem dX8_performAll_28 : decode cX8_performAll 28 = .ok (.iconst 0, 1) := by decide +kernel
theorem dX8_performAll_29 : decode cX8_performAll 29 = .ok (.istore_n 2, 1) := by decide +kernel
theorem dX8_performAll_30 : decode cX8_performAll 30 = .ok (.iload_n 2, 1) := by decide +kernel
theorem dX8_performAll_31 : decode cX8_performAll 31 = .ok (.iconst 2, 1) := by decide +kernel
theorem dX8_performAll_32 : decode cX8_performAll 32 = .ok (.if_icmp .ge 72, 3) := by decide +kernel
theorem dX8_performAll_35 : decode cX8_performAll 35 = .ok (.aload_n 0, 1) := by decide +kernel
theorem dX8_performAll_36 : decode cX8_performAll 36 = .ok (.getfield 134, 3) := by decide +kernel
theorem dX8_performAll_39 : decode cX8_performAll 39 = .ok (.ifCond .ne 65, 3) := by decide +kernel
theorem dX8_performAll_42 : decode cX8_performAll 42 = .ok (.iload_n 1, 1) := by decide +kernel
theorem dX8_performAll_43 : decode cX8_performAll 43 = .ok (.iconst 3, 1) := by decide +kernel
theorem dX8_performAll_44 : decode cX8_performAll 44 = .ok (.iload_n 2, 1) := by decide +kernel
theorem dX8_performAll_45 : decode cX8_performAll 45 = .ok (.imul, 1) := by decide +kernel
theorem dX8_performAll_46 : decode cX8_performAll 46 = .ok (.invokestatic 58, 3) := by decide +kernel
theorem dX8_performAll_49 : decode cX8_performAll 49 = .ok (.istore_n 3, 1) := by decide +kernel
theorem dX8_performAll_50 : decode cX8_performAll 50 = .ok (.iload_n 1, 1) := by decide +kernel
theorem dX8_performAll_51 : decode cX8_performAll 51 = .ok (.iconst 3, 1) := by decide +kernel
theorem dX8_performAll_52 : decode cX8_performAll 52 = .ok (.iload_n 2, 1) := by decide +kernel
theorem dX8_performAll_53 : decode cX8_performAll 53 = .ok (.imul, 1) := by decide +kernel
theorem dX8_performAll_54 : decode cX8_performAll 54 = .ok (.iconst 1, 1) := by decide +kernel
theorem dX8_performAll_55 : decode cX8_performAll 55 = .ok (.iadd, 1) := by decide +kernel
theorem dX8_performAll_56 : decode cX8_performAll 56 = .ok (.invokestatic 58, 3) := by decide +kernel
theorem dX8_performAll_59 : decode cX8_performAll 59 = .ok (.istore 4, 2) := by decide +kernel
theorem dX8_performAll_61 : decode cX8_performAll 61 = .ok (.iload_n 3, 1) := by decide +kernel
theorem dX8_performAll_62 : decode cX8_performAll 62 = .ok (.ifCond .le 36, 3) := by decide +kernel
theorem dX8_performAll_65 : decode cX8_performAll 65 = .ok (.iload 4, 2) := by decide +kernel
theorem dX8_performAll_67 : decode cX8_performAll 67 = .ok (.ifCond .ne 11, 3) := by decide +kernel
theorem dX8_performAll_70 : decode cX8_performAll 70 = .ok (.aload_n 0, 1) := by decide +kernel
theorem dX8_performAll_71 : decode cX8_performAll 71 = .ok (.iconst 1, 1) := by decide +kernel
theorem dX8_performAll_72 : decode cX8_performAll 72 = .ok (.invokevirtual 161, 3) := by decide +kernel
theorem dX8_performAll_75 : decode cX8_performAll 75 = .ok (.goto 5, 3) := by decide +kernel
theorem dX8_performAll_78 : decode cX8_performAll 78 = .ok (.iload 4, 2) := by decide +kernel
theorem dX8_performAll_80 : decode cX8_performAll 80 = .ok (.istore 4, 2) := by decide +kernel
theorem dX8_performAll_82 : decode cX8_performAll 82 = .ok (.aload_n 0, 1) := by decide +kernel
theorem dX8_performAll_83 : decode cX8_performAll 83 = .ok (.iload_n 3, 1) := by decide +kernel
theorem dX8_performAll_84 : decode cX8_performAll 84 = .ok (.iload 4, 2) := by decide +kernel
theorem dX8_performAll_86 : decode cX8_performAll 86 = .ok (.iload_n 1, 1) := by decide +kernel
theorem dX8_performAll_87 : decode cX8_performAll 87 = .ok (.iconst 3, 1) := by decide +kernel
theorem dX8_performAll_88 : decode cX8_performAll 88 = .ok (.iload_n 2, 1) := by decide +kernel
theorem dX8_performAll_89 : decode cX8_performAll 89 = .ok (.imul, 1) := by decide +kernel
theorem dX8_performAll_90 : decode cX8_performAll 90 = .ok (.iconst 2, 1) := by decide +kernel
theorem dX8_performAll_91 : decode cX8_performAll 91 = .ok (.iadd, 1) := by decide +kernel
theorem dX8_performAll_92 : decode cX8_performAll 92 = .ok (.invokestatic 58, 3) := by decide +kernel
theorem dX8_performAll_95 : decode cX8_performAll 95 = .ok (.invokevirtual 176, 3) := by decide +kernel
theorem dX8_performAll_98 : decode cX8_performAll 98 = .ok (.iinc 2 1, 3) := by decide +kernel
theorem dX8_performAll_101 : decode cX8_performAll 101 = .ok (.goto (-71), 3) := by decide +kernel
theorem dX8_performAll_104 : decode cX8_performAll 104 = .ok (.goto (-104), 3) := by decide +kernel
theorem dX8_performAll_107 : decode cX8_performAll 107 = .ok (.aload_n 0, 1) := by decide +kernel
theorem dX8_performAll_108 : decode cX8_performAll 108 = .ok (.aload_n 0, 1) := by decide +kernel
theorem dX8_performAll_109 : decode cX8_performAll 109 = .ok (.getfield 134, 3) := by decide +kernel
theorem dX8_performAll_112 : decode cX8_performAll 112 = .ok (.ifCond .ne 44, 3) := by decide +kernel
theorem dX8_performAll_115 : decode cX8_performAll 115 = .ok (.aload_n 0, 1) := by decide +kernel
theorem dX8_performAll_116 : decode cX8_performAll 116 = .ok (.invokevirtual 151, 3) := by decide +kernel
theorem dX8_performAll_119 : decode cX8_performAll 119 = .ok (.aload_n 0, 1) := by decide +kernel
theorem dX8_performAll_120 : decode cX8_performAll 120 = .ok (.getfield 167, 3) := by decide +kernel
theorem dX8_performAll_123 : decode cX8_performAll 123 = .ok (.if_icmp .ne 33, 3) := by decide +kernel
theorem dX8_performAll_126 : decode cX8_performAll 126 = .ok (.aload_n 0, 1) := by decide +kernel
theorem dX8_performAll_127 : decode cX8_performAll 127 = .ok (.getfield 40, 3) := by decide +kernel
theorem dX8_performAll_130 : decode cX8_performAll 130 = .ok (.iconst 0, 1) := by decide +kernel
theorem dX8_performAll_131 : decode cX8_performAll 131 = .ok (.iaload, 1) := by decide +kernel
theorem dX8_performAll_132 : decode cX8_performAll 132 = .ok (.aload_n 0, 1) := by decide +kernel
theorem dX8_performAll_133 : decode cX8_performAll 133 = .ok (.getfield 43, 3) := by decide +kernel
theorem dX8_performAll_136 : decode cX8_performAll 136 = .ok (.iconst 0, 1) := by decide +kernel
theorem dX8_performAll_137 : decode cX8_performAll 137 = .ok (.iaload, 1) := by decide +kernel
theorem dX8_performAll_138 : decode cX8_performAll 138 = .ok (.if_icmp .ne 18, 3) := by decide +kernel
theorem dX8_performAll_141 : decode cX8_performAll 141 = .ok (.aload_n 0, 1) := by decide +kernel
theorem dX8_performAll_142 : decode cX8_performAll 142 = .ok (.getfield 40, 3) := by decide +kernel
theorem dX8_performAll_145 : decode cX8_performAll 145 = .ok (.iconst 2, 1) := by decide +kernel
theorem dX8_performAll_146 : decode cX8_performAll 146 = .ok (.iaload, 1) := by decide +kernel
theorem dX8_performAll_147 : decode cX8_performAll 147 = .ok (.aload_n 0, 1) := by decide +kernel
theorem dX8_performAll_148 : decode cX8_performAll 148 = .ok (.getfield 43, 3) := by decide +kernel
theorem dX8_performAll_151 : decode cX8_performAll 151 = .ok (.iconst 2, 1) := by decide +kernel
theorem dX8_performAll_152 : decode cX8_performAll 152 = .ok (.iaload, 1) := by decide +kernel
theorem dX8_performAll_153 : decode cX8_performAll 153 = .ok (.if_icmp .eq 7, 3) := by decide +kernel
theorem dX8_performAll_156 : decode cX8_performAll 156 = .ok (.iconst 1, 1) := by decide +kernel
theorem dX8_performAll_157 : decode cX8_performAll 157 = .ok (.goto 4, 3) := by decide +kernel
theorem dX8_performAll_160 : decode cX8_performAll 160 = .ok (.iconst 0, 1) := by decide +kernel
theorem dX8_performAll_161 : decode cX8_performAll 161 = .ok (.putfield 134, 3) := by decide +kernel
theorem dX8_performAll_164 : decode cX8_performAll 164 = .ok (.return_, 1) := by decide +kernel
set_option maxRecDepth 20000 in
theorem ggX8_readSegment_X8_next : GoodIn wsX8_readSegment wsX8_next := goodIn_r _ [10, 11, 12, 4, 13, 20, 21, 22, 23, 24, 25, 26, 27, 28, 29, 30, 31, 32, 33, 34, 35, 36, 37, 38, 39, 40] (by decide +kernel) (by decide +kernel)
set_option maxRecDepth 20000 in
theorem gX8_readSegment_X8_next : GoodIn wsX8_readSegment (wsV RX8 138 RX8 yX8_next wsX8_next) := goodIn_app (goodIn_of _ (by decide +kernel)) ggX8_readSegment_X8_next
set_option maxRecDepth 20000 in
theorem ggX8_readSegment_X8_nextInteger : GoodIn wsX8_readSegment wsX8_nextInteger := goodIn_r _ [17, 4, 18, 19, 6, 7, 8, 9, 10, 11, 12, 13, 20, 21, 22, 23, 24, 25, 26, 27, 28, 29, 30, 31, 32, 33, 34, 35, 36, 37, 38, 39, 40] (by decide +kernel) (by decide +kernel)
set_option maxRecDepth 20000 in
theorem gX8_readSegment_X8_nextInteger : GoodIn wsX8_readSegment (wsV RX8 161 RX8 yX8_nextInteger wsX8_nextInteger) := goodIn_app (goodIn_of _ (by decide +kernel)) ggX8_readSegment_X8_nextInteger
theorem dX8_readSegment_0 : decode cX8_readSegment 0 = .ok (.aload_n 0, 1) := by decide +kernel
theorem dX8_readSegment_1 : decode cX8_readSegment 1 = .ok (.aload_n 0, 1) := by decide +kernel
theorem dX8_readSegment_2 : decode cX8_readSegment 2 = .ok (.iconst 3, 1) := by decide +kernel
theorem dX8_readSegment_3 : decode cX8_readSegment 3 = .ok (.invokevirtual 138, 3) := by decide +kernel
theorem dX8_readSegment_6 : decode cX8_readSegment 6 = .ok (.putfield 155, 3) := by decide +kernel
theorem dX8_readSegment_9 : decode cX8_readSegment 9 = .ok (.aload_n 0, 1) := by decide +kernel
theorem dX8_readSegment_10 : decode cX8_readSegment 10 = .ok (.iconst 0, 1) := by decide +kernel
theorem dX8_readSegment_11 : decode cX8_readSegment 11 = .ok (.putfield 148, 3) := by decide +kernel
theorem dX8_readSegment_14 : decode cX8_readSegment 14 = .ok (.aload_n 0, 1) := by decide +kernel
theorem dX8_readSegment_15 : decode cX8_readSegment 15 = .ok (.iconst 0, 1) := by decide +kernel
theorem dX8_readSegment_16 : decode cX8_readSegment 16 = .ok (.putfield 158, 3) := by decide +kernel
theorem dX8_readSegment_19 : decode cX8_readSegment 19 = .ok (.aload_n 0, 1) := by decide +kernel
theorem dX8_readSegment_20 : decode cX8_readSegment 20 = .ok (.aload_n 0, 1) := by decide +kernel
theorem dX8_readSegment_21 : decode cX8_readSegment 21 = .ok (.getfield 134, 3) := by decide +kernel
theorem dX8_readSegment_24 : decode cX8_readSegment 24 = .ok (.ifCond .ne 11, 3) := by decide +kernel
theorem dX8_readSegment_27 : decode cX8_readSegment 27 = .ok (.aload_n 0, 1) := by decide +kernel
theorem dX8_readSegment_28 : decode cX8_readSegment 28 = .ok (.getfield 155, 3) := by decide +kernel
theorem dX8_readSegment_31 : decode cX8_readSegment 31 = .ok (.iconst 2, 1) := by decide +kernel
theorem dX8_readSegment_32 : decode cX8_readSegment 32 = .ok (.if_icmp .le 7, 3) := by decide +kernel
theorem dX8_readSegment_35 : decode cX8_readSegment 35 = .ok (.iconst 1, 1) := by decide +kernel
theorem dX8_readSegment_36 : decode cX8_readSegment 36 = .ok (.goto 4, 3) := by decide +kernel
theorem dX8_readSegment_39 : decode cX8_readSegment 39 = .ok (.iconst 0, 1) := by decide +kernel
theorem dX8_readSegment_40 : decode cX8_readSegment 40 = .ok (.putfield 134, 3) := by decide +kernel
theorem dX8_readSegment_43 : decode cX8_readSegment 43 = .ok (.aload_n 0, 1) := by decide +kernel
theorem dX8_readSegment_44 : decode cX8_readSegment 44 = .ok (.getfield 155, 3) := by decide +kernel
theorem dX8_readSegment_47 : decode cX8_readSegment 47 = .ok (.ifCond .le 85, 3) := by decide +kernel
theorem dX8_readSegment_50 : decode cX8_readSegment 50 = .ok (.aload_n 0, 1) := by decide +kernel
theorem dX8_readSegment_51 : decode cX8_readSegment 51 = .ok (.getfield 134, 3) := by decide +kernel
theorem dX8_readSegment_54 : decode cX8_readSegment 54 = .ok (.ifCond .ne 78, 3) := by decide +kernel
theorem dX8_readSegment_57 : decode cX8_readSegment 57 = .ok (.aload_n 0, 1) := by decide +kernel
theorem dX8_readSegment_58 : decode cX8_readSegment 58 = .ok (.aload_n 0, 1) := by decide +kernel
theorem dX8_readSegment_59 : decode cX8_readSegment 59 = .ok (.iconst 3, 1) := by decide +kernel
theorem dX8_readSegment_60 : decode cX8_readSegment 60 = .ok (.invokevirtual 161, 3) := by decide +kernel
theorem dX8_readSegment_63 : decode cX8_readSegment 63 = .ok (.putfield 148, 3) := by decide +kernel
theorem dX8_readSegment_66 : decode cX8_readSegment 66 = .ok (.aload_n 0, 1) := by decide +kernel
theorem dX8_readSegment_67 : decode cX8_readSegment 67 = .ok (.aload_n 0, 1) := by decide +kernel
theorem dX8_readSegment_68 : decode cX8_readSegment 68 = .ok (.iconst 3, 1) := by decide +kernel
theorem dX8_readSegment_69 : decode cX8_readSegment 69 = .ok (.invokevirtual 161, 3) := by decide +kernel
theorem dX8_readSegment_72 : decode cX8_readSegment 72 = .ok (.putfield 158, 3) := by decide +kernel
theorem dX8_readSegment_75 : decode cX8_readSegment 75 = .ok (.aload_n 0, 1) := by decide +kernel
theorem dX8_readSegment_76 : decode cX8_readSegment 76 = .ok (.getfield 148, 3) := by decide +kernel
theorem dX8_readSegment_79 : decode cX8_readSegment 79 = .ok (.i2l, 1) := by decide +kernel
theorem dX8_readSegment_80 : decode cX8_readSegment 80 = .ok (.aload_n 0, 1) := by decide +kernel
theorem dX8_readSegment_81 : decode cX8_readSegment 81 = .ok (.getfield 158, 3) := by decide +kernel
theorem dX8_readSegment_84 : decode cX8_readSegment 84 = .ok (.i2l, 1) := by decide +kernel
theorem dX8_readSegment_85 : decode cX8_readSegment 85 = .ok (.ladd, 1) := by decide +kernel
theorem dX8_readSegment_86 : decode cX8_readSegment 86 = .ok (.lstore_n 1, 1) := by decide +kernel
theorem dX8_readSegment_87 : decode cX8_readSegment 87 = .ok (.aload_n 0, 1) := by decide +kernel
theorem dX8_readSegment_88 : decode cX8_readSegment 88 = .ok (.aload_n 0, 1) := by decide +kernel
theorem dX8_readSegment_89 : decode cX8_readSegment 89 = .ok (.getfield 134, 3) := by decide +kernel
theorem dX8_readSegment_92 : decode cX8_readSegment 92 = .ok (.ifCond .ne 32, 3) := by decide +kernel
theorem dX8_readSegment_95 : decode cX8_readSegment 95 = .ok (.lload_n 1, 1) := by decide +kernel
theorem dX8_readSegment_96 : decode cX8_readSegment 96 = .ok (.aload_n 0, 1) := by decide +kernel
theorem dX8_readSegment_97 : decode cX8_readSegment 97 = .ok (.getfield 155, 3) := by decide +kernel
theorem dX8_readSegment_100 : decode cX8_readSegment 100 = .ok (.iconst 1, 1) := by decide +kernel
theorem dX8_readSegment_101 : decode cX8_readSegment 101 = .ok (.if_icmp .ne 12, 3) := by decide +kernel
theorem dX8_readSegment_104 : decode cX8_readSegment 104 = .ok (.aload_n 0, 1) := by decide +kernel
theorem dX8_readSegment_105 : decode cX8_readSegment 105 = .ok (.getfield 13, 3) := by decide +kernel
theorem dX8_readSegment_108 : decode cX8_readSegment 108 = .ok (.iconst 0, 1) := by decide +kernel
theorem dX8_readSegment_109 : decode cX8_readSegment 109 = .ok (.iaload, 1) := by decide +kernel
theorem dX8_readSegment_110 : decode cX8_readSegment 110 = .ok (.goto 9, 3) := by decide +kernel
theorem dX8_readSegment_113 : decode cX8_readSegment 113 = .ok (.aload_n 0, 1) := by decide +kernel
theorem dX8_readSegment_114 : decode cX8_readSegment 114 = .ok (.getfield 13, 3) := by decide +kernel
theorem dX8_readSegment_117 : decode cX8_readSegment 117 = .ok (.iconst 4, 1) := by decide +kernel
theorem dX8_readSegment_118 : decode cX8_readSegment 118 = .ok (.iaload, 1) := by decide +kernel
theorem dX8_readSegment_119 : decode cX8_readSegment 119 = .ok (.i2l, 1) := by decide +kernel
theorem dX8_readSegment_120 : decode cX8_readSegment 120 = .ok (.lcmp, 1) := by decide +kernel
theorem dX8_readSegment_121 : decode cX8_readSegment 121 = .ok (.ifCond .le 7, 3) := by decide +kernel
theorem dX8_readSegment_124 : decode cX8_readSegment 124 = .ok (.iconst 1, 1) := by decide +kernel
theorem dX8_readSegment_125 : decode cX8_readSegment 125 = .ok (.goto 4, 3) := by decide +kernel
theorem dX8_readSegment_128 : decode cX8_readSegment 128 = .ok (.iconst 0, 1) := by decide +kernel
theorem dX8_readSegment_129 : decode cX8_readSegment 129 = .ok (.putfield 134, 3) := by decide +kernel
theorem dX8_readSegment_132 : decode cX8_readSegment 132 = .ok (.return_, 1) := by decide +kernel
set_option maxRecDepth 20000 in
theorem ggX8_readWindow_X8_readSegment : GoodIn wsX8_readWindow wsX8_readSegment := goodIn_r _ [11, 12, 13, 14, 1, 4, 15, 16, 17, 10, 18, 2, 6, 19, 20, 21, 22, 23, 24, 25, 68, 69, 70, 71, 72, 73, 74, 75, 76, 77, 78, 79, 80, 81, 82, 83, 84, 85, 86, 87, 88] (by decide +kernel) (by decide +kernel)
set_option maxRecDepth 20000 in
theorem gX8_readWindow_X8_readSegment : GoodIn wsX8_readWindow (wsV RX8 179 RX8 yX8_readSegment wsX8_readSegment) := goodIn_app (goodIn_of _ (by decide +kernel)) ggX8_readWindow_X8_readSegment
set_option maxRecDepth 20000 in
theorem ggX8_readWindow_X8_nextInteger : GoodIn wsX8_readWindow wsX8_nextInteger := goodIn_r _ [23, 1, 24, 25, 15, 16, 17, 10, 18, 2, 6, 19, 68, 69, 70, 71, 72, 73, 74, 75, 76, 77, 78, 79, 80, 81, 82, 83, 84, 85, 86, 87, 88] (by decide +kernel) (by decide +kernel)
set_option maxRecDepth 20000 in
theorem gX8_readWindow_X8_nextInteger : GoodIn wsX8_readWindow (wsV RX8 161 RX8 yX8_nextInteger wsX8_nextInteger) := goodIn_app (goodIn_of _ (by decide +kernel)) ggX8_readWindow_X8_nextInteger
set_option maxRecDepth 20000 in
theorem ggX8_readWindow_X8_next : GoodIn wsX8_readWindow wsX8_next := goodIn_r _ [18, 2, 6, 1, 19, 68, 69, 70, 71, 72, 73, 74, 75, 76, 77, 78, 79, 80, 81, 82, 83, 84, 85, 86, 87, 88] (by decide +kernel) (by decide +kernel)
set_option maxRecDepth 20000 in
theorem gX8_readWindow_X8_next : GoodIn wsX8_readWindow (wsV RX8 138 RX8 yX8_next wsX8_next) := goodIn_app (goodIn_of _ (by decide +kernel)) ggX8_readWindow_X8_next
set_option maxRecDepth 20000 in
theorem ggX8_readWindow_X8_forget : GoodIn wsX8_readWindow wsX8_forget := goodIn_r _ [29, 30, 31, 32, 68, 69, 70, 71, 72, 73, 74, 75, 76, 77, 78, 79, 80, 81, 82, 83, 84, 85, 86, 87, 88] (by decide +kernel) (by decide +kernel)
set_option maxRecDepth 20000 in
theorem gX8_readWindow_X8_forget : GoodIn wsX8_readWindow (wsV RX8 113 RX8 yX8_forget wsX8_forget) := goodIn_app (goodIn_of _ (by decide +kernel)) ggX8_readWindow_X8_forget
set_option maxRecDepth 20000 in
theorem ggX8_readWindow_X8_performAll : GoodIn wsX8_readWindow wsX8_performAll := goodIn_r _ [36, 2, 6, 1, 3, 15, 16, 17, 10, 18, 19, 37, 38, 39, 20, 21, 22, 23, 24, 25, 40, 41, 42, 43, 44, 45, 46, 47, 4, 5, 48, 49, 50, 51, 31, 30, 52, 53, 54, 55, 13, 56, 57, 58, 59, 12, 14, 60, 61, 62, 63, 64, 65, 66, 67, 32, 68, 69, 70, 71, 72, 73, 74, 75, 76, 77, 78, 79, 80, 81, 82, 83, 84, 85, 86, 87, 88] (by decide +kernel) (by decide +kernel)
set_option maxRecDepth 20000 in
theorem gX8_readWindow_X8_performAll : GoodIn wsX8_readWindow (wsV RX8 182 RX8 yX8_performAll wsX8_performAll) := goodIn_app (goodIn_of _ (by decide +kernel)) ggX8_readWindow_X8_performAll
theorem dX8_readWindow_0 : decode cX8_readWindow 0 = .ok (.aload_n 0, 1) := by decide +kernel
theorem dX8_readWindow_1 : decode cX8_readWindow 1 = .ok (.invokevirtual 179, 3) := by decide +kernel
theorem dX8_readWindow_4 : decode cX8_readWindow 4 = .ok (.aload_n 0, 1) := by decide +kernel
theorem dX8_readWindow_5 : decode cX8_readWindow 5 = .ok (.getfield 134, 3) := by decide +kernel
theorem dX8_readWindow_8 : decode cX8_readWindow 8 = .ok (.ifCond .eq 6, 3) := by decide +kernel
theorem dX8_readWindow_11 : decode cX8_readWindow 11 = .ok (.bipush (-2), 2) := by decide +kernel
theorem dX8_readWindow_13 : decode cX8_readWindow 13 = .ok (.ireturn, 1) := by decide +kernel
theorem dX8_readWindow_14 : decode cX8_readWindow 14 = .ok (.aload_n 0, 1) := by decide +kernel
theorem dX8_readWindow_15 : decode cX8_readWindow 15 = .ok (.iconst 3, 1) := by decide +kernel
theorem dX8_readWindow_16 : decode cX8_readWindow 16 = .ok (.invokevirtual 161, 3) := by decide +kernel
theorem dX8_readWindow_19 : decode cX8_readWindow 19 = .ok (.istore_n 2, 1) := by decide +kernel
theorem dX8_readWindow_20 : decode cX8_readWindow 20 = .ok (.aload_n 0, 1) := by decide +kernel
theorem dX8_readWindow_21 : decode cX8_readWindow 21 = .ok (.getfield 40, 3) := by decide +kernel
theorem dX8_readWindow_24 : decode cX8_readWindow 24 = .ok (.iconst 3, 1) := by decide +kernel
theorem dX8_readWindow_25 : decode cX8_readWindow 25 = .ok (.iaload, 1) := by decide +kernel
theorem dX8_readWindow_26 : decode cX8_readWindow 26 = .ok (.istore_n 3, 1) := by decide +kernel
theorem dX8_readWindow_27 : decode cX8_readWindow 27 = .ok (.aload_n 0, 1) := by decide +kernel
theorem dX8_readWindow_28 : decode cX8_readWindow 28 = .ok (.aload_n 0, 1) := by decide +kernel
theorem dX8_readWindow_29 : decode cX8_readWindow 29 = .ok (.iconst 3, 1) := by decide +kernel
theorem dX8_readWindow_30 : decode cX8_readWindow 30 = .ok (.invokevirtual 161, 3) := by decide +kernel
theorem dX8_readWindow_33 : decode cX8_readWindow 33 = .ok (.putfield 167, 3) := by decide +kernel
theorem dX8_readWindow_36 : decode cX8_readWindow 36 = .ok (.aload_n 0, 1) := by decide +kernel
theorem dX8_readWindow_37 : decode cX8_readWindow 37 = .ok (.getfield 134, 3) := by decide +kernel
theorem dX8_readWindow_40 : decode cX8_readWindow 40 = .ok (.ifCond .eq 6, 3) := by decide +kernel
theorem dX8_readWindow_43 : decode cX8_readWindow 43 = .ok (.bipush (-2), 2) := by decide +kernel
theorem dX8_readWindow_45 : decode cX8_readWindow 45 = .ok (.ireturn, 1) := by decide +kernel
theorem dX8_readWindow_46 : decode cX8_readWindow 46 = .ok (.aload_n 0, 1) := by decide +kernel
theorem dX8_readWindow_47 : decode cX8_readWindow 47 = .ok (.aload_n 0, 1) := by decide +kernel
theorem dX8_readWindow_48 : decode cX8_readWindow 48 = .ok (.getfield 13, 3) := by decide +kernel
theorem dX8_readWindow_51 : decode cX8_readWindow 51 = .ok (.iconst 4, 1) := by decide +kernel
theorem dX8_readWindow_52 : decode cX8_readWindow 52 = .ok (.iaload, 1) := by decide +kernel
theorem dX8_readWindow_53 : decode cX8_readWindow 53 = .ok (.putfield 145, 3) := by decide +kernel
theorem dX8_readWindow_56 : decode cX8_readWindow 56 = .ok (.aload_n 0, 1) := by decide +kernel
theorem dX8_readWindow_57 : decode cX8_readWindow 57 = .ok (.getfield 145, 3) := by decide +kernel
theorem dX8_readWindow_60 : decode cX8_readWindow 60 = .ok (.i2l, 1) := by decide +kernel
theorem dX8_readWindow_61 : decode cX8_readWindow 61 = .ok (.aload_n 0, 1) := by decide +kernel
theorem dX8_readWindow_62 : decode cX8_readWindow 62 = .ok (.getfield 167, 3) := by decide +kernel
theorem dX8_readWindow_65 : decode cX8_readWindow 65 = .ok (.i2l, 1) := by decide +kernel
theorem dX8_readWindow_66 : decode cX8_readWindow 66 = .ok (.ladd, 1) := by decide +kernel
theorem dX8_readWindow_67 : decode cX8_readWindow 67 = .ok (.iload_n 1, 1) := by decide +kernel
theorem dX8_readWindow_68 : decode cX8_readWindow 68 = .ok (.i2l, 1) := by decide +kernel
theorem dX8_readWindow_69 : decode cX8_readWindow 69 = .ok (.lcmp, 1) := by decide +kernel
theorem dX8_readWindow_70 : decode cX8_readWindow 70 = .ok (.ifCond .le 6, 3) := by decide +kernel
theorem dX8_readWindow_73 : decode cX8_readWindow 73 = .ok (.bipush (-3), 2) := by decide +kernel
theorem dX8_readWindow_75 : decode cX8_readWindow 75 = .ok (.ireturn, 1) := by decide +kernel
theorem dX8_readWindow_76 : decode cX8_readWindow 76 = .ok (.aload_n 0, 1) := by decide +kernel
theorem dX8_readWindow_77 : decode cX8_readWindow 77 = .ok (.iconst 3, 1) := by decide +kernel
theorem dX8_readWindow_78 : decode cX8_readWindow 78 = .ok (.invokevirtual 138, 3) := by decide +kernel
theorem dX8_readWindow_81 : decode cX8_readWindow 81 = .ok (.istore 4, 2) := by decide +kernel
theorem dX8_readWindow_83 : decode cX8_readWindow 83 = .ok (.lconst 0, 1) := by decide +kernel
theorem dX8_readWindow_84 : decode cX8_readWindow 84 = .ok (.lstore 5, 2) := by decide +kernel
theorem dX8_readWindow_86 : decode cX8_readWindow 86 = .ok (.lconst 0, 1) := by decide +kernel
theorem dX8_readWindow_87 : decode cX8_readWindow 87 = .ok (.lstore 7, 2) := by decide +kernel
theorem dX8_readWindow_89 : decode cX8_readWindow 89 = .ok (.aload_n 0, 1) := by decide +kernel
theorem dX8_readWindow_90 : decode cX8_readWindow 90 = .ok (.iconst 3, 1) := by decide +kernel
theorem dX8_readWindow_91 : decode cX8_readWindow 91 = .ok (.invokevirtual 161, 3) := by decide +kernel
theorem dX8_readWindow_94 : decode cX8_readWindow 94 = .ok (.i2l, 1) := by decide +kernel
theorem dX8_readWindow_95 : decode cX8_readWindow 95 = .ok (.lstore 9, 2) := by decide +kernel
theorem dX8_readWindow_97 : decode cX8_readWindow 97 = .ok (.aload_n 0, 1) := by decide +kernel
theorem dX8_readWindow_98 : decode cX8_readWindow 98 = .ok (.iconst 3, 1) := by decide +kernel
theorem dX8_readWindow_99 : decode cX8_readWindow 99 = .ok (.invokevirtual 161, 3) := by decide +kernel
theorem dX8_readWindow_102 : decode cX8_readWindow 102 = .ok (.i2l, 1) := by decide +kernel
theorem dX8_readWindow_103 : decode cX8_readWindow 103 = .ok (.lstore 11, 2) := by decide +kernel
theorem dX8_readWindow_105 : decode cX8_readWindow 105 = .ok (.aload_n 0, 1) := by decide +kernel
theorem dX8_readWindow_106 : decode cX8_readWindow 106 = .ok (.iconst 3, 1) := by decide +kernel
theorem dX8_readWindow_107 : decode cX8_readWindow 107 = .ok (.invokevirtual 161, 3) := by decide +kernel
theorem dX8_readWindow_110 : decode cX8_readWindow 110 = .ok (.i2l, 1) := by decide +kernel
theorem dX8_readWindow_111 : decode cX8_readWindow 111 = .ok (.lstore 13, 2) := by decide +kernel
theorem dX8_readWindow_113 : decode cX8_readWindow 113 = .ok (.lload 9, 2) := by decide +kernel
theorem dX8_readWindow_115 : decode cX8_readWindow 115 = .ok (.lload 11, 2) := by decide +kernel
theorem dX8_readWindow_117 : decode cX8_readWindow 117 = .ok (.ladd, 1) := by decide +kernel
theorem dX8_readWindow_118 : decode cX8_readWindow 118 = .ok (.lload 13, 2) := by decide +kernel
theorem dX8_readWindow_120 : decode cX8_readWindow 120 = .ok (.ladd, 1) := by decide +kernel
theorem dX8_readWindow_121 : decode cX8_readWindow 121 = .ok (.lstore 7, 2) := by decide +kernel
theorem dX8_readWindow_123 : decode cX8_readWindow 123 = .ok (.aload_n 0, 1) := by decide +kernel
theorem dX8_readWindow_124 : decode cX8_readWindow 124 = .ok (.getfield 40, 3) := by decide +kernel
theorem dX8_readWindow_127 : decode cX8_readWindow 127 = .ok (.iconst 3, 1) := by decide +kernel
theorem dX8_readWindow_128 : decode cX8_readWindow 128 = .ok (.iaload, 1) := by decide +kernel
theorem dX8_readWindow_129 : decode cX8_readWindow 129 = .ok (.i2l, 1) := by decide +kernel
theorem dX8_readWindow_130 : decode cX8_readWindow 130 = .ok (.lstore 5, 2) := by decide +kernel
theorem dX8_readWindow_132 : decode cX8_readWindow 132 = .ok (.aload_n 0, 1) := by decide +kernel
theorem dX8_readWindow_133 : decode cX8_readWindow 133 = .ok (.getfield 134, 3) := by decide +kernel
theorem dX8_readWindow_136 : decode cX8_readWindow 136 = .ok (.ifCond .ne 38, 3) := by decide +kernel
theorem dX8_readWindow_139 : decode cX8_readWindow 139 = .ok (.iload 4, 2) := by decide +kernel
theorem dX8_readWindow_141 : decode cX8_readWindow 141 = .ok (.ifCond .ne 33, 3) := by decide +kernel
theorem dX8_readWindow_144 : decode cX8_readWindow 144 = .ok (.iload_n 2, 1) := by decide +kernel
theorem dX8_readWindow_145 : decode cX8_readWindow 145 = .ok (.i2l, 1) := by decide +kernel
theorem dX8_readWindow_146 : decode cX8_readWindow 146 = .ok (.lload 5, 2) := by decide +kernel
theorem dX8_readWindow_148 : decode cX8_readWindow 148 = .ok (.iload_n 3, 1) := by decide +kernel
theorem dX8_readWindow_149 : decode cX8_readWindow 149 = .ok (.i2l, 1) := by decide +kernel
theorem dX8_readWindow_150 : decode cX8_readWindow 150 = .ok (.lsub, 1) := by decide +kernel
theorem dX8_readWindow_151 : decode cX8_readWindow 151 = .ok (.lload 7, 2) := by decide +kernel
theorem dX8_readWindow_153 : decode cX8_readWindow 153 = .ok (.ladd, 1) := by decide +kernel
theorem dX8_readWindow_154 : decode cX8_readWindow 154 = .ok (.lcmp, 1) := by decide +kernel
theorem dX8_readWindow_155 : decode cX8_readWindow 155 = .ok (.ifCond .ne 19, 3) := by decide +kernel
theorem dX8_readWindow_158 : decode cX8_readWindow 158 = .ok (.lload 5, 2) := by decide +kernel
theorem dX8_readWindow_160 : decode cX8_readWindow 160 = .ok (.lload 7, 2) := by decide +kernel
theorem dX8_readWindow_162 : decode cX8_readWindow 162 = .ok (.ladd, 1) := by decide +kernel
theorem dX8_readWindow_163 : decode cX8_readWindow 163 = .ok (.aload_n 0, 1) := by decide +kernel
theorem dX8_readWindow_164 : decode cX8_readWindow 164 = .ok (.getfield 43, 3) := by decide +kernel
theorem dX8_readWindow_167 : decode cX8_readWindow 167 = .ok (.iconst 3, 1) := by decide +kernel
theorem dX8_readWindow_168 : decode cX8_readWindow 168 = .ok (.iaload, 1) := by decide +kernel
theorem dX8_readWindow_169 : decode cX8_readWindow 169 = .ok (.i2l, 1) := by decide +kernel
theorem dX8_readWindow_170 : decode cX8_readWindow 170 = .ok (.lcmp, 1) := by decide +kernel
theorem dX8_readWindow_171 : decode cX8_readWindow 171 = .ok (.ifCond .le 6, 3) := by decide +kernel
theorem dX8_readWindow_174 : decode cX8_readWindow 174 = .ok (.bipush (-2), 2) := by decide +kernel
theorem dX8_readWindow_176 : decode cX8_readWindow 176 = .ok (.ireturn, 1) := by decide +kernel
theorem dX8_readWindow_177 : decode cX8_readWindow 177 = .ok (.aload_n 0, 1) := by decide +kernel
theorem dX8_readWindow_178 : decode cX8_readWindow 178 = .ok (.getfield 40, 3) := by decide +kernel
theorem dX8_readWindow_181 : decode cX8_readWindow 181 = .ok (.iconst 0, 1) := by decide +kernel
theorem dX8_readWindow_182 : decode cX8_readWindow 182 = .ok (.lload 5, 2) := by decide +kernel
theorem dX8_readWindow_184 : decode cX8_readWindow 184 = .ok (.l2i, 1) := by decide +kernel
theorem dX8_readWindow_185 : decode cX8_readWindow 185 = .ok (.iastore, 1) := by decide +kernel
theorem dX8_readWindow_186 : decode cX8_readWindow 186 = .ok (.aload_n 0, 1) := by decide +kernel
theorem dX8_readWindow_187 : decode cX8_readWindow 187 = .ok (.getfield 43, 3) := by decide +kernel
theorem dX8_readWindow_190 : decode cX8_readWindow 190 = .ok (.iconst 0, 1) := by decide +kernel
theorem dX8_readWindow_191 : decode cX8_readWindow 191 = .ok (.lload 5, 2) := by decide +kernel
theorem dX8_readWindow_193 : decode cX8_readWindow 193 = .ok (.lload 9, 2) := by decide +kernel
theorem dX8_readWindow_195 : decode cX8_readWindow 195 = .ok (.ladd, 1) := by decide +kernel
theorem dX8_readWindow_196 : decode cX8_readWindow 196 = .ok (.l2i, 1) := by decide +kernel
theorem dX8_readWindow_197 : decode cX8_readWindow 197 = .ok (.iastore, 1) := by decide +kernel
theorem dX8_readWindow_198 : decode cX8_readWindow 198 = .ok (.aload_n 0, 1) := by decide +kernel
theorem dX8_readWindow_199 : decode cX8_readWindow 199 = .ok (.getfield 40, 3) := by decide +kernel
theorem dX8_readWindow_202 : decode cX8_readWindow 202 = .ok (.iconst 1, 1) := by decide +kernel
theorem dX8_readWindow_203 : decode cX8_readWindow 203 = .ok (.aload_n 0, 1) := by decide +kernel
theorem dX8_readWindow_204 : decode cX8_readWindow 204 = .ok (.getfield 43, 3) := by decide +kernel
theorem dX8_readWindow_207 : decode cX8_readWindow 207 = .ok (.iconst 0, 1) := by decide +kernel
theorem dX8_readWindow_208 : decode cX8_readWindow 208 = .ok (.iaload, 1) := by decide +kernel
theorem dX8_readWindow_209 : decode cX8_readWindow 209 = .ok (.iastore, 1) := by decide +kernel
theorem dX8_readWindow_210 : decode cX8_readWindow 210 = .ok (.aload_n 0, 1) := by decide +kernel
theorem dX8_readWindow_211 : decode cX8_readWindow 211 = .ok (.getfield 43, 3) := by decide +kernel
theorem dX8_readWindow_214 : decode cX8_readWindow 214 = .ok (.iconst 1, 1) := by decide +kernel
theorem dX8_readWindow_215 : decode cX8_readWindow 215 = .ok (.lload 5, 2) := by decide +kernel
theorem dX8_readWindow_217 : decode cX8_readWindow 217 = .ok (.lload 9, 2) := by decide +kernel
theorem dX8_readWindow_219 : decode cX8_readWindow 219 = .ok (.ladd, 1) := by decide +kernel
theorem dX8_readWindow_220 : decode cX8_readWindow 220 = .ok (.lload 11, 2) := by decide +kernel
theorem dX8_readWindow_222 : decode cX8_readWindow 222 = .ok (.ladd, 1) := by decide +kernel
theorem dX8_readWindow_223 : decode cX8_readWindow 223 = .ok (.l2i, 1) := by decide +kernel
theorem dX8_readWindow_224 : decode cX8_readWindow 224 = .ok (.iastore, 1) := by decide +kernel
theorem dX8_readWindow_225 : decode cX8_readWindow 225 = .ok (.aload_n 0, 1) := by decide +kernel
theorem dX8_readWindow_226 : decode cX8_readWindow 226 = .ok (.getfield 40, 3) := by decide +kernel
theorem dX8_readWindow_229 : decode cX8_readWindow 229 = .ok (.iconst 2, 1) := by decide +kernel
theorem dX8_readWindow_230 : decode cX8_readWindow 230 = .ok (.aload_n 0, 1) := by decide +kernel
theorem dX8_readWindow_231 : decode cX8_readWindow 231 = .ok (.getfield 43, 3) := by decide +kernel
theorem dX8_readWindow_234 : decode cX8_readWindow 234 = .ok (.iconst 1, 1) := by decide +kernel
theorem dX8_readWindow_235 : decode cX8_readWindow 235 = .ok (.iaload, 1) := by decide +kernel
theorem dX8_readWindow_236 : decode cX8_readWindow 236 = .ok (.iastore, 1) := by decide +kernel
theorem dX8_readWindow_237 : decode cX8_readWindow 237 = .ok (.aload_n 0, 1) := by decide +kernel
theorem dX8_readWindow_238 : decode cX8_readWindow 238 = .ok (.getfield 43, 3) := by decide +kernel
theorem dX8_readWindow_241 : decode cX8_readWindow 241 = .ok (.iconst 2, 1) := by decide +kernel
theorem dX8_readWindow_242 : decode cX8_readWindow 242 = .ok (.lload 5, 2) := by decide +kernel
theorem dX8_readWindow_244 : decode cX8_readWindow 244 = .ok (.lload 7, 2) := by decide +kernel
theorem dX8_readWindow_246 : decode cX8_readWindow 246 = .ok (.ladd, 1) := by decide +kernel
theorem dX8_readWindow_247 : decode cX8_readWindow 247 = .ok (.l2i, 1) := by decide +kernel
theorem dX8_readWindow_248 : decode cX8_readWindow 248 = .ok (.iastore, 1) := by decide +kernel
theorem dX8_readWindow_249 : decode cX8_readWindow 249 = .ok (.aload_n 0, 1) := by decide +kernel
theorem dX8_readWindow_250 : decode cX8_readWindow 250 = .ok (.getfield 40, 3) := by decide +kernel
theorem dX8_readWindow_253 : decode cX8_readWindow 253 = .ok (.iconst 3, 1) := by decide +kernel
theorem dX8_readWindow_254 : decode cX8_readWindow 254 = .ok (.aload_n 0, 1) := by decide +kernel
theorem dX8_readWindow_255 : decode cX8_readWindow 255 = .ok (.getfield 43, 3) := by decide +kernel
theorem dX8_readWindow_258 : decode cX8_readWindow 258 = .ok (.iconst 2, 1) := by decide +kernel
theorem dX8_readWindow_259 : decode cX8_readWindow 259 = .ok (.iaload, 1) := by decide +kernel
theorem dX8_readWindow_260 : decode cX8_readWindow 260 = .ok (.iastore, 1) := by decide +kernel
theorem dX8_readWindow_261 : decode cX8_readWindow 261 = .ok (.aload_n 0, 1) := by decide +kernel
theorem dX8_readWindow_262 : decode cX8_readWindow 262 = .ok (.invokevirtual 113, 3) := by decide +kernel
theorem dX8_readWindow_265 : decode cX8_readWindow 265 = .ok (.aload_n 0, 1) := by decide +kernel
theorem dX8_readWindow_266 : decode cX8_readWindow 266 = .ok (.invokevirtual 182, 3) := by decide +kernel
theorem dX8_readWindow_269 : decode cX8_readWindow 269 = .ok (.aload_n 0, 1) := by decide +kernel
theorem dX8_readWindow_270 : decode cX8_readWindow 270 = .ok (.getfield 134, 3) := by decide +kernel
theorem dX8_readWindow_273 : decode cX8_readWindow 273 = .ok (.ifCond .eq 8, 3) := by decide +kernel
theorem dX8_readWindow_276 : decode cX8_readWindow 276 = .ok (.bipush (-2), 2) := by decide +kernel
theorem dX8_readWindow_278 : decode cX8_readWindow 278 = .ok (.goto 4, 3) := by decide +kernel
theorem dX8_readWindow_281 : decode cX8_readWindow 281 = .ok (.iconst 0, 1) := by decide +kernel
theorem dX8_readWindow_282 : decode cX8_readWindow 282 = .ok (.ireturn, 1) := by decide +kernel
set_option maxRecDepth 20000 in
theorem ggX8_decode_X8_forget : GoodIn wsX8_decode wsX8_forget := goodIn_r _ [11, 12, 13, 14, 81, 82, 83, 84, 85, 86, 87, 88, 89, 90, 91, 92, 93, 94, 95, 96, 97, 98, 99, 100, 101] (by decide +kernel) (by decide +kernel)
set_option maxRecDepth 20000 in
theorem gX8_decode_X8_forget : GoodIn wsX8_decode (wsV RX8 113 RX8 yX8_forget wsX8_forget) := goodIn_app (goodIn_of _ (by decide +kernel)) ggX8_decode_X8_forget
set_option maxRecDepth 20000 in
theorem ggX8_decode_X8_next : GoodIn wsX8_decode wsX8_next := goodIn_r _ [18, 2, 3, 1, 5, 81, 82, 83, 84, 85, 86, 87, 88, 89, 90, 91, 92, 93, 94, 95, 96, 97, 98, 99, 100, 101] (by decide +kernel) (by decide +kernel)
set_option maxRecDepth 20000 in
theorem gX8_decode_X8_next : GoodIn wsX8_decode (wsV RX8 138 RX8 yX8_next wsX8_next) := goodIn_app (goodIn_of _ (by decide +kernel)) ggX8_decode_X8_next
set_option maxRecDepth 20000 in
theorem ggX8_decode_X8_head : GoodIn wsX8_decode wsX8_head := goodIn_r _ [21] (by decide +kernel) (by decide +kernel)
set_option maxRecDepth 20000 in
theorem gX8_decode_X8_head : GoodIn wsX8_decode (va_wsS RX8 125 yX8_head wsX8_head) := goodIn_app (goodIn_of _ (by decide +kernel)) ggX8_decode_X8_head
set_option maxRecDepth 20000 in
theorem ggX8_decode_X8_readWindow : GoodIn wsX8_decode wsX8_readWindow := goodIn_r _ [25, 1, 2, 26, 4, 27, 3, 28, 29, 30, 10, 31, 32, 33, 34, 15, 16, 17, 18, 5, 35, 36, 37, 38, 39, 40, 7, 8, 9, 11, 12, 13, 14, 41, 42, 43, 44, 45, 46, 47, 48, 49, 50, 51, 52, 53, 54, 55, 56, 57, 58, 59, 60, 61, 62, 63, 64, 65, 66, 67, 68, 69, 70, 71, 72, 73, 74, 75, 81, 82, 83, 84, 85, 86, 87, 88, 89, 90, 91, 92, 93, 94, 95, 96, 97, 98, 99, 100, 101] (by decide +kernel) (by decide +kernel)
set_option maxRecDepth 20000 in
theorem gX8_decode_X8_readWindow : GoodIn wsX8_decode (wsV RX8 185 RX8 yX8_readWindow wsX8_readWindow) := goodIn_app (goodIn_of _ (by decide +kernel)) ggX8_decode_X8_readWindow
set_option maxRecDepth 20000 in
theorem ggX8_decode_X8_show : GoodIn wsX8_decode wsX8_show := goodIn_r _ [79, 80, 12, 13, 81, 82, 83, 84, 85, 86, 87, 88, 89, 90, 91, 92, 93, 94, 95, 96, 97, 98, 99, 100, 101] (by decide +kernel) (by decide +kernel)
set_option maxRecDepth 20000 in
theorem gX8_decode_X8_show : GoodIn wsX8_decode (wsV RX8 131 RX8 yX8_show wsX8_show) := goodIn_app (goodIn_of _ (by decide +kernel)) ggX8_decode_X8_show
theorem dX8_decode_0 : decode cX8_decode 0 = .ok (.iload_n 1, 1) := by decide +kernel
theorem dX8_decode_1 : decode cX8_decode 1 = .ok (.ifCond .lt 10, 3) := by decide +kernel
theorem dX8_decode_4 : decode cX8_decode 4 = .ok (.iload_n 1, 1) := by decide +kernel
theorem dX8_decode_5 : decode cX8_decode 5 = .ok (.sipush 400, 3) := by decide +kernel
theorem dX8_decode_8 : decode cX8_decode 8 = .ok (.if_icmp .le 5, 3) := by decide +kernel
theorem dX8_decode_11 : decode cX8_decode 11 = .ok (.iconst (-1), 1) := by decide +kernel
theorem dX8_decode_12 : decode cX8_decode 12 = .ok (.ireturn, 1) := by decide +kernel
theorem dX8_decode_13 : decode cX8_decode 13 = .ok (.aload_n 0, 1) := by decide +kernel
theorem dX8_decode_14 : decode cX8_decode 14 = .ok (.iconst 0, 1) := by decide +kernel
theorem dX8_decode_15 : decode cX8_decode 15 = .ok (.putfield 134, 3) := by decide +kernel
theorem dX8_decode_18 : decode cX8_decode 18 = .ok (.aload_n 0, 1) := by decide +kernel
theorem dX8_decode_19 : decode cX8_decode 19 = .ok (.getfield 40, 3) := by decide +kernel
theorem dX8_decode_22 : decode cX8_decode 22 = .ok (.iconst 3, 1) := by decide +kernel
theorem dX8_decode_23 : decode cX8_decode 23 = .ok (.iconst 0, 1) := by decide +kernel
theorem dX8_decode_24 : decode cX8_decode 24 = .ok (.iastore, 1) := by decide +kernel
theorem dX8_decode_25 : decode cX8_decode 25 = .ok (.aload_n 0, 1) := by decide +kernel
theorem dX8_decode_26 : decode cX8_decode 26 = .ok (.getfield 43, 3) := by decide +kernel
theorem dX8_decode_29 : decode cX8_decode 29 = .ok (.iconst 3, 1) := by decide +kernel
theorem dX8_decode_30 : decode cX8_decode 30 = .ok (.aload_n 0, 1) := by decide +kernel
theorem dX8_decode_31 : decode cX8_decode 31 = .ok (.getfield 13, 3) := by decide +kernel
theorem dX8_decode_34 : decode cX8_decode 34 = .ok (.iconst 2, 1) := by decide +kernel
theorem dX8_decode_35 : decode cX8_decode 35 = .ok (.iaload, 1) := by decide +kernel
theorem dX8_decode_36 : decode cX8_decode 36 = .ok (.iastore, 1) := by decide +kernel
theorem dX8_decode_37 : decode cX8_decode 37 = .ok (.aload_n 0, 1) := by decide +kernel
theorem dX8_decode_38 : decode cX8_decode 38 = .ok (.getfield 13, 3) := by decide +kernel
theorem dX8_decode_41 : decode cX8_decode 41 = .ok (.iconst 4, 1) := by decide +kernel
theorem dX8_decode_42 : decode cX8_decode 42 = .ok (.iconst 0, 1) := by decide +kernel
theorem dX8_decode_43 : decode cX8_decode 43 = .ok (.iastore, 1) := by decide +kernel
theorem dX8_decode_44 : decode cX8_decode 44 = .ok (.iconst 0, 1) := by decide +kernel
theorem dX8_decode_45 : decode cX8_decode 45 = .ok (.istore_n 2, 1) := by decide +kernel
theorem dX8_decode_46 : decode cX8_decode 46 = .ok (.aload_n 0, 1) := by decide +kernel
theorem dX8_decode_47 : decode cX8_decode 47 = .ok (.invokevirtual 113, 3) := by decide +kernel
theorem dX8_decode_50 : decode cX8_decode 50 = .ok (.iconst 0, 1) := by decide +kernel
theorem dX8_decode_51 : decode cX8_decode 51 = .ok (.istore_n 3, 1) := by decide +kernel
theorem dX8_decode_52 : decode cX8_decode 52 = .ok (.iload_n 3, 1) := by decide +kernel
theorem dX8_decode_53 : decode cX8_decode 53 = .ok (.iconst 5, 1) := by decide +kernel
theorem dX8_decode_54 : decode cX8_decode 54 = .ok (.if_icmp .ge 41, 3) := by decide +kernel
theorem dX8_decode_57 : decode cX8_decode 57 = .ok (.aload_n 0, 1) := by decide +kernel
theorem dX8_decode_58 : decode cX8_decode 58 = .ok (.iconst 3, 1) := by decide +kernel
theorem dX8_decode_59 : decode cX8_decode 59 = .ok (.invokevirtual 138, 3) := by decide +kernel
theorem dX8_decode_62 : decode cX8_decode 62 = .ok (.istore 4, 2) := by decide +kernel
theorem dX8_decode_64 : decode cX8_decode 64 = .ok (.aload_n 0, 1) := by decide +kernel
theorem dX8_decode_65 : decode cX8_decode 65 = .ok (.aload_n 0, 1) := by decide +kernel
theorem dX8_decode_66 : decode cX8_decode 66 = .ok (.getfield 134, 3) := by decide +kernel
theorem dX8_decode_69 : decode cX8_decode 69 = .ok (.ifCond .ne 12, 3) := by decide +kernel
theorem dX8_decode_72 : decode cX8_decode 72 = .ok (.iload 4, 2) := by decide +kernel
theorem dX8_decode_74 : decode cX8_decode 74 = .ok (.iload_n 3, 1) := by decide +kernel
theorem dX8_decode_75 : decode cX8_decode 75 = .ok (.invokestatic 125, 3) := by decide +kernel
theorem dX8_decode_78 : decode cX8_decode 78 = .ok (.if_icmp .eq 7, 3) := by decide +kernel
theorem dX8_decode_81 : decode cX8_decode 81 = .ok (.iconst 1, 1) := by decide +kernel
theorem dX8_decode_82 : decode cX8_decode 82 = .ok (.goto 4, 3) := by decide +kernel
theorem dX8_decode_85 : decode cX8_decode 85 = .ok (.iconst 0, 1) := by decide +kernel
theorem dX8_decode_86 : decode cX8_decode 86 = .ok (.putfield 134, 3) := by decide +kernel
theorem dX8_decode_89 : decode cX8_decode 89 = .ok (.iinc 3 1, 3) := by decide +kernel
theorem dX8_decode_92 : decode cX8_decode 92 = .ok (.goto (-40), 3) := by decide +kernel
theorem dX8_decode_95 : decode cX8_decode 95 = .ok (.aload_n 0, 1) := by decide +kernel
theorem dX8_decode_96 : decode cX8_decode 96 = .ok (.getfield 134, 3) := by decide +kernel
theorem dX8_decode_99 : decode cX8_decode 99 = .ok (.ifCond .eq 8, 3) := by decide +kernel
theorem dX8_decode_102 : decode cX8_decode 102 = .ok (.bipush (-2), 2) := by decide +kernel
theorem dX8_decode_104 : decode cX8_decode 104 = .ok (.goto 4, 3) := by decide +kernel
theorem dX8_decode_107 : decode cX8_decode 107 = .ok (.iconst 0, 1) := by decide +kernel
theorem dX8_decode_108 : decode cX8_decode 108 = .ok (.istore_n 3, 1) := by decide +kernel
theorem dX8_decode_109 : decode cX8_decode 109 = .ok (.iload_n 3, 1) := by decide +kernel
theorem dX8_decode_110 : decode cX8_decode 110 = .ok (.ifCond .ne 30, 3) := by decide +kernel
theorem dX8_decode_113 : decode cX8_decode 113 = .ok (.aload_n 0, 1) := by decide +kernel
theorem dX8_decode_114 : decode cX8_decode 114 = .ok (.getfield 40, 3) := by decide +kernel
theorem dX8_decode_117 : decode cX8_decode 117 = .ok (.iconst 3, 1) := by decide +kernel
theorem dX8_decode_118 : decode cX8_decode 118 = .ok (.iaload, 1) := by decide +kernel
theorem dX8_decode_119 : decode cX8_decode 119 = .ok (.aload_n 0, 1) := by decide +kernel
theorem dX8_decode_120 : decode cX8_decode 120 = .ok (.getfield 43, 3) := by decide +kernel
theorem dX8_decode_123 : decode cX8_decode 123 = .ok (.iconst 3, 1) := by decide +kernel
theorem dX8_decode_124 : decode cX8_decode 124 = .ok (.iaload, 1) := by decide +kernel
theorem dX8_decode_125 : decode cX8_decode 125 = .ok (.if_icmp .ge 15, 3) := by decide +kernel
theorem dX8_decode_128 : decode cX8_decode 128 = .ok (.aload_n 0, 1) := by decide +kernel
theorem dX8_decode_129 : decode cX8_decode 129 = .ok (.iload_n 1, 1) := by decide +kernel
theorem dX8_decode_130 : decode cX8_decode 130 = .ok (.invokevirtual 185, 3) := by decide +kernel
theorem dX8_decode_133 : decode cX8_decode 133 = .ok (.istore_n 3, 1) := by decide +kernel
theorem dX8_decode_134 : decode cX8_decode 134 = .ok (.iinc 2 1, 3) := by decide +kernel
theorem dX8_decode_137 : decode cX8_decode 137 = .ok (.goto (-28), 3) := by decide +kernel
theorem dX8_decode_140 : decode cX8_decode 140 = .ok (.iload_n 3, 1) := by decide +kernel
theorem dX8_decode_141 : decode cX8_decode 141 = .ok (.ifCond .ge 5, 3) := by decide +kernel
theorem dX8_decode_144 : decode cX8_decode 144 = .ok (.iload_n 3, 1) := by decide +kernel
theorem dX8_decode_145 : decode cX8_decode 145 = .ok (.ireturn, 1) := by decide +kernel
theorem dX8_decode_146 : decode cX8_decode 146 = .ok (.iconst 0, 1) := by decide +kernel
theorem dX8_decode_147 : decode cX8_decode 147 = .ok (.istore 4, 2) := by decide +kernel
theorem dX8_decode_149 : decode cX8_decode 149 = .ok (.iload 4, 2) := by decide +kernel
theorem dX8_decode_151 : decode cX8_decode 151 = .ok (.aload_n 0, 1) := by decide +kernel
theorem dX8_decode_152 : decode cX8_decode 152 = .ok (.getfield 13, 3) := by decide +kernel
theorem dX8_decode_155 : decode cX8_decode 155 = .ok (.iconst 4, 1) := by decide +kernel
theorem dX8_decode_156 : decode cX8_decode 156 = .ok (.iaload, 1) := by decide +kernel
theorem dX8_decode_157 : decode cX8_decode 157 = .ok (.if_icmp .ge 31, 3) := by decide +kernel
theorem dX8_decode_160 : decode cX8_decode 160 = .ok (.aload_n 0, 1) := by decide +kernel
theorem dX8_decode_161 : decode cX8_decode 161 = .ok (.getfield 7, 3) := by decide +kernel
theorem dX8_decode_164 : decode cX8_decode 164 = .ok (.sipush 3000, 3) := by decide +kernel
theorem dX8_decode_167 : decode cX8_decode 167 = .ok (.iload 4, 2) := by decide +kernel
theorem dX8_decode_169 : decode cX8_decode 169 = .ok (.iadd, 1) := by decide +kernel
theorem dX8_decode_170 : decode cX8_decode 170 = .ok (.aload_n 0, 1) := by decide +kernel
theorem dX8_decode_171 : decode cX8_decode 171 = .ok (.getfield 7, 3) := by decide +kernel
theorem dX8_decode_174 : decode cX8_decode 174 = .ok (.sipush 4000, 3) := by decide +kernel
theorem dX8_decode_177 : decode cX8_decode 177 = .ok (.iload 4, 2) := by decide +kernel
theorem dX8_decode_179 : decode cX8_decode 179 = .ok (.iadd, 1) := by decide +kernel
theorem dX8_decode_180 : decode cX8_decode 180 = .ok (.iaload, 1) := by decide +kernel
theorem dX8_decode_181 : decode cX8_decode 181 = .ok (.iastore, 1) := by decide +kernel
theorem dX8_decode_182 : decode cX8_decode 182 = .ok (.iinc 4 1, 3) := by decide +kernel
theorem dX8_decode_185 : decode cX8_decode 185 = .ok (.goto (-36), 3) := by decide +kernel
theorem dX8_decode_188 : decode cX8_decode 188 = .ok (.aload_n 0, 1) := by decide +kernel
theorem dX8_decode_189 : decode cX8_decode 189 = .ok (.getfield 13, 3) := by decide +kernel
theorem dX8_decode_192 : decode cX8_decode 192 = .ok (.iconst 3, 1) := by decide +kernel
theorem dX8_decode_193 : decode cX8_decode 193 = .ok (.aload_n 0, 1) := by decide +kernel
theorem dX8_decode_194 : decode cX8_decode 194 = .ok (.getfield 13, 3) := by decide +kernel
theorem dX8_decode_197 : decode cX8_decode 197 = .ok (.iconst 4, 1) := by decide +kernel
theorem dX8_decode_198 : decode cX8_decode 198 = .ok (.iaload, 1) := by decide +kernel
theorem dX8_decode_199 : decode cX8_decode 199 = .ok (.iastore, 1) := by decide +kernel
theorem dX8_decode_200 : decode cX8_decode 200 = .ok (.aload_n 0, 1) := by decide +kernel
theorem dX8_decode_201 : decode cX8_decode 201 = .ok (.iload_n 2, 1) := by decide +kernel
theorem dX8_decode_202 : decode cX8_decode 202 = .ok (.putfield 188, 3) := by decide +kernel
theorem dX8_decode_205 : decode cX8_decode 205 = .ok (.aload_n 0, 1) := by decide +kernel
theorem dX8_decode_206 : decode cX8_decode 206 = .ok (.iconst 1, 1) := by decide +kernel
theorem dX8_decode_207 : decode cX8_decode 207 = .ok (.invokevirtual 131, 3) := by decide +kernel
theorem dX8_decode_210 : decode cX8_decode 210 = .ok (.aload_n 0, 1) := by decide +kernel
theorem dX8_decode_211 : decode cX8_decode 211 = .ok (.getfield 13, 3) := by decide +kernel
theorem dX8_decode_214 : decode cX8_decode 214 = .ok (.iconst 3, 1) := by decide +kernel
theorem dX8_decode_215 : decode cX8_decode 215 = .ok (.iaload, 1) := by decide +kernel
theorem dX8_decode_216 : decode cX8_decode 216 = .ok (.ireturn, 1) := by decide +kernel
theorem dX8_windows_0 : decode cX8_windows 0 = .ok (.aload_n 0, 1) := by decide +kernel
theorem dX8_windows_1 : decode cX8_windows 1 = .ok (.getfield 188, 3) := by decide +kernel
theorem dX8_windows_4 : decode cX8_windows 4 = .ok (.ireturn, 1) := by decide +kernel
theorem dJ9_floorMod_7cf53_0 : decode cJ9_floorMod_7cf53 0 = .ok (.iload_n 0, 1) := by decide +kernel
theorem dJ9_floorMod_7cf53_1 : decode cJ9_floorMod_7cf53 1 = .ok (.iload_n 1, 1) := by decide +kernel
theorem dJ9_floorMod_7cf53_2 : decode cJ9_floorMod_7cf53 2 = .ok (.irem, 1) := by decide +kernel
theorem dJ9_floorMod_7cf53_3 : decode cJ9_floorMod_7cf53 3 = .ok (.istore_n 2, 1) := by decide +kernel
theorem dJ9_floorMod_7cf53_4 : decode cJ9_floorMod_7cf53 4 = .ok (.iload_n 0, 1) := by decide +kernel
theorem dJ9_floorMod_7cf53_5 : decode cJ9_floorMod_7cf53 5 = .ok (.iload_n 1, 1) := by decide +kernel
theorem dJ9_floorMod_7cf53_6 : decode cJ9_floorMod_7cf53 6 = .ok (.ixor, 1) := by decide +kernel
theorem dJ9_floorMod_7cf53_7 : decode cJ9_floorMod_7cf53 7 = .ok (.ifCond .ge 11, 3) := by decide +kernel
theorem dJ9_floorMod_7cf53_10 : decode cJ9_floorMod_7cf53 10 = .ok (.iload_n 2, 1) := by decide +kernel
theorem dJ9_floorMod_7cf53_11 : decode cJ9_floorMod_7cf53 11 = .ok (.ifCond .eq 7, 3) := by decide +kernel
theorem dJ9_floorMod_7cf53_14 : decode cJ9_floorMod_7cf53 14 = .ok (.iload_n 2, 1) := by decide +kernel
theorem dJ9_floorMod_7cf53_15 : decode cJ9_floorMod_7cf53 15 = .ok (.iload_n 1, 1) := by decide +kernel
theorem dJ9_floorMod_7cf53_16 : decode cJ9_floorMod_7cf53 16 = .ok (.iadd, 1) := by decide +kernel
theorem dJ9_floorMod_7cf53_17 : decode cJ9_floorMod_7cf53 17 = .ok (.ireturn, 1) := by decide +kernel
theorem dJ9_floorMod_7cf53_18 : decode cJ9_floorMod_7cf53 18 = .ok (.iload_n 2, 1) := by decide +kernel
theorem dJ9_floorMod_7cf53_19 : decode cJ9_floorMod_7cf53 19 = .ok (.ireturn, 1) := by decide +kernel
theorem dJ9_max_7cf53_0 : decode cJ9_max_7cf53 0 = .ok (.iload_n 0, 1) := by decide +kernel
theorem dJ9_max_7cf53_1 : decode cJ9_max_7cf53 1 = .ok (.iload_n 1, 1) := by decide +kernel
theorem dJ9_max_7cf53_2 : decode cJ9_max_7cf53 2 = .ok (.if_icmp .lt 7, 3) := by decide +kernel
theorem dJ9_max_7cf53_5 : decode cJ9_max_7cf53 5 = .ok (.iload_n 0, 1) := by decide +kernel
theorem dJ9_max_7cf53_6 : decode cJ9_max_7cf53 6 = .ok (.goto 4, 3) := by decide +kernel
theorem dJ9_max_7cf53_9 : decode cJ9_max_7cf53 9 = .ok (.iload_n 1, 1) := by decide +kernel
theorem dJ9_max_7cf53_10 : decode cJ9_max_7cf53 10 = .ok (.ireturn, 1) := by decide +kernel
theorem dJ9_min_7cf53_0 : decode cJ9_min_7cf53 0 = .ok (.iload_n 0, 1) := by decide +kernel
theorem dJ9_min_7cf53_1 : decode cJ9_min_7cf53 1 = .ok (.iload_n 1, 1) := by decide +kernel
theorem dJ9_min_7cf53_2 : decode cJ9_min_7cf53 2 = .ok (.if_icmp .gt 7, 3) := by decide +kernel
theorem dJ9_min_7cf53_5 : decode cJ9_min_7cf53 5 = .ok (.iload_n 0, 1) := by decide +kernel
theorem dJ9_min_7cf53_6 : decode cJ9_min_7cf53 6 = .ok (.goto 4, 3) := by decide +kernel
theorem dJ9_min_7cf53_9 : decode cJ9_min_7cf53 9 = .ok (.iload_n 1, 1) := by decide +kernel
theorem dJ9_min_7cf53_10 : decode cJ9_min_7cf53 10 = .ok (.ireturn, 1) := by decide +kernel
theorem dJ7_fill_53178_0 : decode cJ7_fill_53178 0 = .ok (.iconst 0, 1) := by decide +kernel
theorem dJ7_fill_53178_1 : decode cJ7_fill_53178 1 = .ok (.istore_n 2, 1) := by decide +kernel
theorem dJ7_fill_53178_2 : decode cJ7_fill_53178 2 = .ok (.aload_n 0, 1) := by decide +kernel
theorem dJ7_fill_53178_3 : decode cJ7_fill_53178 3 = .ok (.arraylength, 1) := by decide +kernel
theorem dJ7_fill_53178_4 : decode cJ7_fill_53178 4 = .ok (.istore_n 3, 1) := by decide +kernel
theorem dJ7_fill_53178_5 : decode cJ7_fill_53178 5 = .ok (.iload_n 2, 1) := by decide +kernel
theorem dJ7_fill_53178_6 : decode cJ7_fill_53178 6 = .ok (.iload_n 3, 1) := by decide +kernel
theorem dJ7_fill_53178_7 : decode cJ7_fill_53178 7 = .ok (.if_icmp .ge 13, 3) := by decide +kernel
theorem dJ7_fill_53178_10 : decode cJ7_fill_53178 10 = .ok (.aload_n 0, 1) := by decide +kernel
theorem dJ7_fill_53178_11 : decode cJ7_fill_53178 11 = .ok (.iload_n 2, 1) := by decide +kernel
theorem dJ7_fill_53178_12 : decode cJ7_fill_53178 12 = .ok (.iload_n 1, 1) := by decide +kernel
theorem dJ7_fill_53178_13 : decode cJ7_fill_53178 13 = .ok (.iastore, 1) := by decide +kernel
theorem dJ7_fill_53178_14 : decode cJ7_fill_53178 14 = .ok (.iinc 2 1, 3) := by decide +kernel
theorem dJ7_fill_53178_17 : decode cJ7_fill_53178 17 = .ok (.goto (-12), 3) := by decide +kernel
theorem dJ7_fill_53178_20 : decode cJ7_fill_53178 20 = .ok (.return_, 1) := by decide +kernel
set_option maxRecDepth 20000 in
theorem ggL_law_X7_init : GoodIn wsL_law wsX7_init := goodIn_r _ [8, 9, 10, 11, 12, 13, 14, 15, 16, 17, 18, 19, 20, 21, 22, 23, 24, 25, 26, 27, 28, 29, 30, 31, 32, 33, 34, 35, 36, 37, 38, 39, 40, 41, 42, 43, 44, 45, 46, 47, 48, 49, 50, 51, 52, 53, 54, 55, 56, 57, 58, 59, 60, 61, 62, 63, 64, 65, 66, 67, 68, 69, 70, 71, 72, 73, 74, 75, 76, 77, 78, 79, 80, 81, 82, 83, 84, 85, 86, 87, 88, 89, 90, 91, 92, 93, 94, 95, 96, 97, 98, 99, 100, 101, 102, 103, 104, 105, 106, 107, 663, 664, 634, 635, 636, 637, 638, 639, 640, 641, 665, 666, 667, 668, 669, 670, 671, 672, 673, 674, 675, 676, 677, 678, 679, 680, 681, 682, 683, 684, 685, 686, 687, 688, 689, 690, 691, 692, 693, 694, 695, 696, 697, 698, 699] (by decide +kernel) (by decide +kernel)
set_option maxRecDepth 20000 in
theorem gL_law_X7_init : GoodIn wsL_law (wsX7_init) := ggL_law_X7_init
set_option maxRecDepth 20000 in
theorem ggL_law_X8_init : GoodIn wsL_law wsX8_init := goodIn_r _ [110, 111, 10, 11, 36, 112, 113, 114, 115, 116, 117, 118, 119, 120, 121, 122, 123, 642, 643, 644, 645, 646, 647, 648, 649, 650, 651, 652, 653, 654, 655, 656, 657, 658, 659, 660, 661, 662] (by decide +kernel) (by decide +kernel)
set_option maxRecDepth 20000 in
theorem gL_law_X8_init : GoodIn wsL_law (wsX8_init) := ggL_law_X8_init
set_option maxRecDepth 20000 in
theorem ggL_law_X7_put : GoodIn wsL_law wsX7_put := goodIn_r _ [127, 128, 129, 130, 2, 131, 132, 133, 134, 135, 15, 16, 17, 18, 136, 137, 138, 139, 140, 141, 14, 142, 37, 38, 143, 144, 145, 146, 634, 635, 636, 637, 638, 639, 640, 641, 663, 664] (by decide +kernel) (by decide +kernel)
set_option maxRecDepth 20000 in
theorem gL_law_X7_put : GoodIn wsL_law (wsV RL 13 RX7 yX7_put wsX7_put) := goodIn_app (goodIn_of _ (by decide +kernel)) ggL_law_X7_put
set_option maxRecDepth 20000 in
theorem ggL_law_X8_put : GoodIn wsL_law wsX8_put := goodIn_r _ [150, 113, 151, 152, 5, 153, 154, 155, 156, 157, 158, 159, 160, 112, 642, 643, 644, 645, 646, 647, 648, 649, 650, 651, 652, 653, 654, 655, 656, 657, 658, 659, 660, 661, 662] (by decide +kernel) (by decide +kernel)
set_option maxRecDepth 20000 in
theorem gL_law_X8_put : GoodIn wsL_law (wsV RL 17 RX8 yX8_put wsX8_put) := goodIn_app (goodIn_of _ (by decide +kernel)) ggL_law_X8_put
set_option maxRecDepth 20000 in
theorem ggL_law_X7_cut : GoodIn wsL_law wsX7_cut := goodIn_r _ [164, 128, 129, 130, 2, 131, 132, 133, 134, 135, 15, 16, 17, 18, 165, 166, 167, 14, 168, 38, 169, 170, 171, 172, 634, 635, 636, 637, 638, 639, 640, 641, 663, 664] (by decide +kernel) (by decide +kernel)
set_option maxRecDepth 20000 in
theorem gL_law_X7_cut : GoodIn wsL_law (wsV RL 18 RX7 yX7_cut wsX7_cut) := goodIn_app (goodIn_of _ (by decide +kernel)) ggL_law_X7_cut
set_option maxRecDepth 20000 in
theorem ggL_law_X8_cut : GoodIn wsL_law wsX8_cut := goodIn_r _ [176, 113, 642, 643, 644, 645, 646, 647, 648, 649, 650, 651, 652, 653, 654, 655, 656, 657, 658, 659, 660, 661, 662] (by decide +kernel) (by decide +kernel)
set_option maxRecDepth 20000 in
theorem gL_law_X8_cut : GoodIn wsL_law (wsV RL 22 RX8 yX8_cut wsX8_cut) := goodIn_app (goodIn_of _ (by decide +kernel)) ggL_law_X8_cut
set_option maxRecDepth 20000 in
theorem ggL_law_X7_set : GoodIn wsL_law wsX7_set := goodIn_r _ [180, 128, 129, 130, 2, 131, 132, 133, 134, 135, 15, 16, 17, 18, 165, 166, 167, 14, 168, 38, 136, 137, 138, 181, 182, 183, 184, 37, 634, 635, 636, 637, 638, 639, 640, 641, 663, 664] (by decide +kernel) (by decide +kernel)
set_option maxRecDepth 20000 in
theorem gL_law_X7_set : GoodIn wsL_law (wsV RL 23 RX7 yX7_set wsX7_set) := goodIn_app (goodIn_of _ (by decide +kernel)) ggL_law_X7_set
set_option maxRecDepth 20000 in
theorem ggL_law_X8_set : GoodIn wsL_law wsX8_set := goodIn_r _ [188, 113, 112, 151, 152, 5, 153, 642, 643, 644, 645, 646, 647, 648, 649, 650, 651, 652, 653, 654, 655, 656, 657, 658, 659, 660, 661, 662] (by decide +kernel) (by decide +kernel)
set_option maxRecDepth 20000 in
theorem gL_law_X8_set : GoodIn wsL_law (wsV RL 26 RX8 yX8_set wsX8_set) := goodIn_app (goodIn_of _ (by decide +kernel)) ggL_law_X8_set
set_option maxRecDepth 20000 in
theorem ggL_law_X7_encode : GoodIn wsL_law wsX7_encode := goodIn_r _ [192, 22, 17, 193, 194, 195, 21, 196, 45, 47, 44, 197, 198, 199, 200, 201, 202, 203, 204, 170, 171, 14, 172, 38, 205, 144, 145, 146, 37, 206, 207, 208, 29, 209, 64, 65, 66, 210, 211, 212, 213, 214, 166, 167, 168, 215, 216, 217, 218, 53, 43, 51, 54, 55, 56, 57, 219, 220, 221, 222, 223, 224, 225, 226, 227, 228, 229, 230, 231, 232, 233, 234, 50, 235, 74, 236, 237, 238, 239, 240, 241, 242, 243, 58, 59, 244, 245, 246, 247, 248, 249, 250, 251, 252, 253, 254, 255, 71, 72, 73, 256, 257, 258, 259, 260, 261, 262, 263, 264, 265, 266, 267, 268, 269, 270, 271, 272, 273, 274, 275, 276, 277, 278, 279, 280, 281, 282, 283, 284, 285, 286, 287, 288, 289, 290, 291, 292, 293, 294, 295, 296, 297, 298, 299, 300, 301, 302, 303, 304, 305, 306, 307, 308, 309, 310, 311, 312, 313, 314, 315, 316, 317, 318, 319, 320, 321, 322, 323, 324, 325, 326, 327, 328, 329, 330, 331, 332, 333, 334, 335, 336, 337, 165, 634, 635, 636, 637, 638, 639, 640, 641, 665, 666, 667, 668, 669, 670, 671, 672, 673, 674, 675, 676, 663, 664, 690, 691, 692, 693, 694, 695, 696] (by decide +kernel) (by decide +kernel)
set_option maxRecDepth 20000 in
theorem gL_law_X7_encode : GoodIn wsL_law (wsV RL 27 RX7 yX7_encode wsX7_encode) := goodIn_app (goodIn_of _ (by decide +kernel)) ggL_law_X7_encode
set_option maxRecDepth 20000 in
theorem ggL_law_X8_encode : GoodIn wsL_law wsX8_encode := goodIn_r _ [341, 113, 342, 343, 344, 5, 345, 114, 115, 346, 347, 348, 349, 157, 158, 159, 160, 112, 350, 351, 352, 353, 354, 121, 120, 355, 356, 357, 358, 359, 360, 361, 362, 363, 364, 365, 366, 367, 368, 369, 370, 371, 372, 373, 374, 117, 118, 119, 375, 376, 377, 378, 379, 380, 381, 382, 383, 384, 385, 386, 387, 388, 389, 390, 391, 392, 393, 394, 395, 396, 397, 398, 399, 400, 401, 402, 403, 404, 405, 406, 407, 408, 409, 410, 411, 412, 413, 414, 415, 416, 417, 418, 419, 420, 421, 422, 116, 642, 643, 644, 645, 646, 647, 648, 649, 650, 651, 652, 653, 654, 655, 656, 657, 658, 659, 660, 661, 662] (by decide +kernel) (by decide +kernel)
set_option maxRecDepth 20000 in
theorem gL_law_X8_encode : GoodIn wsL_law (wsV RL 31 RX8 yX8_encode wsX8_encode) := goodIn_app (goodIn_of _ (by decide +kernel)) ggL_law_X8_encode
set_option maxRecDepth 20000 in
theorem ggL_law_X7_decode : GoodIn wsL_law wsX7_decode := goodIn_r _ [426, 26, 18, 30, 31, 427, 428, 429, 25, 430, 82, 84, 92, 88, 431, 170, 171, 14, 172, 38, 432, 207, 208, 29, 209, 64, 65, 66, 210, 211, 212, 213, 433, 434, 435, 87, 436, 104, 437, 198, 199, 200, 438, 202, 203, 105, 106, 439, 440, 441, 442, 443, 444, 445, 446, 447, 448, 449, 450, 451, 452, 453, 454, 96, 97, 455, 456, 457, 458, 80, 93, 94, 95, 459, 460, 461, 462, 463, 464, 465, 466, 166, 167, 168, 467, 468, 469, 470, 471, 472, 473, 474, 89, 90, 91, 475, 476, 477, 478, 479, 480, 481, 482, 483, 318, 305, 319, 320, 321, 322, 323, 324, 325, 326, 327, 328, 484, 485, 486, 487, 488, 144, 145, 146, 37, 489, 490, 491, 492, 493, 494, 495, 496, 497, 498, 265, 266, 267, 499, 500, 501, 502, 503, 504, 505, 506, 507, 508, 509, 510, 511, 512, 513, 514, 515, 229, 230, 231, 516, 282, 283, 284, 285, 261, 262, 263, 517, 220, 221, 222, 223, 224, 225, 226, 227, 518, 519, 520, 521, 522, 523, 524, 525, 634, 635, 636, 637, 638, 639, 640, 641, 677, 678, 679, 680, 681, 682, 683, 684, 685, 686, 687, 688, 689, 663, 664, 690, 691, 692, 697, 698, 699] (by decide +kernel) (by decide +kernel)
set_option maxRecDepth 20000 in
theorem gL_law_X7_decode : GoodIn wsL_law (wsV RL 32 RX7 yX7_decode wsX7_decode) := goodIn_app (goodIn_of _ (by decide +kernel)) ggL_law_X7_decode
set_option maxRecDepth 20000 in
theorem ggL_law_X8_decode : GoodIn wsL_law wsX8_decode := goodIn_r _ [529, 530, 122, 123, 113, 112, 531, 342, 343, 344, 5, 345, 114, 115, 346, 532, 533, 534, 535, 347, 348, 349, 536, 537, 538, 539, 540, 541, 542, 543, 544, 545, 546, 547, 548, 549, 550, 551, 552, 553, 554, 555, 556, 557, 558, 412, 413, 414, 559, 560, 561, 562, 563, 564, 565, 566, 567, 568, 569, 570, 571, 572, 573, 574, 575, 576, 577, 578, 157, 158, 159, 160, 397, 398, 399, 400, 419, 420, 421, 422, 116, 642, 643, 644, 645, 646, 647, 648, 649, 650, 651, 652, 653, 654, 655, 656, 657, 658, 659, 660, 661, 662] (by decide +kernel) (by decide +kernel)
set_option maxRecDepth 20000 in
theorem gL_law_X8_decode : GoodIn wsL_law (wsV RL 35 RX8 yX8_decode wsX8_decode) := goodIn_app (goodIn_of _ (by decide +kernel)) ggL_law_X8_decode
set_option maxRecDepth 20000 in
theorem ggL_law_X7_length : GoodIn wsL_law wsX7_length := goodIn_r _ [582, 132, 133, 134, 2, 135, 15, 16, 17, 18, 165, 166, 167, 14, 168, 38, 634, 635, 636, 637, 638, 639, 640, 641, 663, 664] (by decide +kernel) (by decide +kernel)
set_option maxRecDepth 20000 in
theorem gL_law_X7_length : GoodIn wsL_law (wsV RL 36 RX7 yX7_length wsX7_length) := goodIn_app (goodIn_of _ (by decide +kernel)) ggL_law_X7_length
set_option maxRecDepth 20000 in
theorem ggL_law_X8_length : GoodIn wsL_law wsX8_length := goodIn_r _ [586, 113, 642, 643, 644, 645, 646, 647, 648, 649, 650, 651, 652, 653, 654, 655, 656, 657, 658, 659, 660, 661, 662] (by decide +kernel) (by decide +kernel)
set_option maxRecDepth 20000 in
theorem gL_law_X8_length : GoodIn wsL_law (wsV RL 39 RX8 yX8_length wsX8_length) := goodIn_app (goodIn_of _ (by decide +kernel)) ggL_law_X8_length
set_option maxRecDepth 20000 in
theorem ggL_law_X7_byteAt : GoodIn wsL_law wsX7_byteAt := goodIn_r _ [590, 132, 133, 134, 2, 135, 15, 16, 17, 18, 165, 166, 167, 14, 168, 38, 591, 229, 230, 231, 37, 634, 635, 636, 637, 638, 639, 640, 641, 663, 664] (by decide +kernel) (by decide +kernel)
set_option maxRecDepth 20000 in
theorem gL_law_X7_byteAt : GoodIn wsL_law (wsV RL 40 RX7 yX7_byteAt wsX7_byteAt) := goodIn_app (goodIn_of _ (by decide +kernel)) ggL_law_X7_byteAt
set_option maxRecDepth 20000 in
theorem ggL_law_X8_byteAt : GoodIn wsL_law wsX8_byteAt := goodIn_r _ [595, 113, 112, 642, 643, 644, 645, 646, 647, 648, 649, 650, 651, 652, 653, 654, 655, 656, 657, 658, 659, 660, 661, 662] (by decide +kernel) (by decide +kernel)
set_option maxRecDepth 20000 in
theorem gL_law_X8_byteAt : GoodIn wsL_law (wsV RL 44 RX8 yX8_byteAt wsX8_byteAt) := goodIn_app (goodIn_of _ (by decide +kernel)) ggL_law_X8_byteAt
set_option maxRecDepth 20000 in
theorem ggL_law_X7_code : GoodIn wsL_law wsX7_code := goodIn_r _ [599, 600, 318, 305, 319, 320, 321, 322, 323, 324, 325, 326, 327, 328] (by decide +kernel) (by decide +kernel)
set_option maxRecDepth 20000 in
theorem gL_law_X7_code : GoodIn wsL_law (wsV RL 45 RX7 yX7_code wsX7_code) := goodIn_app (goodIn_of _ (by decide +kernel)) ggL_law_X7_code
set_option maxRecDepth 20000 in
theorem ggL_law_X8_code : GoodIn wsL_law wsX8_code := goodIn_r _ [604, 151, 152, 5, 153, 412, 413, 414] (by decide +kernel) (by decide +kernel)
set_option maxRecDepth 20000 in
theorem gL_law_X8_code : GoodIn wsL_law (wsV RL 48 RX8 yX8_code wsX8_code) := goodIn_app (goodIn_of _ (by decide +kernel)) ggL_law_X8_code
set_option maxRecDepth 20000 in
theorem ggL_law_X7_cache : GoodIn wsL_law wsX7_cache := goodIn_r _ [608, 22, 30, 609, 610, 611, 29, 612, 64, 613, 265, 266, 267, 65, 634, 635, 636, 637, 638, 639, 640, 641, 665, 666, 667, 668, 669, 670, 671, 672, 673, 674, 675, 676, 690, 691, 692] (by decide +kernel) (by decide +kernel)
set_option maxRecDepth 20000 in
theorem gL_law_X7_cache : GoodIn wsL_law (wsV RL 49 RX7 yX7_cache wsX7_cache) := goodIn_app (goodIn_of _ (by decide +kernel)) ggL_law_X7_cache
set_option maxRecDepth 20000 in
theorem ggL_law_X8_cache : GoodIn wsL_law wsX8_cache := goodIn_r _ [617, 116, 642, 643, 644, 645, 646, 647, 648, 649, 650, 651, 652, 653, 654, 655, 656, 657, 658, 659, 660, 661, 662] (by decide +kernel) (by decide +kernel)
set_option maxRecDepth 20000 in
theorem gL_law_X8_cache : GoodIn wsL_law (wsV RL 52 RX8 yX8_cache wsX8_cache) := goodIn_app (goodIn_of _ (by decide +kernel)) ggL_law_X8_cache
set_option maxRecDepth 20000 in
theorem ggL_law_X7_windows : GoodIn wsL_law wsX7_windows := goodIn_r _ [621, 31, 634, 635, 636, 637, 638, 639, 640, 641] (by decide +kernel) (by decide +kernel)
set_option maxRecDepth 20000 in
theorem gL_law_X7_windows : GoodIn wsL_law (wsV RL 53 RX7 yX7_windows wsX7_windows) := goodIn_app (goodIn_of _ (by decide +kernel)) ggL_law_X7_windows
set_option maxRecDepth 20000 in
theorem ggL_law_X8_windows : GoodIn wsL_law wsX8_windows := goodIn_r _ [625, 531, 642, 643, 644, 645, 646, 647, 648, 649, 650, 651, 652, 653, 654, 655, 656, 657, 658, 659, 660, 661, 662] (by decide +kernel) (by decide +kernel)
set_option maxRecDepth 20000 in
theorem gL_law_X8_windows : GoodIn wsL_law (wsV RL 57 RX8 yX8_windows wsX8_windows) := goodIn_app (goodIn_of _ (by decide +kernel)) ggL_law_X8_windows
set_option maxRecDepth 20000 in
theorem ggL_law_X7_agrees : GoodIn wsL_law wsX7_agrees := goodIn_r _ [629, 18, 16, 165, 166, 167, 14, 168, 38, 591, 229, 230, 231, 37, 634, 635, 636, 637, 638, 639, 640, 641, 663, 664] (by decide +kernel) (by decide +kernel)
set_option maxRecDepth 20000 in
theorem gL_law_X7_agrees : GoodIn wsL_law (wsV RL 58 RX7 yX7_agrees wsX7_agrees) := goodIn_app (goodIn_of _ (by decide +kernel)) ggL_law_X7_agrees
set_option maxRecDepth 20000 in
theorem ggL_law_X8_agrees : GoodIn wsL_law wsX8_agrees := goodIn_r _ [633, 113, 112, 642, 643, 644, 645, 646, 647, 648, 649, 650, 651, 652, 653, 654, 655, 656, 657, 658, 659, 660, 661, 662] (by decide +kernel) (by decide +kernel)
