set_option maxRecDepth 20000 in
theorem gX3_findInstruction_X6_at : GoodIn wsX3_findInstruction (wsV RX3 105 RX6 yX6_at wsX6_at) := goodIn_app (goodIn_of _ (by decide +kernel)) ggX3_findInstruction_X6_at
set_option maxRecDepth 20000 in
theorem ggX3_findInstruction_X6_append : GoodIn wsX3_findInstruction wsX6_append := goodIn_r _ [38, 16, 21, 93, 94] (by decide +kernel) (by decide +kernel)
set_option maxRecDepth 20000 in
theorem gX3_findInstruction_X6_append : GoodIn wsX3_findInstruction (wsV RX3 69 RX6 yX6_append wsX6_append) := goodIn_app (goodIn_of _ (by decide +kernel)) ggX3_findInstruction_X6_append
set_option maxRecDepth 20000 in
theorem ggX3_findInstruction_X3_writeAddress : GoodIn wsX3_findInstruction wsX3_writeAddress := goodIn_r _ [42, 43, 44, 45, 46, 47, 48, 49, 50, 51, 52, 53, 54, 35, 36, 37, 14, 38, 16, 21, 55, 56, 57, 58, 59, 60, 61, 62, 63, 64, 65, 66, 67, 68, 69, 70, 71, 72, 73, 74, 75, 81, 82, 83, 84, 85, 86, 87, 88, 89, 90, 91, 92, 99, 100, 101, 93, 94] (by decide +kernel) (by decide +kernel)
set_option maxRecDepth 20000 in
theorem gX3_findInstruction_X3_writeAddress : GoodIn wsX3_findInstruction (wsV RX3 122 RX3 yX3_writeAddress wsX3_writeAddress) := goodIn_app (goodIn_of _ (by decide +kernel)) ggX3_findInstruction_X3_writeAddress
set_option maxRecDepth 20000 in
theorem ggX3_findInstruction_X4_appendAddedByte : GoodIn wsX3_findInstruction wsX4_appendAddedByte := goodIn_r _ [79, 31, 32, 33, 80, 27, 28, 29, 30, 34, 95, 96, 97, 98] (by decide +kernel) (by decide +kernel)
set_option maxRecDepth 20000 in
theorem gX3_findInstruction_X4_appendAddedByte : GoodIn wsX3_findInstruction (wsV RX3 125 RX4 yX4_appendAddedByte wsX4_appendAddedByte) := goodIn_app (goodIn_of _ (by decide +kernel)) ggX3_findInstruction_X4_appendAddedByte
theorem dX3_findInstruction_0 : decode cX3_findInstruction 0 = .ok (.aload_n 0, 1) := by decide +kernel
theorem dX3_findInstruction_1 : decode cX3_findInstruction 1 = .ok (.iload_n 1, 1) := by decide +kernel
theorem dX3_findInstruction_2 : decode cX3_findInstruction 2 = .ok (.invokevirtual 113, 3) := by decide +kernel
theorem dX3_findInstruction_5 : decode cX3_findInstruction 5 = .ok (.istore_n 2, 1) := by decide +kernel
theorem dX3_findInstruction_6 : decode cX3_findInstruction 6 = .ok (.aload_n 0, 1) := by decide +kernel
theorem dX3_findInstruction_7 : decode cX3_findInstruction 7 = .ok (.iload_n 1, 1) := by decide +kernel
theorem dX3_findInstruction_8 : decode cX3_findInstruction 8 = .ok (.invokevirtual 116, 3) := by decide +kernel
theorem dX3_findInstruction_11 : decode cX3_findInstruction 11 = .ok (.iload_n 2, 1) := by decide +kernel
theorem dX3_findInstruction_12 : decode cX3_findInstruction 12 = .ok (.iconst 4, 1) := by decide +kernel
theorem dX3_findInstruction_13 : decode cX3_findInstruction 13 = .ok (.if_icmp .lt 38, 3) := by decide +kernel
theorem dX3_findInstruction_16 : decode cX3_findInstruction 16 = .ok (.iload_n 2, 1) := by decide +kernel
theorem dX3_findInstruction_17 : decode cX3_findInstruction 17 = .ok (.aload_n 0, 1) := by decide +kernel
theorem dX3_findInstruction_18 : decode cX3_findInstruction 18 = .ok (.getfield 55, 3) := by decide +kernel
theorem dX3_findInstruction_21 : decode cX3_findInstruction 21 = .ok (.if_icmp .lt 30, 3) := by decide +kernel
theorem dX3_findInstruction_24 : decode cX3_findInstruction 24 = .ok (.aload_n 0, 1) := by decide +kernel
theorem dX3_findInstruction_25 : decode cX3_findInstruction 25 = .ok (.getfield 31, 3) := by decide +kernel
theorem dX3_findInstruction_28 : decode cX3_findInstruction 28 = .ok (.iconst 2, 1) := by decide +kernel
theorem dX3_findInstruction_29 : decode cX3_findInstruction 29 = .ok (.iload_n 2, 1) := by decide +kernel
theorem dX3_findInstruction_30 : decode cX3_findInstruction 30 = .ok (.iconst 0, 1) := by decide +kernel
theorem dX3_findInstruction_31 : decode cX3_findInstruction 31 = .ok (.invokevirtual 119, 3) := by decide +kernel
theorem dX3_findInstruction_34 : decode cX3_findInstruction 34 = .ok (.aload_n 0, 1) := by decide +kernel
theorem dX3_findInstruction_35 : decode cX3_findInstruction 35 = .ok (.getfield 43, 3) := by decide +kernel
theorem dX3_findInstruction_38 : decode cX3_findInstruction 38 = .ok (.aload_n 0, 1) := by decide +kernel
theorem dX3_findInstruction_39 : decode cX3_findInstruction 39 = .ok (.getfield 40, 3) := by decide +kernel
theorem dX3_findInstruction_42 : decode cX3_findInstruction 42 = .ok (.iload_n 1, 1) := by decide +kernel
theorem dX3_findInstruction_43 : decode cX3_findInstruction 43 = .ok (.invokevirtual 105, 3) := by decide +kernel
theorem dX3_findInstruction_46 : decode cX3_findInstruction 46 = .ok (.invokevirtual 69, 3) := by decide +kernel
theorem dX3_findInstruction_49 : decode cX3_findInstruction 49 = .ok (.iload_n 2, 1) := by decide +kernel
theorem dX3_findInstruction_50 : decode cX3_findInstruction 50 = .ok (.ireturn, 1) := by decide +kernel
theorem dX3_findInstruction_51 : decode cX3_findInstruction 51 = .ok (.aload_n 0, 1) := by decide +kernel
theorem dX3_findInstruction_52 : decode cX3_findInstruction 52 = .ok (.getfield 55, 3) := by decide +kernel
theorem dX3_findInstruction_55 : decode cX3_findInstruction 55 = .ok (.iconst 4, 1) := by decide +kernel
theorem dX3_findInstruction_56 : decode cX3_findInstruction 56 = .ok (.if_icmp .lt 29, 3) := by decide +kernel
theorem dX3_findInstruction_59 : decode cX3_findInstruction 59 = .ok (.aload_n 0, 1) := by decide +kernel
theorem dX3_findInstruction_60 : decode cX3_findInstruction 60 = .ok (.getfield 31, 3) := by decide +kernel
theorem dX3_findInstruction_63 : decode cX3_findInstruction 63 = .ok (.iconst 3, 1) := by decide +kernel
theorem dX3_findInstruction_64 : decode cX3_findInstruction 64 = .ok (.aload_n 0, 1) := by decide +kernel
theorem dX3_findInstruction_65 : decode cX3_findInstruction 65 = .ok (.getfield 55, 3) := by decide +kernel
theorem dX3_findInstruction_68 : decode cX3_findInstruction 68 = .ok (.aload_n 0, 1) := by decide +kernel
theorem dX3_findInstruction_69 : decode cX3_findInstruction 69 = .ok (.aload_n 0, 1) := by decide +kernel
theorem dX3_findInstruction_70 : decode cX3_findInstruction 70 = .ok (.getfield 59, 3) := by decide +kernel
theorem dX3_findInstruction_73 : decode cX3_findInstruction 73 = .ok (.iload_n 1, 1) := by decide +kernel
theorem dX3_findInstruction_74 : decode cX3_findInstruction 74 = .ok (.invokevirtual 122, 3) := by decide +kernel
theorem dX3_findInstruction_77 : decode cX3_findInstruction 77 = .ok (.invokevirtual 119, 3) := by decide +kernel
theorem dX3_findInstruction_80 : decode cX3_findInstruction 80 = .ok (.aload_n 0, 1) := by decide +kernel
theorem dX3_findInstruction_81 : decode cX3_findInstruction 81 = .ok (.getfield 55, 3) := by decide +kernel
theorem dX3_findInstruction_84 : decode cX3_findInstruction 84 = .ok (.ireturn, 1) := by decide +kernel
theorem dX3_findInstruction_85 : decode cX3_findInstruction 85 = .ok (.aload_n 0, 1) := by decide +kernel
theorem dX3_findInstruction_86 : decode cX3_findInstruction 86 = .ok (.getfield 31, 3) := by decide +kernel
theorem dX3_findInstruction_89 : decode cX3_findInstruction 89 = .ok (.invokevirtual 125, 3) := by decide +kernel
theorem dX3_findInstruction_92 : decode cX3_findInstruction 92 = .ok (.aload_n 0, 1) := by decide +kernel
theorem dX3_findInstruction_93 : decode cX3_findInstruction 93 = .ok (.getfield 43, 3) := by decide +kernel
theorem dX3_findInstruction_96 : decode cX3_findInstruction 96 = .ok (.aload_n 0, 1) := by decide +kernel
theorem dX3_findInstruction_97 : decode cX3_findInstruction 97 = .ok (.getfield 40, 3) := by decide +kernel
theorem dX3_findInstruction_100 : decode cX3_findInstruction 100 = .ok (.iload_n 1, 1) := by decide +kernel
theorem dX3_findInstruction_101 : decode cX3_findInstruction 101 = .ok (.invokevirtual 105, 3) := by decide +kernel
theorem dX3_findInstruction_104 : decode cX3_findInstruction 104 = .ok (.invokevirtual 69, 3) := by decide +kernel
theorem dX3_findInstruction_107 : decode cX3_findInstruction 107 = .ok (.iconst 1, 1) := by decide +kernel
theorem dX3_findInstruction_108 : decode cX3_findInstruction 108 = .ok (.ireturn, 1) := by decide +kernel
set_option maxRecDepth 20000 in
theorem ggX3_sameBytes_X6_count : GoodIn wsX3_sameBytes wsX6_count := goodIn_r _ [6, 7, 25, 26] (by decide +kernel) (by decide +kernel)
set_option maxRecDepth 20000 in
theorem gX3_sameBytes_X6_count : GoodIn wsX3_sameBytes (wsV RX3 75 RX6 yX6_count wsX6_count) := goodIn_app (goodIn_of _ (by decide +kernel)) ggX3_sameBytes_X6_count
set_option maxRecDepth 20000 in
theorem ggX3_sameBytes_X6_at : GoodIn wsX3_sameBytes wsX6_at := goodIn_r _ [11, 7, 12, 25, 26] (by decide +kernel) (by decide +kernel)
set_option maxRecDepth 20000 in
theorem gX3_sameBytes_X6_at : GoodIn wsX3_sameBytes (wsV RX3 105 RX6 yX6_at wsX6_at) := goodIn_app (goodIn_of _ (by decide +kernel)) ggX3_sameBytes_X6_at
theorem dX3_sameBytes_0 : decode cX3_sameBytes 0 = .ok (.iconst 1, 1) := by decide +kernel
theorem dX3_sameBytes_1 : decode cX3_sameBytes 1 = .ok (.istore_n 2, 1) := by decide +kernel
theorem dX3_sameBytes_2 : decode cX3_sameBytes 2 = .ok (.iload_n 1, 1) := by decide +kernel
theorem dX3_sameBytes_3 : decode cX3_sameBytes 3 = .ok (.iload_n 2, 1) := by decide +kernel
theorem dX3_sameBytes_4 : decode cX3_sameBytes 4 = .ok (.iadd, 1) := by decide +kernel
theorem dX3_sameBytes_5 : decode cX3_sameBytes 5 = .ok (.aload_n 0, 1) := by decide +kernel
theorem dX3_sameBytes_6 : decode cX3_sameBytes 6 = .ok (.getfield 40, 3) := by decide +kernel
theorem dX3_sameBytes_9 : decode cX3_sameBytes 9 = .ok (.invokevirtual 75, 3) := by decide +kernel
theorem dX3_sameBytes_12 : decode cX3_sameBytes 12 = .ok (.if_icmp .ge 30, 3) := by decide +kernel
theorem dX3_sameBytes_15 : decode cX3_sameBytes 15 = .ok (.aload_n 0, 1) := by decide +kernel
theorem dX3_sameBytes_16 : decode cX3_sameBytes 16 = .ok (.getfield 40, 3) := by decide +kernel
theorem dX3_sameBytes_19 : decode cX3_sameBytes 19 = .ok (.iload_n 1, 1) := by decide +kernel
theorem dX3_sameBytes_20 : decode cX3_sameBytes 20 = .ok (.iload_n 2, 1) := by decide +kernel
theorem dX3_sameBytes_21 : decode cX3_sameBytes 21 = .ok (.iadd, 1) := by decide +kernel
theorem dX3_sameBytes_22 : decode cX3_sameBytes 22 = .ok (.invokevirtual 105, 3) := by decide +kernel
theorem dX3_sameBytes_25 : decode cX3_sameBytes 25 = .ok (.aload_n 0, 1) := by decide +kernel
theorem dX3_sameBytes_26 : decode cX3_sameBytes 26 = .ok (.getfield 40, 3) := by decide +kernel
theorem dX3_sameBytes_29 : decode cX3_sameBytes 29 = .ok (.iload_n 1, 1) := by decide +kernel
theorem dX3_sameBytes_30 : decode cX3_sameBytes 30 = .ok (.invokevirtual 105, 3) := by decide +kernel
theorem dX3_sameBytes_33 : decode cX3_sameBytes 33 = .ok (.if_icmp .ne 9, 3) := by decide +kernel
theorem dX3_sameBytes_36 : decode cX3_sameBytes 36 = .ok (.iinc 2 1, 3) := by decide +kernel
theorem dX3_sameBytes_39 : decode cX3_sameBytes 39 = .ok (.goto (-37), 3) := by decide +kernel
theorem dX3_sameBytes_42 : decode cX3_sameBytes 42 = .ok (.iload_n 2, 1) := by decide +kernel
theorem dX3_sameBytes_43 : decode cX3_sameBytes 43 = .ok (.ireturn, 1) := by decide +kernel
set_option maxRecDepth 20000 in
theorem ggX3_findCopy_X6_count : GoodIn wsX3_findCopy wsX6_count := goodIn_r _ [8, 9, 27, 28] (by decide +kernel) (by decide +kernel)
set_option maxRecDepth 20000 in
theorem gX3_findCopy_X6_count : GoodIn wsX3_findCopy (wsV RX3 75 RX6 yX6_count wsX6_count) := goodIn_app (goodIn_of _ (by decide +kernel)) ggX3_findCopy_X6_count
set_option maxRecDepth 20000 in
theorem ggX3_findCopy_X6_at : GoodIn wsX3_findCopy wsX6_at := goodIn_r _ [13, 9, 14, 27, 28] (by decide +kernel) (by decide +kernel)
set_option maxRecDepth 20000 in
theorem gX3_findCopy_X6_at : GoodIn wsX3_findCopy (wsV RX3 105 RX6 yX6_at wsX6_at) := goodIn_app (goodIn_of _ (by decide +kernel)) ggX3_findCopy_X6_at
theorem dX3_findCopy_0 : decode cX3_findCopy 0 = .ok (.aload_n 0, 1) := by decide +kernel
theorem dX3_findCopy_1 : decode cX3_findCopy 1 = .ok (.iconst 0, 1) := by decide +kernel
theorem dX3_findCopy_2 : decode cX3_findCopy 2 = .ok (.putfield 55, 3) := by decide +kernel
theorem dX3_findCopy_5 : decode cX3_findCopy 5 = .ok (.aload_n 0, 1) := by decide +kernel
theorem dX3_findCopy_6 : decode cX3_findCopy 6 = .ok (.iconst 0, 1) := by decide +kernel
theorem dX3_findCopy_7 : decode cX3_findCopy 7 = .ok (.putfield 59, 3) := by decide +kernel
theorem dX3_findCopy_10 : decode cX3_findCopy 10 = .ok (.iconst 0, 1) := by decide +kernel
theorem dX3_findCopy_11 : decode cX3_findCopy 11 = .ok (.istore_n 2, 1) := by decide +kernel
theorem dX3_findCopy_12 : decode cX3_findCopy 12 = .ok (.iload_n 2, 1) := by decide +kernel
theorem dX3_findCopy_13 : decode cX3_findCopy 13 = .ok (.iload_n 1, 1) := by decide +kernel
theorem dX3_findCopy_14 : decode cX3_findCopy 14 = .ok (.if_icmp .ge 71, 3) := by decide +kernel
theorem dX3_findCopy_17 : decode cX3_findCopy 17 = .ok (.iconst 0, 1) := by decide +kernel
theorem dX3_findCopy_18 : decode cX3_findCopy 18 = .ok (.istore_n 3, 1) := by decide +kernel
theorem dX3_findCopy_19 : decode cX3_findCopy 19 = .ok (.iload_n 1, 1) := by decide +kernel
theorem dX3_findCopy_20 : decode cX3_findCopy 20 = .ok (.iload_n 3, 1) := by decide +kernel
theorem dX3_findCopy_21 : decode cX3_findCopy 21 = .ok (.iadd, 1) := by decide +kernel
theorem dX3_findCopy_22 : decode cX3_findCopy 22 = .ok (.aload_n 0, 1) := by decide +kernel
theorem dX3_findCopy_23 : decode cX3_findCopy 23 = .ok (.getfield 40, 3) := by decide +kernel
theorem dX3_findCopy_26 : decode cX3_findCopy 26 = .ok (.invokevirtual 75, 3) := by decide +kernel
theorem dX3_findCopy_29 : decode cX3_findCopy 29 = .ok (.if_icmp .ge 32, 3) := by decide +kernel
theorem dX3_findCopy_32 : decode cX3_findCopy 32 = .ok (.aload_n 0, 1) := by decide +kernel
theorem dX3_findCopy_33 : decode cX3_findCopy 33 = .ok (.getfield 40, 3) := by decide +kernel
theorem dX3_findCopy_36 : decode cX3_findCopy 36 = .ok (.iload_n 2, 1) := by decide +kernel
theorem dX3_findCopy_37 : decode cX3_findCopy 37 = .ok (.iload_n 3, 1) := by decide +kernel
theorem dX3_findCopy_38 : decode cX3_findCopy 38 = .ok (.iadd, 1) := by decide +kernel
theorem dX3_findCopy_39 : decode cX3_findCopy 39 = .ok (.invokevirtual 105, 3) := by decide +kernel
theorem dX3_findCopy_42 : decode cX3_findCopy 42 = .ok (.aload_n 0, 1) := by decide +kernel
theorem dX3_findCopy_43 : decode cX3_findCopy 43 = .ok (.getfield 40, 3) := by decide +kernel
theorem dX3_findCopy_46 : decode cX3_findCopy 46 = .ok (.iload_n 1, 1) := by decide +kernel
theorem dX3_findCopy_47 : decode cX3_findCopy 47 = .ok (.iload_n 3, 1) := by decide +kernel
theorem dX3_findCopy_48 : decode cX3_findCopy 48 = .ok (.iadd, 1) := by decide +kernel
theorem dX3_findCopy_49 : decode cX3_findCopy 49 = .ok (.invokevirtual 105, 3) := by decide +kernel
theorem dX3_findCopy_52 : decode cX3_findCopy 52 = .ok (.if_icmp .ne 9, 3) := by decide +kernel
theorem dX3_findCopy_55 : decode cX3_findCopy 55 = .ok (.iinc 3 1, 3) := by decide +kernel
theorem dX3_findCopy_58 : decode cX3_findCopy 58 = .ok (.goto (-39), 3) := by decide +kernel
theorem dX3_findCopy_61 : decode cX3_findCopy 61 = .ok (.iload_n 3, 1) := by decide +kernel
theorem dX3_findCopy_62 : decode cX3_findCopy 62 = .ok (.aload_n 0, 1) := by decide +kernel
theorem dX3_findCopy_63 : decode cX3_findCopy 63 = .ok (.getfield 55, 3) := by decide +kernel
theorem dX3_findCopy_66 : decode cX3_findCopy 66 = .ok (.if_icmp .le 13, 3) := by decide +kernel
theorem dX3_findCopy_69 : decode cX3_findCopy 69 = .ok (.aload_n 0, 1) := by decide +kernel
theorem dX3_findCopy_70 : decode cX3_findCopy 70 = .ok (.iload_n 3, 1) := by decide +kernel
theorem dX3_findCopy_71 : decode cX3_findCopy 71 = .ok (.putfield 55, 3) := by decide +kernel
theorem dX3_findCopy_74 : decode cX3_findCopy 74 = .ok (.aload_n 0, 1) := by decide +kernel
theorem dX3_findCopy_75 : decode cX3_findCopy 75 = .ok (.iload_n 2, 1) := by decide +kernel
theorem dX3_findCopy_76 : decode cX3_findCopy 76 = .ok (.putfield 59, 3) := by decide +kernel
theorem dX3_findCopy_79 : decode cX3_findCopy 79 = .ok (.iinc 2 1, 3) := by decide +kernel
theorem dX3_findCopy_82 : decode cX3_findCopy 82 = .ok (.goto (-70), 3) := by decide +kernel
theorem dX3_findCopy_85 : decode cX3_findCopy 85 = .ok (.return_, 1) := by decide +kernel
set_option maxRecDepth 20000 in
theorem ggX3_writeAddress_J9_floorMod_7cf53 : GoodIn wsX3_writeAddress wsJ9_floorMod_7cf53 := goodIn_r _ [6] (by decide +kernel) (by decide +kernel)
set_option maxRecDepth 20000 in
theorem gX3_writeAddress_J9_floorMod_7cf53 : GoodIn wsX3_writeAddress (va_wsS RX3 128 yJ9_floorMod_7cf53 wsJ9_floorMod_7cf53) := goodIn_app (goodIn_of _ (by decide +kernel)) ggX3_writeAddress_J9_floorMod_7cf53
set_option maxRecDepth 20000 in
theorem ggX3_writeAddress_X0_same : GoodIn wsX3_writeAddress wsX0_same := goodIn_r _ [11, 12, 53, 54, 55] (by decide +kernel) (by decide +kernel)
set_option maxRecDepth 20000 in
theorem gX3_writeAddress_X0_same : GoodIn wsX3_writeAddress (wsV RX3 131 RX0 yX0_same wsX0_same) := goodIn_app (goodIn_of _ (by decide +kernel)) ggX3_writeAddress_X0_same
set_option maxRecDepth 20000 in
theorem ggX3_writeAddress_X6_append : GoodIn wsX3_writeAddress wsX6_append := goodIn_r _ [17, 18, 19, 56, 57] (by decide +kernel) (by decide +kernel)
set_option maxRecDepth 20000 in
theorem gX3_writeAddress_X6_append : GoodIn wsX3_writeAddress (wsV RX3 69 RX6 yX6_append wsX6_append) := goodIn_app (goodIn_of _ (by decide +kernel)) ggX3_writeAddress_X6_append
set_option maxRecDepth 20000 in
theorem ggX3_writeAddress_X0_leastMode : GoodIn wsX3_writeAddress wsX0_leastMode := goodIn_r _ [23, 24, 25, 26, 10, 27, 28, 53, 54, 55] (by decide +kernel) (by decide +kernel)
set_option maxRecDepth 20000 in
theorem gX3_writeAddress_X0_leastMode : GoodIn wsX3_writeAddress (wsV RX3 134 RX0 yX0_leastMode wsX0_leastMode) := goodIn_app (goodIn_of _ (by decide +kernel)) ggX3_writeAddress_X0_leastMode
set_option maxRecDepth 20000 in
theorem ggX3_writeAddress_X0_integerFor : GoodIn wsX3_writeAddress wsX0_integerFor := goodIn_r _ [27, 28, 53, 54, 55] (by decide +kernel) (by decide +kernel)
set_option maxRecDepth 20000 in
theorem gX3_writeAddress_X0_integerFor : GoodIn wsX3_writeAddress (wsV RX3 137 RX0 yX0_integerFor wsX0_integerFor) := goodIn_app (goodIn_of _ (by decide +kernel)) ggX3_writeAddress_X0_integerFor
set_option maxRecDepth 20000 in
theorem ggX3_writeAddress_X6_appendInteger : GoodIn wsX3_writeAddress wsX6_appendInteger := goodIn_r _ [33, 34, 14, 15, 16, 17, 18, 19, 56, 57] (by decide +kernel) (by decide +kernel)
set_option maxRecDepth 20000 in
theorem gX3_writeAddress_X6_appendInteger : GoodIn wsX3_writeAddress (wsV RX3 141 RX6 yX6_appendInteger wsX6_appendInteger) := goodIn_app (goodIn_of _ (by decide +kernel)) ggX3_writeAddress_X6_appendInteger
set_option maxRecDepth 20000 in
theorem ggX3_writeAddress_X0_learn : GoodIn wsX3_writeAddress wsX0_learn := goodIn_r _ [38, 28, 39, 12, 40, 4, 5, 6, 53, 54, 55] (by decide +kernel) (by decide +kernel)
set_option maxRecDepth 20000 in
theorem gX3_writeAddress_X0_learn : GoodIn wsX3_writeAddress (wsV RX3 144 RX0 yX0_learn wsX0_learn) := goodIn_app (goodIn_of _ (by decide +kernel)) ggX3_writeAddress_X0_learn
theorem dX3_writeAddress_0 : decode cX3_writeAddress 0 = .ok (.iload_n 1, 1) := by decide +kernel
theorem dX3_writeAddress_1 : decode cX3_writeAddress 1 = .ok (.sipush 768, 3) := by decide +kernel
theorem dX3_writeAddress_4 : decode cX3_writeAddress 4 = .ok (.invokestatic 128, 3) := by decide +kernel
theorem dX3_writeAddress_7 : decode cX3_writeAddress 7 = .ok (.istore_n 3, 1) := by decide +kernel
theorem dX3_writeAddress_8 : decode cX3_writeAddress 8 = .ok (.aload_n 0, 1) := by decide +kernel
theorem dX3_writeAddress_9 : decode cX3_writeAddress 9 = .ok (.getfield 24, 3) := by decide +kernel
theorem dX3_writeAddress_12 : decode cX3_writeAddress 12 = .ok (.iload_n 3, 1) := by decide +kernel
theorem dX3_writeAddress_13 : decode cX3_writeAddress 13 = .ok (.invokevirtual 131, 3) := by decide +kernel
theorem dX3_writeAddress_16 : decode cX3_writeAddress 16 = .ok (.iload_n 1, 1) := by decide +kernel
theorem dX3_writeAddress_17 : decode cX3_writeAddress 17 = .ok (.if_icmp .ne 28, 3) := by decide +kernel
theorem dX3_writeAddress_20 : decode cX3_writeAddress 20 = .ok (.bipush 6, 2) := by decide +kernel
theorem dX3_writeAddress_22 : decode cX3_writeAddress 22 = .ok (.iload_n 3, 1) := by decide +kernel
theorem dX3_writeAddress_23 : decode cX3_writeAddress 23 = .ok (.sipush 256, 3) := by decide +kernel
theorem dX3_writeAddress_26 : decode cX3_writeAddress 26 = .ok (.idiv, 1) := by decide +kernel
theorem dX3_writeAddress_27 : decode cX3_writeAddress 27 = .ok (.iadd, 1) := by decide +kernel
theorem dX3_writeAddress_28 : decode cX3_writeAddress 28 = .ok (.istore 4, 2) := by decide +kernel
theorem dX3_writeAddress_30 : decode cX3_writeAddress 30 = .ok (.aload_n 0, 1) := by decide +kernel
theorem dX3_writeAddress_31 : decode cX3_writeAddress 31 = .ok (.getfield 49, 3) := by decide +kernel
theorem dX3_writeAddress_34 : decode cX3_writeAddress 34 = .ok (.iload_n 3, 1) := by decide +kernel
theorem dX3_writeAddress_35 : decode cX3_writeAddress 35 = .ok (.sipush 256, 3) := by decide +kernel
theorem dX3_writeAddress_38 : decode cX3_writeAddress 38 = .ok (.irem, 1) := by decide +kernel
theorem dX3_writeAddress_39 : decode cX3_writeAddress 39 = .ok (.invokevirtual 69, 3) := by decide +kernel
theorem dX3_writeAddress_42 : decode cX3_writeAddress 42 = .ok (.goto 32, 3) := by decide +kernel
theorem dX3_writeAddress_45 : decode cX3_writeAddress 45 = .ok (.aload_n 0, 1) := by decide +kernel
theorem dX3_writeAddress_46 : decode cX3_writeAddress 46 = .ok (.getfield 24, 3) := by decide +kernel
theorem dX3_writeAddress_49 : decode cX3_writeAddress 49 = .ok (.iload_n 1, 1) := by decide +kernel
theorem dX3_writeAddress_50 : decode cX3_writeAddress 50 = .ok (.iload_n 2, 1) := by decide +kernel
theorem dX3_writeAddress_51 : decode cX3_writeAddress 51 = .ok (.invokevirtual 134, 3) := by decide +kernel
theorem dX3_writeAddress_54 : decode cX3_writeAddress 54 = .ok (.istore 4, 2) := by decide +kernel
theorem dX3_writeAddress_56 : decode cX3_writeAddress 56 = .ok (.aload_n 0, 1) := by decide +kernel
theorem dX3_writeAddress_57 : decode cX3_writeAddress 57 = .ok (.getfield 49, 3) := by decide +kernel
theorem dX3_writeAddress_60 : decode cX3_writeAddress 60 = .ok (.aload_n 0, 1) := by decide +kernel
theorem dX3_writeAddress_61 : decode cX3_writeAddress 61 = .ok (.getfield 24, 3) := by decide +kernel
theorem dX3_writeAddress_64 : decode cX3_writeAddress 64 = .ok (.iload 4, 2) := by decide +kernel
theorem dX3_writeAddress_66 : decode cX3_writeAddress 66 = .ok (.iload_n 1, 1) := by decide +kernel
theorem dX3_writeAddress_67 : decode cX3_writeAddress 67 = .ok (.iload_n 2, 1) := by decide +kernel
theorem dX3_writeAddress_68 : decode cX3_writeAddress 68 = .ok (.invokevirtual 137, 3) := by decide +kernel
theorem dX3_writeAddress_71 : decode cX3_writeAddress 71 = .ok (.invokevirtual 141, 3) := by decide +kernel
theorem dX3_writeAddress_74 : decode cX3_writeAddress 74 = .ok (.aload_n 0, 1) := by decide +kernel
theorem dX3_writeAddress_75 : decode cX3_writeAddress 75 = .ok (.getfield 24, 3) := by decide +kernel
theorem dX3_writeAddress_78 : decode cX3_writeAddress 78 = .ok (.iload_n 1, 1) := by decide +kernel
theorem dX3_writeAddress_79 : decode cX3_writeAddress 79 = .ok (.invokevirtual 144, 3) := by decide +kernel
theorem dX3_writeAddress_82 : decode cX3_writeAddress 82 = .ok (.iload 4, 2) := by decide +kernel
theorem dX3_writeAddress_84 : decode cX3_writeAddress 84 = .ok (.ireturn, 1) := by decide +kernel
set_option maxRecDepth 20000 in
theorem ggX3_chooseCodes_X4_count : GoodIn wsX3_chooseCodes wsX4_count := goodIn_r _ [7, 8, 70, 71, 72, 73] (by decide +kernel) (by decide +kernel)
set_option maxRecDepth 20000 in
theorem gX3_chooseCodes_X4_count : GoodIn wsX3_chooseCodes (wsV RX3 147 RX4 yX4_count wsX4_count) := goodIn_app (goodIn_of _ (by decide +kernel)) ggX3_chooseCodes_X4_count
set_option maxRecDepth 20000 in
theorem ggX3_chooseCodes_X4_pairCode : GoodIn wsX3_chooseCodes wsX4_pairCode := goodIn_r _ [12, 8, 13, 14, 15, 16, 17, 18, 19, 20, 21, 22, 70, 71, 72, 73] (by decide +kernel) (by decide +kernel)
set_option maxRecDepth 20000 in
theorem gX3_chooseCodes_X4_pairCode : GoodIn wsX3_chooseCodes (wsV RX3 148 RX4 yX4_pairCode wsX4_pairCode) := goodIn_app (goodIn_of _ (by decide +kernel)) ggX3_chooseCodes_X4_pairCode
set_option maxRecDepth 20000 in
theorem ggX3_chooseCodes_X6_append : GoodIn wsX3_chooseCodes wsX6_append := goodIn_r _ [27, 28, 29, 74, 75] (by decide +kernel) (by decide +kernel)
set_option maxRecDepth 20000 in
theorem gX3_chooseCodes_X6_append : GoodIn wsX3_chooseCodes (wsV RX3 69 RX6 yX6_append wsX6_append) := goodIn_app (goodIn_of _ (by decide +kernel)) ggX3_chooseCodes_X6_append
set_option maxRecDepth 20000 in
theorem ggX3_chooseCodes_X4_singleCode : GoodIn wsX3_chooseCodes wsX4_singleCode := goodIn_r _ [33, 8, 13, 14, 15, 34, 35, 18, 36, 70, 71, 72, 73] (by decide +kernel) (by decide +kernel)
set_option maxRecDepth 20000 in
theorem gX3_chooseCodes_X4_singleCode : GoodIn wsX3_chooseCodes (wsV RX3 151 RX4 yX4_singleCode wsX4_singleCode) := goodIn_app (goodIn_of _ (by decide +kernel)) ggX3_chooseCodes_X4_singleCode
set_option maxRecDepth 20000 in
theorem ggX3_chooseCodes_X1_partOf : GoodIn wsX3_chooseCodes wsX1_partOf := goodIn_r _ [39, 40, 41, 18, 42, 43, 44, 45, 46, 47, 48] (by decide +kernel) (by decide +kernel)
set_option maxRecDepth 20000 in
theorem gX3_chooseCodes_X1_partOf : GoodIn wsX3_chooseCodes (va_wsS RX3 154 yX1_partOf wsX1_partOf) := goodIn_app (goodIn_of _ (by decide +kernel)) ggX3_chooseCodes_X1_partOf
set_option maxRecDepth 20000 in
theorem ggX3_chooseCodes_X4_sizeOf : GoodIn wsX3_chooseCodes wsX4_sizeOf := goodIn_r _ [52, 8, 14, 70, 71, 72, 73] (by decide +kernel) (by decide +kernel)
set_option maxRecDepth 20000 in
theorem gX3_chooseCodes_X4_sizeOf : GoodIn wsX3_chooseCodes (wsV RX3 159 RX4 yX4_sizeOf wsX4_sizeOf) := goodIn_app (goodIn_of _ (by decide +kernel)) ggX3_chooseCodes_X4_sizeOf
set_option maxRecDepth 20000 in
theorem ggX3_chooseCodes_X6_appendInteger : GoodIn wsX3_chooseCodes wsX6_appendInteger := goodIn_r _ [56, 57, 24, 25, 26, 27, 28, 29, 74, 75] (by decide +kernel) (by decide +kernel)
set_option maxRecDepth 20000 in
theorem gX3_chooseCodes_X6_appendInteger : GoodIn wsX3_chooseCodes (wsV RX3 141 RX6 yX6_appendInteger wsX6_appendInteger) := goodIn_app (goodIn_of _ (by decide +kernel)) ggX3_chooseCodes_X6_appendInteger
theorem dX3_chooseCodes_0 : decode cX3_chooseCodes 0 = .ok (.iconst 0, 1) := by decide +kernel
theorem dX3_chooseCodes_1 : decode cX3_chooseCodes 1 = .ok (.istore_n 1, 1) := by decide +kernel
theorem dX3_chooseCodes_2 : decode cX3_chooseCodes 2 = .ok (.iload_n 1, 1) := by decide +kernel
theorem dX3_chooseCodes_3 : decode cX3_chooseCodes 3 = .ok (.aload_n 0, 1) := by decide +kernel
theorem dX3_chooseCodes_4 : decode cX3_chooseCodes 4 = .ok (.getfield 31, 3) := by decide +kernel
theorem dX3_chooseCodes_7 : decode cX3_chooseCodes 7 = .ok (.invokevirtual 147, 3) := by decide +kernel
theorem dX3_chooseCodes_10 : decode cX3_chooseCodes 10 = .ok (.if_icmp .ge 77, 3) := by decide +kernel
theorem dX3_chooseCodes_13 : decode cX3_chooseCodes 13 = .ok (.aload_n 0, 1) := by decide +kernel
theorem dX3_chooseCodes_14 : decode cX3_chooseCodes 14 = .ok (.getfield 31, 3) := by decide +kernel
theorem dX3_chooseCodes_17 : decode cX3_chooseCodes 17 = .ok (.iload_n 1, 1) := by decide +kernel
theorem dX3_chooseCodes_18 : decode cX3_chooseCodes 18 = .ok (.invokevirtual 148, 3) := by decide +kernel
theorem dX3_chooseCodes_21 : decode cX3_chooseCodes 21 = .ok (.istore_n 2, 1) := by decide +kernel
theorem dX3_chooseCodes_22 : decode cX3_chooseCodes 22 = .ok (.iload_n 2, 1) := by decide +kernel
theorem dX3_chooseCodes_23 : decode cX3_chooseCodes 23 = .ok (.iconst (-1), 1) := by decide +kernel
theorem dX3_chooseCodes_24 : decode cX3_chooseCodes 24 = .ok (.if_icmp .eq 17, 3) := by decide +kernel
theorem dX3_chooseCodes_27 : decode cX3_chooseCodes 27 = .ok (.aload_n 0, 1) := by decide +kernel
theorem dX3_chooseCodes_28 : decode cX3_chooseCodes 28 = .ok (.getfield 46, 3) := by decide +kernel
theorem dX3_chooseCodes_31 : decode cX3_chooseCodes 31 = .ok (.iload_n 2, 1) := by decide +kernel
theorem dX3_chooseCodes_32 : decode cX3_chooseCodes 32 = .ok (.invokevirtual 69, 3) := by decide +kernel
theorem dX3_chooseCodes_35 : decode cX3_chooseCodes 35 = .ok (.iinc 1 1, 3) := by decide +kernel
theorem dX3_chooseCodes_38 : decode cX3_chooseCodes 38 = .ok (.goto 43, 3) := by decide +kernel
theorem dX3_chooseCodes_41 : decode cX3_chooseCodes 41 = .ok (.aload_n 0, 1) := by decide +kernel
theorem dX3_chooseCodes_42 : decode cX3_chooseCodes 42 = .ok (.getfield 31, 3) := by decide +kernel
theorem dX3_chooseCodes_45 : decode cX3_chooseCodes 45 = .ok (.iload_n 1, 1) := by decide +kernel
theorem dX3_chooseCodes_46 : decode cX3_chooseCodes 46 = .ok (.invokevirtual 151, 3) := by decide +kernel
theorem dX3_chooseCodes_49 : decode cX3_chooseCodes 49 = .ok (.istore_n 3, 1) := by decide +kernel
theorem dX3_chooseCodes_50 : decode cX3_chooseCodes 50 = .ok (.aload_n 0, 1) := by decide +kernel
theorem dX3_chooseCodes_51 : decode cX3_chooseCodes 51 = .ok (.getfield 46, 3) := by decide +kernel
theorem dX3_chooseCodes_54 : decode cX3_chooseCodes 54 = .ok (.iload_n 3, 1) := by decide +kernel
theorem dX3_chooseCodes_55 : decode cX3_chooseCodes 55 = .ok (.invokevirtual 69, 3) := by decide +kernel
theorem dX3_chooseCodes_58 : decode cX3_chooseCodes 58 = .ok (.iload_n 3, 1) := by decide +kernel
theorem dX3_chooseCodes_59 : decode cX3_chooseCodes 59 = .ok (.iconst 1, 1) := by decide +kernel
theorem dX3_chooseCodes_60 : decode cX3_chooseCodes 60 = .ok (.invokestatic 154, 3) := by decide +kernel
theorem dX3_chooseCodes_63 : decode cX3_chooseCodes 63 = .ok (.ifCond .ne 18, 3) := by decide +kernel
theorem dX3_chooseCodes_66 : decode cX3_chooseCodes 66 = .ok (.aload_n 0, 1) := by decide +kernel
theorem dX3_chooseCodes_67 : decode cX3_chooseCodes 67 = .ok (.getfield 46, 3) := by decide +kernel
theorem dX3_chooseCodes_70 : decode cX3_chooseCodes 70 = .ok (.aload_n 0, 1) := by decide +kernel
theorem dX3_chooseCodes_71 : decode cX3_chooseCodes 71 = .ok (.getfield 31, 3) := by decide +kernel
theorem dX3_chooseCodes_74 : decode cX3_chooseCodes 74 = .ok (.iload_n 1, 1) := by decide +kernel
theorem dX3_chooseCodes_75 : decode cX3_chooseCodes 75 = .ok (.invokevirtual 159, 3) := by decide +kernel
theorem dX3_chooseCodes_78 : decode cX3_chooseCodes 78 = .ok (.invokevirtual 141, 3) := by decide +kernel
theorem dX3_chooseCodes_81 : decode cX3_chooseCodes 81 = .ok (.iinc 1 1, 3) := by decide +kernel
theorem dX3_chooseCodes_84 : decode cX3_chooseCodes 84 = .ok (.goto (-82), 3) := by decide +kernel
theorem dX3_chooseCodes_87 : decode cX3_chooseCodes 87 = .ok (.return_, 1) := by decide +kernel
set_option maxRecDepth 20000 in
theorem ggX3_writeWindow_X6_count : GoodIn wsX3_writeWindow wsX6_count := goodIn_r _ [12, 13, 40, 41] (by decide +kernel) (by decide +kernel)
set_option maxRecDepth 20000 in
theorem gX3_writeWindow_X6_count : GoodIn wsX3_writeWindow (wsV RX3 75 RX6 yX6_count wsX6_count) := goodIn_app (goodIn_of _ (by decide +kernel)) ggX3_writeWindow_X6_count
set_option maxRecDepth 20000 in
theorem ggX3_writeWindow_X6_append : GoodIn wsX3_writeWindow wsX6_append := goodIn_r _ [17, 13, 18, 40, 41] (by decide +kernel) (by decide +kernel)
set_option maxRecDepth 20000 in
theorem gX3_writeWindow_X6_append : GoodIn wsX3_writeWindow (wsV RX3 69 RX6 yX6_append wsX6_append) := goodIn_app (goodIn_of _ (by decide +kernel)) ggX3_writeWindow_X6_append
set_option maxRecDepth 20000 in
theorem ggX3_writeWindow_X6_appendInteger : GoodIn wsX3_writeWindow wsX6_appendInteger := goodIn_r _ [22, 23, 15, 16, 11, 17, 13, 18, 40, 41] (by decide +kernel) (by decide +kernel)
set_option maxRecDepth 20000 in
theorem gX3_writeWindow_X6_appendInteger : GoodIn wsX3_writeWindow (wsV RX3 141 RX6 yX6_appendInteger wsX6_appendInteger) := goodIn_app (goodIn_of _ (by decide +kernel)) ggX3_writeWindow_X6_appendInteger
set_option maxRecDepth 20000 in
theorem ggX3_writeWindow_X6_appendRow : GoodIn wsX3_writeWindow wsX6_appendRow := goodIn_r _ [27, 13, 18, 23, 15, 16, 11, 17, 40, 41] (by decide +kernel) (by decide +kernel)
set_option maxRecDepth 20000 in
theorem gX3_writeWindow_X6_appendRow : GoodIn wsX3_writeWindow (wsV RX3 162 RX6 yX6_appendRow wsX6_appendRow) := goodIn_app (goodIn_of _ (by decide +kernel)) ggX3_writeWindow_X6_appendRow
theorem dX3_writeWindow_0 : decode cX3_writeWindow 0 = .ok (.aload_n 0, 1) := by decide +kernel
theorem dX3_writeWindow_1 : decode cX3_writeWindow 1 = .ok (.getfield 9, 3) := by decide +kernel
theorem dX3_writeWindow_4 : decode cX3_writeWindow 4 = .ok (.invokevirtual 75, 3) := by decide +kernel
theorem dX3_writeWindow_7 : decode cX3_writeWindow 7 = .ok (.ifCond .ne 14, 3) := by decide +kernel
theorem dX3_writeWindow_10 : decode cX3_writeWindow 10 = .ok (.aload_n 0, 1) := by decide +kernel
theorem dX3_writeWindow_11 : decode cX3_writeWindow 11 = .ok (.getfield 18, 3) := by decide +kernel
theorem dX3_writeWindow_14 : decode cX3_writeWindow 14 = .ok (.iconst 0, 1) := by decide +kernel
theorem dX3_writeWindow_15 : decode cX3_writeWindow 15 = .ok (.invokevirtual 69, 3) := by decide +kernel
theorem dX3_writeWindow_18 : decode cX3_writeWindow 18 = .ok (.goto 33, 3) := by decide +kernel
theorem dX3_writeWindow_21 : decode cX3_writeWindow 21 = .ok (.aload_n 0, 1) := by decide +kernel
theorem dX3_writeWindow_22 : decode cX3_writeWindow 22 = .ok (.getfield 18, 3) := by decide +kernel
theorem dX3_writeWindow_25 : decode cX3_writeWindow 25 = .ok (.iconst 1, 1) := by decide +kernel
theorem dX3_writeWindow_26 : decode cX3_writeWindow 26 = .ok (.invokevirtual 69, 3) := by decide +kernel
theorem dX3_writeWindow_29 : decode cX3_writeWindow 29 = .ok (.aload_n 0, 1) := by decide +kernel
theorem dX3_writeWindow_30 : decode cX3_writeWindow 30 = .ok (.getfield 18, 3) := by decide +kernel
theorem dX3_writeWindow_33 : decode cX3_writeWindow 33 = .ok (.aload_n 0, 1) := by decide +kernel
theorem dX3_writeWindow_34 : decode cX3_writeWindow 34 = .ok (.getfield 9, 3) := by decide +kernel
theorem dX3_writeWindow_37 : decode cX3_writeWindow 37 = .ok (.invokevirtual 75, 3) := by decide +kernel
theorem dX3_writeWindow_40 : decode cX3_writeWindow 40 = .ok (.invokevirtual 141, 3) := by decide +kernel
theorem dX3_writeWindow_43 : decode cX3_writeWindow 43 = .ok (.aload_n 0, 1) := by decide +kernel
theorem dX3_writeWindow_44 : decode cX3_writeWindow 44 = .ok (.getfield 18, 3) := by decide +kernel
theorem dX3_writeWindow_47 : decode cX3_writeWindow 47 = .ok (.iconst 0, 1) := by decide +kernel
theorem dX3_writeWindow_48 : decode cX3_writeWindow 48 = .ok (.invokevirtual 141, 3) := by decide +kernel
theorem dX3_writeWindow_51 : decode cX3_writeWindow 51 = .ok (.aload_n 0, 1) := by decide +kernel
theorem dX3_writeWindow_52 : decode cX3_writeWindow 52 = .ok (.getfield 52, 3) := by decide +kernel
theorem dX3_writeWindow_55 : decode cX3_writeWindow 55 = .ok (.aload_n 0, 1) := by decide +kernel
theorem dX3_writeWindow_56 : decode cX3_writeWindow 56 = .ok (.getfield 40, 3) := by decide +kernel
theorem dX3_writeWindow_59 : decode cX3_writeWindow 59 = .ok (.invokevirtual 75, 3) := by decide +kernel
theorem dX3_writeWindow_62 : decode cX3_writeWindow 62 = .ok (.aload_n 0, 1) := by decide +kernel
theorem dX3_writeWindow_63 : decode cX3_writeWindow 63 = .ok (.getfield 9, 3) := by decide +kernel
theorem dX3_writeWindow_66 : decode cX3_writeWindow 66 = .ok (.invokevirtual 75, 3) := by decide +kernel
theorem dX3_writeWindow_69 : decode cX3_writeWindow 69 = .ok (.isub, 1) := by decide +kernel
theorem dX3_writeWindow_70 : decode cX3_writeWindow 70 = .ok (.invokevirtual 141, 3) := by decide +kernel
theorem dX3_writeWindow_73 : decode cX3_writeWindow 73 = .ok (.aload_n 0, 1) := by decide +kernel
theorem dX3_writeWindow_74 : decode cX3_writeWindow 74 = .ok (.getfield 52, 3) := by decide +kernel
theorem dX3_writeWindow_77 : decode cX3_writeWindow 77 = .ok (.iconst 0, 1) := by decide +kernel
theorem dX3_writeWindow_78 : decode cX3_writeWindow 78 = .ok (.invokevirtual 69, 3) := by decide +kernel
theorem dX3_writeWindow_81 : decode cX3_writeWindow 81 = .ok (.aload_n 0, 1) := by decide +kernel
theorem dX3_writeWindow_82 : decode cX3_writeWindow 82 = .ok (.getfield 52, 3) := by decide +kernel
theorem dX3_writeWindow_85 : decode cX3_writeWindow 85 = .ok (.aload_n 0, 1) := by decide +kernel
theorem dX3_writeWindow_86 : decode cX3_writeWindow 86 = .ok (.getfield 43, 3) := by decide +kernel
theorem dX3_writeWindow_89 : decode cX3_writeWindow 89 = .ok (.invokevirtual 75, 3) := by decide +kernel
theorem dX3_writeWindow_92 : decode cX3_writeWindow 92 = .ok (.invokevirtual 141, 3) := by decide +kernel
theorem dX3_writeWindow_95 : decode cX3_writeWindow 95 = .ok (.aload_n 0, 1) := by decide +kernel
theorem dX3_writeWindow_96 : decode cX3_writeWindow 96 = .ok (.getfield 52, 3) := by decide +kernel
theorem dX3_writeWindow_99 : decode cX3_writeWindow 99 = .ok (.aload_n 0, 1) := by decide +kernel
theorem dX3_writeWindow_100 : decode cX3_writeWindow 100 = .ok (.getfield 46, 3) := by decide +kernel
theorem dX3_writeWindow_103 : decode cX3_writeWindow 103 = .ok (.invokevirtual 75, 3) := by decide +kernel
theorem dX3_writeWindow_106 : decode cX3_writeWindow 106 = .ok (.invokevirtual 141, 3) := by decide +kernel
theorem dX3_writeWindow_109 : decode cX3_writeWindow 109 = .ok (.aload_n 0, 1) := by decide +kernel
theorem dX3_writeWindow_110 : decode cX3_writeWindow 110 = .ok (.getfield 52, 3) := by decide +kernel
theorem dX3_writeWindow_113 : decode cX3_writeWindow 113 = .ok (.aload_n 0, 1) := by decide +kernel
theorem dX3_writeWindow_114 : decode cX3_writeWindow 114 = .ok (.getfield 49, 3) := by decide +kernel
theorem dX3_writeWindow_117 : decode cX3_writeWindow 117 = .ok (.invokevirtual 75, 3) := by decide +kernel
theorem dX3_writeWindow_120 : decode cX3_writeWindow 120 = .ok (.invokevirtual 141, 3) := by decide +kernel
theorem dX3_writeWindow_123 : decode cX3_writeWindow 123 = .ok (.aload_n 0, 1) := by decide +kernel
theorem dX3_writeWindow_124 : decode cX3_writeWindow 124 = .ok (.getfield 52, 3) := by decide +kernel
theorem dX3_writeWindow_127 : decode cX3_writeWindow 127 = .ok (.aload_n 0, 1) := by decide +kernel
theorem dX3_writeWindow_128 : decode cX3_writeWindow 128 = .ok (.getfield 43, 3) := by decide +kernel
theorem dX3_writeWindow_131 : decode cX3_writeWindow 131 = .ok (.invokevirtual 162, 3) := by decide +kernel
theorem dX3_writeWindow_134 : decode cX3_writeWindow 134 = .ok (.aload_n 0, 1) := by decide +kernel
theorem dX3_writeWindow_135 : decode cX3_writeWindow 135 = .ok (.getfield 52, 3) := by decide +kernel
theorem dX3_writeWindow_138 : decode cX3_writeWindow 138 = .ok (.aload_n 0, 1) := by decide +kernel
theorem dX3_writeWindow_139 : decode cX3_writeWindow 139 = .ok (.getfield 46, 3) := by decide +kernel
theorem dX3_writeWindow_142 : decode cX3_writeWindow 142 = .ok (.invokevirtual 162, 3) := by decide +kernel
theorem dX3_writeWindow_145 : decode cX3_writeWindow 145 = .ok (.aload_n 0, 1) := by decide +kernel
theorem dX3_writeWindow_146 : decode cX3_writeWindow 146 = .ok (.getfield 52, 3) := by decide +kernel
theorem dX3_writeWindow_149 : decode cX3_writeWindow 149 = .ok (.aload_n 0, 1) := by decide +kernel
theorem dX3_writeWindow_150 : decode cX3_writeWindow 150 = .ok (.getfield 49, 3) := by decide +kernel
theorem dX3_writeWindow_153 : decode cX3_writeWindow 153 = .ok (.invokevirtual 162, 3) := by decide +kernel
theorem dX3_writeWindow_156 : decode cX3_writeWindow 156 = .ok (.aload_n 0, 1) := by decide +kernel
theorem dX3_writeWindow_157 : decode cX3_writeWindow 157 = .ok (.getfield 18, 3) := by decide +kernel
theorem dX3_writeWindow_160 : decode cX3_writeWindow 160 = .ok (.aload_n 0, 1) := by decide +kernel
theorem dX3_writeWindow_161 : decode cX3_writeWindow 161 = .ok (.getfield 52, 3) := by decide +kernel
theorem dX3_writeWindow_164 : decode cX3_writeWindow 164 = .ok (.invokevirtual 75, 3) := by decide +kernel
theorem dX3_writeWindow_167 : decode cX3_writeWindow 167 = .ok (.invokevirtual 141, 3) := by decide +kernel
theorem dX3_writeWindow_170 : decode cX3_writeWindow 170 = .ok (.aload_n 0, 1) := by decide +kernel
theorem dX3_writeWindow_171 : decode cX3_writeWindow 171 = .ok (.getfield 18, 3) := by decide +kernel
theorem dX3_writeWindow_174 : decode cX3_writeWindow 174 = .ok (.aload_n 0, 1) := by decide +kernel
theorem dX3_writeWindow_175 : decode cX3_writeWindow 175 = .ok (.getfield 52, 3) := by decide +kernel
theorem dX3_writeWindow_178 : decode cX3_writeWindow 178 = .ok (.invokevirtual 162, 3) := by decide +kernel
theorem dX3_writeWindow_181 : decode cX3_writeWindow 181 = .ok (.return_, 1) := by decide +kernel
theorem dX4_init_0 : decode cX4_init 0 = .ok (.aload_n 0, 1) := by decide +kernel
theorem dX4_init_1 : decode cX4_init 1 = .ok (.invokespecial 3, 3) := by decide +kernel
theorem dX4_init_4 : decode cX4_init 4 = .ok (.aload_n 0, 1) := by decide +kernel
theorem dX4_init_5 : decode cX4_init 5 = .ok (.bipush 64, 2) := by decide +kernel
theorem dX4_init_7 : decode cX4_init 7 = .ok (.newarray .int, 2) := by decide +kernel
theorem dX4_init_9 : decode cX4_init 9 = .ok (.putfield 9, 3) := by decide +kernel
theorem dX4_init_12 : decode cX4_init 12 = .ok (.aload_n 0, 1) := by decide +kernel
theorem dX4_init_13 : decode cX4_init 13 = .ok (.bipush 64, 2) := by decide +kernel
theorem dX4_init_15 : decode cX4_init 15 = .ok (.newarray .int, 2) := by decide +kernel
theorem dX4_init_17 : decode cX4_init 17 = .ok (.putfield 15, 3) := by decide +kernel
theorem dX4_init_20 : decode cX4_init 20 = .ok (.aload_n 0, 1) := by decide +kernel
theorem dX4_init_21 : decode cX4_init 21 = .ok (.bipush 64, 2) := by decide +kernel
theorem dX4_init_23 : decode cX4_init 23 = .ok (.newarray .int, 2) := by decide +kernel
theorem dX4_init_25 : decode cX4_init 25 = .ok (.putfield 18, 3) := by decide +kernel
theorem dX4_init_28 : decode cX4_init 28 = .ok (.aload_n 0, 1) := by decide +kernel
theorem dX4_init_29 : decode cX4_init 29 = .ok (.iconst 0, 1) := by decide +kernel
theorem dX4_init_30 : decode cX4_init 30 = .ok (.putfield 21, 3) := by decide +kernel
theorem dX4_init_33 : decode cX4_init 33 = .ok (.return_, 1) := by decide +kernel
theorem dX4_count_0 : decode cX4_count 0 = .ok (.aload_n 0, 1) := by decide +kernel
theorem dX4_count_1 : decode cX4_count 1 = .ok (.getfield 21, 3) := by decide +kernel
theorem dX4_count_4 : decode cX4_count 4 = .ok (.ireturn, 1) := by decide +kernel
theorem dX4_clear_0 : decode cX4_clear 0 = .ok (.aload_n 0, 1) := by decide +kernel
theorem dX4_clear_1 : decode cX4_clear 1 = .ok (.iconst 0, 1) := by decide +kernel
theorem dX4_clear_2 : decode cX4_clear 2 = .ok (.putfield 21, 3) := by decide +kernel
theorem dX4_clear_5 : decode cX4_clear 5 = .ok (.return_, 1) := by decide +kernel
theorem dX4_append_0 : decode cX4_append 0 = .ok (.aload_n 0, 1) := by decide +kernel
theorem dX4_append_1 : decode cX4_append 1 = .ok (.getfield 21, 3) := by decide +kernel
theorem dX4_append_4 : decode cX4_append 4 = .ok (.bipush 64, 2) := by decide +kernel
theorem dX4_append_6 : decode cX4_append 6 = .ok (.if_icmp .ge 43, 3) := by decide +kernel
theorem dX4_append_9 : decode cX4_append 9 = .ok (.aload_n 0, 1) := by decide +kernel
theorem dX4_append_10 : decode cX4_append 10 = .ok (.getfield 9, 3) := by decide +kernel
theorem dX4_append_13 : decode cX4_append 13 = .ok (.aload_n 0, 1) := by decide +kernel
theorem dX4_append_14 : decode cX4_append 14 = .ok (.getfield 21, 3) := by decide +kernel
theorem dX4_append_17 : decode cX4_append 17 = .ok (.iload_n 1, 1) := by decide +kernel
theorem dX4_append_18 : decode cX4_append 18 = .ok (.iastore, 1) := by decide +kernel
theorem dX4_append_19 : decode cX4_append 19 = .ok (.aload_n 0, 1) := by decide +kernel
theorem dX4_append_20 : decode cX4_append 20 = .ok (.getfield 15, 3) := by decide +kernel
theorem dX4_append_23 : decode cX4_append 23 = .ok (.aload_n 0, 1) := by decide +kernel
theorem dX4_append_24 : decode cX4_append 24 = .ok (.getfield 21, 3) := by decide +kernel
theorem dX4_append_27 : decode cX4_append 27 = .ok (.iload_n 2, 1) := by decide +kernel
theorem dX4_append_28 : decode cX4_append 28 = .ok (.iastore, 1) := by decide +kernel
theorem dX4_append_29 : decode cX4_append 29 = .ok (.aload_n 0, 1) := by decide +kernel
theorem dX4_append_30 : decode cX4_append 30 = .ok (.getfield 18, 3) := by decide +kernel
theorem dX4_append_33 : decode cX4_append 33 = .ok (.aload_n 0, 1) := by decide +kernel
theorem dX4_append_34 : decode cX4_append 34 = .ok (.getfield 21, 3) := by decide +kernel
theorem dX4_append_37 : decode cX4_append 37 = .ok (.iload_n 3, 1) := by decide +kernel
theorem dX4_append_38 : decode cX4_append 38 = .ok (.iastore, 1) := by decide +kernel
theorem dX4_append_39 : decode cX4_append 39 = .ok (.aload_n 0, 1) := by decide +kernel
theorem dX4_append_40 : decode cX4_append 40 = .ok (.dup, 1) := by decide +kernel
theorem dX4_append_41 : decode cX4_append 41 = .ok (.getfield 21, 3) := by decide +kernel
theorem dX4_append_44 : decode cX4_append 44 = .ok (.iconst 1, 1) := by decide +kernel
theorem dX4_append_45 : decode cX4_append 45 = .ok (.iadd, 1) := by decide +kernel
theorem dX4_append_46 : decode cX4_append 46 = .ok (.putfield 21, 3) := by decide +kernel
theorem dX4_append_49 : decode cX4_append 49 = .ok (.return_, 1) := by decide +kernel
set_option maxRecDepth 20000 in
theorem ggX4_appendAddedByte_X4_append : GoodIn wsX4_appendAddedByte wsX4_append := goodIn_r _ [8, 1, 2, 3, 9, 10, 11, 12, 13] (by decide +kernel) (by decide +kernel)
set_option maxRecDepth 20000 in
theorem gX4_appendAddedByte_X4_append : GoodIn wsX4_appendAddedByte (wsV RX4 25 RX4 yX4_append wsX4_append) := goodIn_app (goodIn_of _ (by decide +kernel)) ggX4_appendAddedByte_X4_append
theorem dX4_appendAddedByte_0 : decode cX4_appendAddedByte 0 = .ok (.aload_n 0, 1) := by decide +kernel
theorem dX4_appendAddedByte_1 : decode cX4_appendAddedByte 1 = .ok (.getfield 21, 3) := by decide +kernel
theorem dX4_appendAddedByte_4 : decode cX4_appendAddedByte 4 = .ok (.iconst 1, 1) := by decide +kernel
theorem dX4_appendAddedByte_5 : decode cX4_appendAddedByte 5 = .ok (.isub, 1) := by decide +kernel
theorem dX4_appendAddedByte_6 : decode cX4_appendAddedByte 6 = .ok (.istore_n 1, 1) := by decide +kernel
theorem dX4_appendAddedByte_7 : decode cX4_appendAddedByte 7 = .ok (.iload_n 1, 1) := by decide +kernel
theorem dX4_appendAddedByte_8 : decode cX4_appendAddedByte 8 = .ok (.ifCond .lt 26, 3) := by decide +kernel
theorem dX4_appendAddedByte_11 : decode cX4_appendAddedByte 11 = .ok (.aload_n 0, 1) := by decide +kernel
theorem dX4_appendAddedByte_12 : decode cX4_appendAddedByte 12 = .ok (.getfield 9, 3) := by decide +kernel
theorem dX4_appendAddedByte_15 : decode cX4_appendAddedByte 15 = .ok (.iload_n 1, 1) := by decide +kernel
theorem dX4_appendAddedByte_16 : decode cX4_appendAddedByte 16 = .ok (.iaload, 1) := by decide +kernel
theorem dX4_appendAddedByte_17 : decode cX4_appendAddedByte 17 = .ok (.iconst 1, 1) := by decide +kernel
theorem dX4_appendAddedByte_18 : decode cX4_appendAddedByte 18 = .ok (.if_icmp .ne 16, 3) := by decide +kernel
theorem dX4_appendAddedByte_21 : decode cX4_appendAddedByte 21 = .ok (.aload_n 0, 1) := by decide +kernel
theorem dX4_appendAddedByte_22 : decode cX4_appendAddedByte 22 = .ok (.getfield 15, 3) := by decide +kernel
theorem dX4_appendAddedByte_25 : decode cX4_appendAddedByte 25 = .ok (.iload_n 1, 1) := by decide +kernel
theorem dX4_appendAddedByte_26 : decode cX4_appendAddedByte 26 = .ok (.dup2, 1) := by decide +kernel
theorem dX4_appendAddedByte_27 : decode cX4_appendAddedByte 27 = .ok (.iaload, 1) := by decide +kernel
theorem dX4_appendAddedByte_28 : decode cX4_appendAddedByte 28 = .ok (.iconst 1, 1) := by decide +kernel
theorem dX4_appendAddedByte_29 : decode cX4_appendAddedByte 29 = .ok (.iadd, 1) := by decide +kernel
theorem dX4_appendAddedByte_30 : decode cX4_appendAddedByte 30 = .ok (.iastore, 1) := by decide +kernel
theorem dX4_appendAddedByte_31 : decode cX4_appendAddedByte 31 = .ok (.goto 10, 3) := by decide +kernel
theorem dX4_appendAddedByte_34 : decode cX4_appendAddedByte 34 = .ok (.aload_n 0, 1) := by decide +kernel
theorem dX4_appendAddedByte_35 : decode cX4_appendAddedByte 35 = .ok (.iconst 1, 1) := by decide +kernel
theorem dX4_appendAddedByte_36 : decode cX4_appendAddedByte 36 = .ok (.iconst 1, 1) := by decide +kernel
theorem dX4_appendAddedByte_37 : decode cX4_appendAddedByte 37 = .ok (.iconst 0, 1) := by decide +kernel
theorem dX4_appendAddedByte_38 : decode cX4_appendAddedByte 38 = .ok (.invokevirtual 25, 3) := by decide +kernel
theorem dX4_appendAddedByte_41 : decode cX4_appendAddedByte 41 = .ok (.return_, 1) := by decide +kernel
theorem dX4_sizeOf_0 : decode cX4_sizeOf 0 = .ok (.iload_n 1, 1) := by decide +kernel
theorem dX4_sizeOf_1 : decode cX4_sizeOf 1 = .ok (.ifCond .lt 20, 3) := by decide +kernel
theorem dX4_sizeOf_4 : decode cX4_sizeOf 4 = .ok (.iload_n 1, 1) := by decide +kernel
theorem dX4_sizeOf_5 : decode cX4_sizeOf 5 = .ok (.aload_n 0, 1) := by decide +kernel
theorem dX4_sizeOf_6 : decode cX4_sizeOf 6 = .ok (.getfield 21, 3) := by decide +kernel
theorem dX4_sizeOf_9 : decode cX4_sizeOf 9 = .ok (.if_icmp .ge 12, 3) := by decide +kernel
theorem dX4_sizeOf_12 : decode cX4_sizeOf 12 = .ok (.aload_n 0, 1) := by decide +kernel
theorem dX4_sizeOf_13 : decode cX4_sizeOf 13 = .ok (.getfield 15, 3) := by decide +kernel
theorem dX4_sizeOf_16 : decode cX4_sizeOf 16 = .ok (.iload_n 1, 1) := by decide +kernel
theorem dX4_sizeOf_17 : decode cX4_sizeOf 17 = .ok (.iaload, 1) := by decide +kernel
theorem dX4_sizeOf_18 : decode cX4_sizeOf 18 = .ok (.goto 4, 3) := by decide +kernel
theorem dX4_sizeOf_21 : decode cX4_sizeOf 21 = .ok (.iconst 0, 1) := by decide +kernel
theorem dX4_sizeOf_22 : decode cX4_sizeOf 22 = .ok (.ireturn, 1) := by decide +kernel
set_option maxRecDepth 20000 in
theorem ggX4_singleCode_X1_single : GoodIn wsX4_singleCode wsX1_single := goodIn_r _ [8] (by decide +kernel) (by decide +kernel)
set_option maxRecDepth 20000 in
theorem gX4_singleCode_X1_single : GoodIn wsX4_singleCode (va_wsS RX4 29 yX1_single wsX1_single) := goodIn_app (goodIn_of _ (by decide +kernel)) ggX4_singleCode_X1_single
theorem dX4_singleCode_0 : decode cX4_singleCode 0 = .ok (.iload_n 1, 1) := by decide +kernel
theorem dX4_singleCode_1 : decode cX4_singleCode 1 = .ok (.ifCond .lt 35, 3) := by decide +kernel
theorem dX4_singleCode_4 : decode cX4_singleCode 4 = .ok (.iload_n 1, 1) := by decide +kernel
theorem dX4_singleCode_5 : decode cX4_singleCode 5 = .ok (.aload_n 0, 1) := by decide +kernel
theorem dX4_singleCode_6 : decode cX4_singleCode 6 = .ok (.getfield 21, 3) := by decide +kernel
theorem dX4_singleCode_9 : decode cX4_singleCode 9 = .ok (.if_icmp .ge 27, 3) := by decide +kernel
theorem dX4_singleCode_12 : decode cX4_singleCode 12 = .ok (.aload_n 0, 1) := by decide +kernel
theorem dX4_singleCode_13 : decode cX4_singleCode 13 = .ok (.getfield 9, 3) := by decide +kernel
theorem dX4_singleCode_16 : decode cX4_singleCode 16 = .ok (.iload_n 1, 1) := by decide +kernel
theorem dX4_singleCode_17 : decode cX4_singleCode 17 = .ok (.iaload, 1) := by decide +kernel
theorem dX4_singleCode_18 : decode cX4_singleCode 18 = .ok (.aload_n 0, 1) := by decide +kernel
theorem dX4_singleCode_19 : decode cX4_singleCode 19 = .ok (.getfield 15, 3) := by decide +kernel
theorem dX4_singleCode_22 : decode cX4_singleCode 22 = .ok (.iload_n 1, 1) := by decide +kernel
theorem dX4_singleCode_23 : decode cX4_singleCode 23 = .ok (.iaload, 1) := by decide +kernel
theorem dX4_singleCode_24 : decode cX4_singleCode 24 = .ok (.aload_n 0, 1) := by decide +kernel
theorem dX4_singleCode_25 : decode cX4_singleCode 25 = .ok (.getfield 18, 3) := by decide +kernel
theorem dX4_singleCode_28 : decode cX4_singleCode 28 = .ok (.iload_n 1, 1) := by decide +kernel
theorem dX4_singleCode_29 : decode cX4_singleCode 29 = .ok (.iaload, 1) := by decide +kernel
theorem dX4_singleCode_30 : decode cX4_singleCode 30 = .ok (.invokestatic 29, 3) := by decide +kernel
theorem dX4_singleCode_33 : decode cX4_singleCode 33 = .ok (.goto 4, 3) := by decide +kernel
theorem dX4_singleCode_36 : decode cX4_singleCode 36 = .ok (.iconst (-1), 1) := by decide +kernel
theorem dX4_singleCode_37 : decode cX4_singleCode 37 = .ok (.ireturn, 1) := by decide +kernel
set_option maxRecDepth 20000 in
theorem ggX4_pairCode_X1_addThenCopy : GoodIn wsX4_pairCode wsX1_addThenCopy := goodIn_r _ [8] (by decide +kernel) (by decide +kernel)
set_option maxRecDepth 20000 in
theorem gX4_pairCode_X1_addThenCopy : GoodIn wsX4_pairCode (va_wsS RX4 35 yX1_addThenCopy wsX1_addThenCopy) := goodIn_app (goodIn_of _ (by decide +kernel)) ggX4_pairCode_X1_addThenCopy
set_option maxRecDepth 20000 in
theorem ggX4_pairCode_X1_copyThenAdd : GoodIn wsX4_pairCode wsX1_copyThenAdd := goodIn_r _ [11] (by decide +kernel) (by decide +kernel)
set_option maxRecDepth 20000 in
theorem gX4_pairCode_X1_copyThenAdd : GoodIn wsX4_pairCode (va_wsS RX4 38 yX1_copyThenAdd wsX1_copyThenAdd) := goodIn_app (goodIn_of _ (by decide +kernel)) ggX4_pairCode_X1_copyThenAdd
theorem dX4_pairCode_0 : decode cX4_pairCode 0 = .ok (.iload_n 1, 1) := by decide +kernel
theorem dX4_pairCode_1 : decode cX4_pairCode 1 = .ok (.iconst 1, 1) := by decide +kernel
theorem dX4_pairCode_2 : decode cX4_pairCode 2 = .ok (.iadd, 1) := by decide +kernel
theorem dX4_pairCode_3 : decode cX4_pairCode 3 = .ok (.istore_n 2, 1) := by decide +kernel
theorem dX4_pairCode_4 : decode cX4_pairCode 4 = .ok (.iload_n 1, 1) := by decide +kernel
theorem dX4_pairCode_5 : decode cX4_pairCode 5 = .ok (.ifCond .lt 11, 3) := by decide +kernel
theorem dX4_pairCode_8 : decode cX4_pairCode 8 = .ok (.iload_n 2, 1) := by decide +kernel
theorem dX4_pairCode_9 : decode cX4_pairCode 9 = .ok (.aload_n 0, 1) := by decide +kernel
theorem dX4_pairCode_10 : decode cX4_pairCode 10 = .ok (.getfield 21, 3) := by decide +kernel
theorem dX4_pairCode_13 : decode cX4_pairCode 13 = .ok (.if_icmp .lt 5, 3) := by decide +kernel
theorem dX4_pairCode_16 : decode cX4_pairCode 16 = .ok (.iconst (-1), 1) := by decide +kernel
theorem dX4_pairCode_17 : decode cX4_pairCode 17 = .ok (.ireturn, 1) := by decide +kernel
theorem dX4_pairCode_18 : decode cX4_pairCode 18 = .ok (.aload_n 0, 1) := by decide +kernel
theorem dX4_pairCode_19 : decode cX4_pairCode 19 = .ok (.getfield 9, 3) := by decide +kernel
theorem dX4_pairCode_22 : decode cX4_pairCode 22 = .ok (.iload_n 1, 1) := by decide +kernel
theorem dX4_pairCode_23 : decode cX4_pairCode 23 = .ok (.iaload, 1) := by decide +kernel
theorem dX4_pairCode_24 : decode cX4_pairCode 24 = .ok (.iconst 1, 1) := by decide +kernel
theorem dX4_pairCode_25 : decode cX4_pairCode 25 = .ok (.if_icmp .ne 35, 3) := by decide +kernel
theorem dX4_pairCode_28 : decode cX4_pairCode 28 = .ok (.aload_n 0, 1) := by decide +kernel
theorem dX4_pairCode_29 : decode cX4_pairCode 29 = .ok (.getfield 9, 3) := by decide +kernel
theorem dX4_pairCode_32 : decode cX4_pairCode 32 = .ok (.iload_n 2, 1) := by decide +kernel
theorem dX4_pairCode_33 : decode cX4_pairCode 33 = .ok (.iaload, 1) := by decide +kernel
theorem dX4_pairCode_34 : decode cX4_pairCode 34 = .ok (.iconst 3, 1) := by decide +kernel
theorem dX4_pairCode_35 : decode cX4_pairCode 35 = .ok (.if_icmp .ne 25, 3) := by decide +kernel
theorem dX4_pairCode_38 : decode cX4_pairCode 38 = .ok (.aload_n 0, 1) := by decide +kernel
theorem dX4_pairCode_39 : decode cX4_pairCode 39 = .ok (.getfield 15, 3) := by decide +kernel
theorem dX4_pairCode_42 : decode cX4_pairCode 42 = .ok (.iload_n 1, 1) := by decide +kernel
theorem dX4_pairCode_43 : decode cX4_pairCode 43 = .ok (.iaload, 1) := by decide +kernel
theorem dX4_pairCode_44 : decode cX4_pairCode 44 = .ok (.aload_n 0, 1) := by decide +kernel
theorem dX4_pairCode_45 : decode cX4_pairCode 45 = .ok (.getfield 15, 3) := by decide +kernel
theorem dX4_pairCode_48 : decode cX4_pairCode 48 = .ok (.iload_n 2, 1) := by decide +kernel
theorem dX4_pairCode_49 : decode cX4_pairCode 49 = .ok (.iaload, 1) := by decide +kernel
theorem dX4_pairCode_50 : decode cX4_pairCode 50 = .ok (.aload_n 0, 1) := by decide +kernel
theorem dX4_pairCode_51 : decode cX4_pairCode 51 = .ok (.getfield 18, 3) := by decide +kernel
theorem dX4_pairCode_54 : decode cX4_pairCode 54 = .ok (.iload_n 2, 1) := by decide +kernel
theorem dX4_pairCode_55 : decode cX4_pairCode 55 = .ok (.iaload, 1) := by decide +kernel
theorem dX4_pairCode_56 : decode cX4_pairCode 56 = .ok (.invokestatic 35, 3) := by decide +kernel
theorem dX4_pairCode_59 : decode cX4_pairCode 59 = .ok (.ireturn, 1) := by decide +kernel
theorem dX4_pairCode_60 : decode cX4_pairCode 60 = .ok (.aload_n 0, 1) := by decide +kernel
theorem dX4_pairCode_61 : decode cX4_pairCode 61 = .ok (.getfield 9, 3) := by decide +kernel
theorem dX4_pairCode_64 : decode cX4_pairCode 64 = .ok (.iload_n 1, 1) := by decide +kernel
theorem dX4_pairCode_65 : decode cX4_pairCode 65 = .ok (.iaload, 1) := by decide +kernel
theorem dX4_pairCode_66 : decode cX4_pairCode 66 = .ok (.iconst 3, 1) := by decide +kernel
theorem dX4_pairCode_67 : decode cX4_pairCode 67 = .ok (.if_icmp .ne 35, 3) := by decide +kernel
theorem dX4_pairCode_70 : decode cX4_pairCode 70 = .ok (.aload_n 0, 1) := by decide +kernel
theorem dX4_pairCode_71 : decode cX4_pairCode 71 = .ok (.getfield 9, 3) := by decide +kernel
theorem dX4_pairCode_74 : decode cX4_pairCode 74 = .ok (.iload_n 2, 1) := by decide +kernel
theorem dX4_pairCode_75 : decode cX4_pairCode 75 = .ok (.iaload, 1) := by decide +kernel
theorem dX4_pairCode_76 : decode cX4_pairCode 76 = .ok (.iconst 1, 1) := by decide +kernel
theorem dX4_pairCode_77 : decode cX4_pairCode 77 = .ok (.if_icmp .ne 25, 3) := by decide +kernel
theorem dX4_pairCode_80 : decode cX4_pairCode 80 = .ok (.aload_n 0, 1) := by decide +kernel
theorem dX4_pairCode_81 : decode cX4_pairCode 81 = .ok (.getfield 15, 3) := by decide +kernel
theorem dX4_pairCode_84 : decode cX4_pairCode 84 = .ok (.iload_n 1, 1) := by decide +kernel
theorem dX4_pairCode_85 : decode cX4_pairCode 85 = .ok (.iaload, 1) := by decide +kernel
theorem dX4_pairCode_86 : decode cX4_pairCode 86 = .ok (.aload_n 0, 1) := by decide +kernel
theorem dX4_pairCode_87 : decode cX4_pairCode 87 = .ok (.getfield 18, 3) := by decide +kernel
theorem dX4_pairCode_90 : decode cX4_pairCode 90 = .ok (.iload_n 1, 1) := by decide +kernel
theorem dX4_pairCode_91 : decode cX4_pairCode 91 = .ok (.iaload, 1) := by decide +kernel
theorem dX4_pairCode_92 : decode cX4_pairCode 92 = .ok (.aload_n 0, 1) := by decide +kernel
theorem dX4_pairCode_93 : decode cX4_pairCode 93 = .ok (.getfield 15, 3) := by decide +kernel
theorem dX4_pairCode_96 : decode cX4_pairCode 96 = .ok (.iload_n 2, 1) := by decide +kernel
theorem dX4_pairCode_97 : decode cX4_pairCode 97 = .ok (.iaload, 1) := by decide +kernel
theorem dX4_pairCode_98 : decode cX4_pairCode 98 = .ok (.invokestatic 38, 3) := by decide +kernel
theorem dX4_pairCode_101 : decode cX4_pairCode 101 = .ok (.ireturn, 1) := by decide +kernel
theorem dX4_pairCode_102 : decode cX4_pairCode 102 = .ok (.iconst (-1), 1) := by decide +kernel
theorem dX4_pairCode_103 : decode cX4_pairCode 103 = .ok (.ireturn, 1) := by decide +kernel
theorem dX5_init_0 : decode cX5_init 0 = .ok (.aload_n 0, 1) := by decide +kernel
theorem dX5_init_1 : decode cX5_init 1 = .ok (.invokespecial 3, 3) := by decide +kernel
theorem dX5_init_4 : decode cX5_init 4 = .ok (.aload_n 0, 1) := by decide +kernel
theorem dX5_init_5 : decode cX5_init 5 = .ok (.aload_n 1, 1) := by decide +kernel
theorem dX5_init_6 : decode cX5_init 6 = .ok (.putfield 9, 3) := by decide +kernel
theorem dX5_init_9 : decode cX5_init 9 = .ok (.aload_n 0, 1) := by decide +kernel
theorem dX5_init_10 : decode cX5_init 10 = .ok (.iconst 0, 1) := by decide +kernel
theorem dX5_init_11 : decode cX5_init 11 = .ok (.putfield 15, 3) := by decide +kernel
theorem dX5_init_14 : decode cX5_init 14 = .ok (.aload_n 0, 1) := by decide +kernel
theorem dX5_init_15 : decode cX5_init 15 = .ok (.iconst 0, 1) := by decide +kernel
theorem dX5_init_16 : decode cX5_init 16 = .ok (.putfield 19, 3) := by decide +kernel
theorem dX5_init_19 : decode cX5_init 19 = .ok (.return_, 1) := by decide +kernel
theorem dX5_open_0 : decode cX5_open 0 = .ok (.aload_n 0, 1) := by decide +kernel
theorem dX5_open_1 : decode cX5_open 1 = .ok (.iconst 0, 1) := by decide +kernel
theorem dX5_open_2 : decode cX5_open 2 = .ok (.iload_n 1, 1) := by decide +kernel
theorem dX5_open_3 : decode cX5_open 3 = .ok (.aload_n 0, 1) := by decide +kernel
theorem dX5_open_4 : decode cX5_open 4 = .ok (.getfield 9, 3) := by decide +kernel
theorem dX5_open_7 : decode cX5_open 7 = .ok (.getfield 22, 3) := by decide +kernel
theorem dX5_open_10 : decode cX5_open 10 = .ok (.invokestatic 27, 3) := by decide +kernel
theorem dX5_open_13 : decode cX5_open 13 = .ok (.invokestatic 33, 3) := by decide +kernel
theorem dX5_open_16 : decode cX5_open 16 = .ok (.putfield 15, 3) := by decide +kernel
theorem dX5_open_19 : decode cX5_open 19 = .ok (.aload_n 0, 1) := by decide +kernel
theorem dX5_open_20 : decode cX5_open 20 = .ok (.aload_n 0, 1) := by decide +kernel
theorem dX5_open_21 : decode cX5_open 21 = .ok (.getfield 15, 3) := by decide +kernel
theorem dX5_open_24 : decode cX5_open 24 = .ok (.iconst 0, 1) := by decide +kernel
theorem dX5_open_25 : decode cX5_open 25 = .ok (.iload_n 2, 1) := by decide +kernel
theorem dX5_open_26 : decode cX5_open 26 = .ok (.aload_n 0, 1) := by decide +kernel
theorem dX5_open_27 : decode cX5_open 27 = .ok (.getfield 9, 3) := by decide +kernel
theorem dX5_open_30 : decode cX5_open 30 = .ok (.getfield 22, 3) := by decide +kernel
theorem dX5_open_33 : decode cX5_open 33 = .ok (.aload_n 0, 1) := by decide +kernel
theorem dX5_open_34 : decode cX5_open 34 = .ok (.getfield 15, 3) := by decide +kernel
theorem dX5_open_37 : decode cX5_open 37 = .ok (.isub, 1) := by decide +kernel
theorem dX5_open_38 : decode cX5_open 38 = .ok (.invokestatic 27, 3) := by decide +kernel
theorem dX5_open_41 : decode cX5_open 41 = .ok (.invokestatic 33, 3) := by decide +kernel
theorem dX5_open_44 : decode cX5_open 44 = .ok (.iadd, 1) := by decide +kernel
theorem dX5_open_45 : decode cX5_open 45 = .ok (.putfield 19, 3) := by decide +kernel
theorem dX5_open_48 : decode cX5_open 48 = .ok (.return_, 1) := by decide +kernel
theorem dX5_place_0 : decode cX5_place 0 = .ok (.aload_n 0, 1) := by decide +kernel
theorem dX5_place_1 : decode cX5_place 1 = .ok (.getfield 15, 3) := by decide +kernel
theorem dX5_place_4 : decode cX5_place 4 = .ok (.ireturn, 1) := by decide +kernel
theorem dX5_left_0 : decode cX5_left 0 = .ok (.aload_n 0, 1) := by decide +kernel
theorem dX5_left_1 : decode cX5_left 1 = .ok (.getfield 19, 3) := by decide +kernel
theorem dX5_left_4 : decode cX5_left 4 = .ok (.aload_n 0, 1) := by decide +kernel
theorem dX5_left_5 : decode cX5_left 5 = .ok (.getfield 15, 3) := by decide +kernel
theorem dX5_left_8 : decode cX5_left 8 = .ok (.isub, 1) := by decide +kernel
theorem dX5_left_9 : decode cX5_left 9 = .ok (.ireturn, 1) := by decide +kernel
theorem dX5_nextByte_0 : decode cX5_nextByte 0 = .ok (.aload_n 0, 1) := by decide +kernel
theorem dX5_nextByte_1 : decode cX5_nextByte 1 = .ok (.getfield 15, 3) := by decide +kernel
theorem dX5_nextByte_4 : decode cX5_nextByte 4 = .ok (.ifCond .lt 29, 3) := by decide +kernel
theorem dX5_nextByte_7 : decode cX5_nextByte 7 = .ok (.aload_n 0, 1) := by decide +kernel
theorem dX5_nextByte_8 : decode cX5_nextByte 8 = .ok (.getfield 15, 3) := by decide +kernel
theorem dX5_nextByte_11 : decode cX5_nextByte 11 = .ok (.aload_n 0, 1) := by decide +kernel
theorem dX5_nextByte_12 : decode cX5_nextByte 12 = .ok (.getfield 19, 3) := by decide +kernel
theorem dX5_nextByte_15 : decode cX5_nextByte 15 = .ok (.if_icmp .ge 18, 3) := by decide +kernel
theorem dX5_nextByte_18 : decode cX5_nextByte 18 = .ok (.aload_n 0, 1) := by decide +kernel
theorem dX5_nextByte_19 : decode cX5_nextByte 19 = .ok (.getfield 15, 3) := by decide +kernel
theorem dX5_nextByte_22 : decode cX5_nextByte 22 = .ok (.aload_n 0, 1) := by decide +kernel
theorem dX5_nextByte_23 : decode cX5_nextByte 23 = .ok (.getfield 9, 3) := by decide +kernel
theorem dX5_nextByte_26 : decode cX5_nextByte 26 = .ok (.getfield 36, 3) := by decide +kernel
theorem dX5_nextByte_29 : decode cX5_nextByte 29 = .ok (.arraylength, 1) := by decide +kernel
theorem dX5_nextByte_30 : decode cX5_nextByte 30 = .ok (.if_icmp .lt 5, 3) := by decide +kernel
theorem dX5_nextByte_33 : decode cX5_nextByte 33 = .ok (.iconst (-1), 1) := by decide +kernel
theorem dX5_nextByte_34 : decode cX5_nextByte 34 = .ok (.ireturn, 1) := by decide +kernel
theorem dX5_nextByte_35 : decode cX5_nextByte 35 = .ok (.aload_n 0, 1) := by decide +kernel
theorem dX5_nextByte_36 : decode cX5_nextByte 36 = .ok (.getfield 9, 3) := by decide +kernel
theorem dX5_nextByte_39 : decode cX5_nextByte 39 = .ok (.getfield 36, 3) := by decide +kernel
theorem dX5_nextByte_42 : decode cX5_nextByte 42 = .ok (.aload_n 0, 1) := by decide +kernel
theorem dX5_nextByte_43 : decode cX5_nextByte 43 = .ok (.getfield 15, 3) := by decide +kernel
theorem dX5_nextByte_46 : decode cX5_nextByte 46 = .ok (.iaload, 1) := by decide +kernel
theorem dX5_nextByte_47 : decode cX5_nextByte 47 = .ok (.istore_n 1, 1) := by decide +kernel
theorem dX5_nextByte_48 : decode cX5_nextByte 48 = .ok (.aload_n 0, 1) := by decide +kernel
theorem dX5_nextByte_49 : decode cX5_nextByte 49 = .ok (.dup, 1) := by decide +kernel
theorem dX5_nextByte_50 : decode cX5_nextByte 50 = .ok (.getfield 15, 3) := by decide +kernel
theorem dX5_nextByte_53 : decode cX5_nextByte 53 = .ok (.iconst 1, 1) := by decide +kernel
theorem dX5_nextByte_54 : decode cX5_nextByte 54 = .ok (.iadd, 1) := by decide +kernel
theorem dX5_nextByte_55 : decode cX5_nextByte 55 = .ok (.putfield 15, 3) := by decide +kernel
theorem dX5_nextByte_58 : decode cX5_nextByte 58 = .ok (.iload_n 1, 1) := by decide +kernel
theorem dX5_nextByte_59 : decode cX5_nextByte 59 = .ok (.ireturn, 1) := by decide +kernel
set_option maxRecDepth 20000 in
theorem ggX5_nextInteger_X5_nextByte : GoodIn wsX5_nextInteger wsX5_nextByte := goodIn_r _ [7, 8, 9, 10, 11, 12, 13, 14, 15] (by decide +kernel) (by decide +kernel)
set_option maxRecDepth 20000 in
theorem gX5_nextInteger_X5_nextByte : GoodIn wsX5_nextInteger (wsV RX5 40 RX5 yX5_nextByte wsX5_nextByte) := goodIn_app (goodIn_of _ (by decide +kernel)) ggX5_nextInteger_X5_nextByte
theorem dX5_nextInteger_0 : decode cX5_nextInteger 0 = .ok (.lconst 0, 1) := by decide +kernel
theorem dX5_nextInteger_1 : decode cX5_nextInteger 1 = .ok (.lstore_n 1, 1) := by decide +kernel
theorem dX5_nextInteger_2 : decode cX5_nextInteger 2 = .ok (.iconst 0, 1) := by decide +kernel
theorem dX5_nextInteger_3 : decode cX5_nextInteger 3 = .ok (.istore_n 3, 1) := by decide +kernel
theorem dX5_nextInteger_4 : decode cX5_nextInteger 4 = .ok (.iload_n 3, 1) := by decide +kernel
theorem dX5_nextInteger_5 : decode cX5_nextInteger 5 = .ok (.iconst 5, 1) := by decide +kernel
theorem dX5_nextInteger_6 : decode cX5_nextInteger 6 = .ok (.if_icmp .ge 59, 3) := by decide +kernel
theorem dX5_nextInteger_9 : decode cX5_nextInteger 9 = .ok (.aload_n 0, 1) := by decide +kernel
theorem dX5_nextInteger_10 : decode cX5_nextInteger 10 = .ok (.invokevirtual 40, 3) := by decide +kernel
theorem dX5_nextInteger_13 : decode cX5_nextInteger 13 = .ok (.istore 4, 2) := by decide +kernel
theorem dX5_nextInteger_15 : decode cX5_nextInteger 15 = .ok (.iload 4, 2) := by decide +kernel
theorem dX5_nextInteger_17 : decode cX5_nextInteger 17 = .ok (.iconst (-1), 1) := by decide +kernel
theorem dX5_nextInteger_18 : decode cX5_nextInteger 18 = .ok (.if_icmp .ne 5, 3) := by decide +kernel
theorem dX5_nextInteger_21 : decode cX5_nextInteger 21 = .ok (.iconst (-1), 1) := by decide +kernel
theorem dX5_nextInteger_22 : decode cX5_nextInteger 22 = .ok (.ireturn, 1) := by decide +kernel
theorem dX5_nextInteger_23 : decode cX5_nextInteger 23 = .ok (.lload_n 1, 1) := by decide +kernel
theorem dX5_nextInteger_24 : decode cX5_nextInteger 24 = .ok (.ldc2_w 44, 3) := by decide +kernel
theorem dX5_nextInteger_27 : decode cX5_nextInteger 27 = .ok (.lmul, 1) := by decide +kernel
theorem dX5_nextInteger_28 : decode cX5_nextInteger 28 = .ok (.iload 4, 2) := by decide +kernel
theorem dX5_nextInteger_30 : decode cX5_nextInteger 30 = .ok (.bipush 127, 2) := by decide +kernel
theorem dX5_nextInteger_32 : decode cX5_nextInteger 32 = .ok (.iand, 1) := by decide +kernel
theorem dX5_nextInteger_33 : decode cX5_nextInteger 33 = .ok (.i2l, 1) := by decide +kernel
theorem dX5_nextInteger_34 : decode cX5_nextInteger 34 = .ok (.ladd, 1) := by decide +kernel
theorem dX5_nextInteger_35 : decode cX5_nextInteger 35 = .ok (.lstore_n 1, 1) := by decide +kernel
theorem dX5_nextInteger_36 : decode cX5_nextInteger 36 = .ok (.iload 4, 2) := by decide +kernel
theorem dX5_nextInteger_38 : decode cX5_nextInteger 38 = .ok (.sipush 128, 3) := by decide +kernel
theorem dX5_nextInteger_41 : decode cX5_nextInteger 41 = .ok (.if_icmp .ge 18, 3) := by decide +kernel
theorem dX5_nextInteger_44 : decode cX5_nextInteger 44 = .ok (.lload_n 1, 1) := by decide +kernel
theorem dX5_nextInteger_45 : decode cX5_nextInteger 45 = .ok (.ldc2_w 46, 3) := by decide +kernel
theorem dX5_nextInteger_48 : decode cX5_nextInteger 48 = .ok (.lcmp, 1) := by decide +kernel
theorem dX5_nextInteger_49 : decode cX5_nextInteger 49 = .ok (.ifCond .le 7, 3) := by decide +kernel
theorem dX5_nextInteger_52 : decode cX5_nextInteger 52 = .ok (.iconst (-1), 1) := by decide +kernel
theorem dX5_nextInteger_53 : decode cX5_nextInteger 53 = .ok (.goto 5, 3) := by decide +kernel
theorem dX5_nextInteger_56 : decode cX5_nextInteger 56 = .ok (.lload_n 1, 1) := by decide +kernel
theorem dX5_nextInteger_57 : decode cX5_nextInteger 57 = .ok (.l2i, 1) := by decide +kernel
theorem dX5_nextInteger_58 : decode cX5_nextInteger 58 = .ok (.ireturn, 1) := by decide +kernel
theorem dX5_nextInteger_59 : decode cX5_nextInteger 59 = .ok (.iinc 3 1, 3) := by decide +kernel
theorem dX5_nextInteger_62 : decode cX5_nextInteger 62 = .ok (.goto (-58), 3) := by decide +kernel
theorem dX5_nextInteger_65 : decode cX5_nextInteger 65 = .ok (.iconst (-1), 1) := by decide +kernel
theorem dX5_nextInteger_66 : decode cX5_nextInteger 66 = .ok (.ireturn, 1) := by decide +kernel
theorem dX6_init_0 : decode cX6_init 0 = .ok (.aload_n 0, 1) := by decide +kernel
theorem dX6_init_1 : decode cX6_init 1 = .ok (.invokespecial 3, 3) := by decide +kernel
theorem dX6_init_4 : decode cX6_init 4 = .ok (.aload_n 0, 1) := by decide +kernel
theorem dX6_init_5 : decode cX6_init 5 = .ok (.iload_n 1, 1) := by decide +kernel
theorem dX6_init_6 : decode cX6_init 6 = .ok (.newarray .int, 2) := by decide +kernel
theorem dX6_init_8 : decode cX6_init 8 = .ok (.putfield 9, 3) := by decide +kernel
theorem dX6_init_11 : decode cX6_init 11 = .ok (.aload_n 0, 1) := by decide +kernel
theorem dX6_init_12 : decode cX6_init 12 = .ok (.iconst 0, 1) := by decide +kernel
theorem dX6_init_13 : decode cX6_init 13 = .ok (.putfield 15, 3) := by decide +kernel
theorem dX6_init_16 : decode cX6_init 16 = .ok (.return_, 1) := by decide +kernel
theorem dX6_count_0 : decode cX6_count 0 = .ok (.aload_n 0, 1) := by decide +kernel
theorem dX6_count_1 : decode cX6_count 1 = .ok (.getfield 15, 3) := by decide +kernel
theorem dX6_count_4 : decode cX6_count 4 = .ok (.ireturn, 1) := by decide +kernel
theorem dX6_room_0 : decode cX6_room 0 = .ok (.aload_n 0, 1) := by decide +kernel
theorem dX6_room_1 : decode cX6_room 1 = .ok (.getfield 9, 3) := by decide +kernel
theorem dX6_room_4 : decode cX6_room 4 = .ok (.arraylength, 1) := by decide +kernel
theorem dX6_room_5 : decode cX6_room 5 = .ok (.aload_n 0, 1) := by decide +kernel
theorem dX6_room_6 : decode cX6_room 6 = .ok (.getfield 15, 3) := by decide +kernel
theorem dX6_room_9 : decode cX6_room 9 = .ok (.isub, 1) := by decide +kernel
theorem dX6_room_10 : decode cX6_room 10 = .ok (.ireturn, 1) := by decide +kernel
theorem dX6_at_0 : decode cX6_at 0 = .ok (.iload_n 1, 1) := by decide +kernel
theorem dX6_at_1 : decode cX6_at 1 = .ok (.ifCond .lt 20, 3) := by decide +kernel
theorem dX6_at_4 : decode cX6_at 4 = .ok (.iload_n 1, 1) := by decide +kernel
theorem dX6_at_5 : decode cX6_at 5 = .ok (.aload_n 0, 1) := by decide +kernel
theorem dX6_at_6 : decode cX6_at 6 = .ok (.getfield 15, 3) := by decide +kernel
theorem dX6_at_9 : decode cX6_at 9 = .ok (.if_icmp .ge 12, 3) := by decide +kernel
theorem dX6_at_12 : decode cX6_at 12 = .ok (.aload_n 0, 1) := by decide +kernel
theorem dX6_at_13 : decode cX6_at 13 = .ok (.getfield 9, 3) := by decide +kernel
theorem dX6_at_16 : decode cX6_at 16 = .ok (.iload_n 1, 1) := by decide +kernel
theorem dX6_at_17 : decode cX6_at 17 = .ok (.iaload, 1) := by decide +kernel
theorem dX6_at_18 : decode cX6_at 18 = .ok (.goto 4, 3) := by decide +kernel
theorem dX6_at_21 : decode cX6_at 21 = .ok (.iconst (-1), 1) := by decide +kernel
theorem dX6_at_22 : decode cX6_at 22 = .ok (.ireturn, 1) := by decide +kernel
theorem dX6_replace_0 : decode cX6_replace 0 = .ok (.iload_n 1, 1) := by decide +kernel
theorem dX6_replace_1 : decode cX6_replace 1 = .ok (.ifCond .lt 18, 3) := by decide +kernel
theorem dX6_replace_4 : decode cX6_replace 4 = .ok (.iload_n 1, 1) := by decide +kernel
theorem dX6_replace_5 : decode cX6_replace 5 = .ok (.aload_n 0, 1) := by decide +kernel
