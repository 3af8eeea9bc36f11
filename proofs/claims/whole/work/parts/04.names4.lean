theorem dX6_replace_6 : decode cX6_replace 6 = .ok (.getfield 15, 3) := by decide +kernel
theorem dX6_replace_9 : decode cX6_replace 9 = .ok (.if_icmp .ge 10, 3) := by decide +kernel
theorem dX6_replace_12 : decode cX6_replace 12 = .ok (.aload_n 0, 1) := by decide +kernel
theorem dX6_replace_13 : decode cX6_replace 13 = .ok (.getfield 9, 3) := by decide +kernel
theorem dX6_replace_16 : decode cX6_replace 16 = .ok (.iload_n 1, 1) := by decide +kernel
theorem dX6_replace_17 : decode cX6_replace 17 = .ok (.iload_n 2, 1) := by decide +kernel
theorem dX6_replace_18 : decode cX6_replace 18 = .ok (.iastore, 1) := by decide +kernel
theorem dX6_replace_19 : decode cX6_replace 19 = .ok (.return_, 1) := by decide +kernel
theorem dX6_keep_0 : decode cX6_keep 0 = .ok (.iload_n 1, 1) := by decide +kernel
theorem dX6_keep_1 : decode cX6_keep 1 = .ok (.ifCond .lt 16, 3) := by decide +kernel
theorem dX6_keep_4 : decode cX6_keep 4 = .ok (.iload_n 1, 1) := by decide +kernel
theorem dX6_keep_5 : decode cX6_keep 5 = .ok (.aload_n 0, 1) := by decide +kernel
theorem dX6_keep_6 : decode cX6_keep 6 = .ok (.getfield 15, 3) := by decide +kernel
theorem dX6_keep_9 : decode cX6_keep 9 = .ok (.if_icmp .ge 8, 3) := by decide +kernel
theorem dX6_keep_12 : decode cX6_keep 12 = .ok (.aload_n 0, 1) := by decide +kernel
theorem dX6_keep_13 : decode cX6_keep 13 = .ok (.iload_n 1, 1) := by decide +kernel
theorem dX6_keep_14 : decode cX6_keep 14 = .ok (.putfield 15, 3) := by decide +kernel
theorem dX6_keep_17 : decode cX6_keep 17 = .ok (.return_, 1) := by decide +kernel
theorem dX6_append_0 : decode cX6_append 0 = .ok (.aload_n 0, 1) := by decide +kernel
theorem dX6_append_1 : decode cX6_append 1 = .ok (.getfield 15, 3) := by decide +kernel
theorem dX6_append_4 : decode cX6_append 4 = .ok (.aload_n 0, 1) := by decide +kernel
theorem dX6_append_5 : decode cX6_append 5 = .ok (.getfield 9, 3) := by decide +kernel
theorem dX6_append_8 : decode cX6_append 8 = .ok (.arraylength, 1) := by decide +kernel
theorem dX6_append_9 : decode cX6_append 9 = .ok (.if_icmp .ge 23, 3) := by decide +kernel
theorem dX6_append_12 : decode cX6_append 12 = .ok (.aload_n 0, 1) := by decide +kernel
theorem dX6_append_13 : decode cX6_append 13 = .ok (.getfield 9, 3) := by decide +kernel
theorem dX6_append_16 : decode cX6_append 16 = .ok (.aload_n 0, 1) := by decide +kernel
theorem dX6_append_17 : decode cX6_append 17 = .ok (.getfield 15, 3) := by decide +kernel
theorem dX6_append_20 : decode cX6_append 20 = .ok (.iload_n 1, 1) := by decide +kernel
theorem dX6_append_21 : decode cX6_append 21 = .ok (.iastore, 1) := by decide +kernel
theorem dX6_append_22 : decode cX6_append 22 = .ok (.aload_n 0, 1) := by decide +kernel
theorem dX6_append_23 : decode cX6_append 23 = .ok (.dup, 1) := by decide +kernel
theorem dX6_append_24 : decode cX6_append 24 = .ok (.getfield 15, 3) := by decide +kernel
theorem dX6_append_27 : decode cX6_append 27 = .ok (.iconst 1, 1) := by decide +kernel
theorem dX6_append_28 : decode cX6_append 28 = .ok (.iadd, 1) := by decide +kernel
theorem dX6_append_29 : decode cX6_append 29 = .ok (.putfield 15, 3) := by decide +kernel
theorem dX6_append_32 : decode cX6_append 32 = .ok (.return_, 1) := by decide +kernel
set_option maxRecDepth 20000 in
theorem ggX6_appendRow_X6_append : GoodIn wsX6_appendRow wsX6_append := goodIn_r _ [7, 1, 2, 8, 9] (by decide +kernel) (by decide +kernel)
set_option maxRecDepth 20000 in
theorem gX6_appendRow_X6_append : GoodIn wsX6_appendRow (wsV RX6 19 RX6 yX6_append wsX6_append) := goodIn_app (goodIn_of _ (by decide +kernel)) ggX6_appendRow_X6_append
theorem dX6_appendRow_0 : decode cX6_appendRow 0 = .ok (.iconst 0, 1) := by decide +kernel
theorem dX6_appendRow_1 : decode cX6_appendRow 1 = .ok (.istore_n 2, 1) := by decide +kernel
theorem dX6_appendRow_2 : decode cX6_appendRow 2 = .ok (.iload_n 2, 1) := by decide +kernel
theorem dX6_appendRow_3 : decode cX6_appendRow 3 = .ok (.aload_n 1, 1) := by decide +kernel
theorem dX6_appendRow_4 : decode cX6_appendRow 4 = .ok (.getfield 15, 3) := by decide +kernel
theorem dX6_appendRow_7 : decode cX6_appendRow 7 = .ok (.if_icmp .ge 19, 3) := by decide +kernel
theorem dX6_appendRow_10 : decode cX6_appendRow 10 = .ok (.aload_n 0, 1) := by decide +kernel
theorem dX6_appendRow_11 : decode cX6_appendRow 11 = .ok (.aload_n 1, 1) := by decide +kernel
theorem dX6_appendRow_12 : decode cX6_appendRow 12 = .ok (.getfield 9, 3) := by decide +kernel
theorem dX6_appendRow_15 : decode cX6_appendRow 15 = .ok (.iload_n 2, 1) := by decide +kernel
theorem dX6_appendRow_16 : decode cX6_appendRow 16 = .ok (.iaload, 1) := by decide +kernel
theorem dX6_appendRow_17 : decode cX6_appendRow 17 = .ok (.invokevirtual 19, 3) := by decide +kernel
theorem dX6_appendRow_20 : decode cX6_appendRow 20 = .ok (.iinc 2 1, 3) := by decide +kernel
theorem dX6_appendRow_23 : decode cX6_appendRow 23 = .ok (.goto (-21), 3) := by decide +kernel
theorem dX6_appendRow_26 : decode cX6_appendRow 26 = .ok (.return_, 1) := by decide +kernel
set_option maxRecDepth 20000 in
theorem ggX6_appendInteger_X6_append : GoodIn wsX6_appendInteger wsX6_append := goodIn_r _ [5, 6, 7, 8, 9] (by decide +kernel) (by decide +kernel)
set_option maxRecDepth 20000 in
theorem gX6_appendInteger_X6_append : GoodIn wsX6_appendInteger (wsV RX6 19 RX6 yX6_append wsX6_append) := goodIn_app (goodIn_of _ (by decide +kernel)) ggX6_appendInteger_X6_append
theorem dX6_appendInteger_0 : decode cX6_appendInteger 0 = .ok (.bipush 28, 2) := by decide +kernel
theorem dX6_appendInteger_2 : decode cX6_appendInteger 2 = .ok (.istore_n 2, 1) := by decide +kernel
theorem dX6_appendInteger_3 : decode cX6_appendInteger 3 = .ok (.iload_n 2, 1) := by decide +kernel
theorem dX6_appendInteger_4 : decode cX6_appendInteger 4 = .ok (.ifCond .le 29, 3) := by decide +kernel
theorem dX6_appendInteger_7 : decode cX6_appendInteger 7 = .ok (.iload_n 1, 1) := by decide +kernel
theorem dX6_appendInteger_8 : decode cX6_appendInteger 8 = .ok (.iload_n 2, 1) := by decide +kernel
theorem dX6_appendInteger_9 : decode cX6_appendInteger 9 = .ok (.ishr, 1) := by decide +kernel
theorem dX6_appendInteger_10 : decode cX6_appendInteger 10 = .ok (.istore_n 3, 1) := by decide +kernel
theorem dX6_appendInteger_11 : decode cX6_appendInteger 11 = .ok (.iload_n 3, 1) := by decide +kernel
theorem dX6_appendInteger_12 : decode cX6_appendInteger 12 = .ok (.ifCond .le 15, 3) := by decide +kernel
theorem dX6_appendInteger_15 : decode cX6_appendInteger 15 = .ok (.aload_n 0, 1) := by decide +kernel
theorem dX6_appendInteger_16 : decode cX6_appendInteger 16 = .ok (.sipush 128, 3) := by decide +kernel
theorem dX6_appendInteger_19 : decode cX6_appendInteger 19 = .ok (.iload_n 3, 1) := by decide +kernel
theorem dX6_appendInteger_20 : decode cX6_appendInteger 20 = .ok (.bipush 127, 2) := by decide +kernel
theorem dX6_appendInteger_22 : decode cX6_appendInteger 22 = .ok (.iand, 1) := by decide +kernel
theorem dX6_appendInteger_23 : decode cX6_appendInteger 23 = .ok (.iadd, 1) := by decide +kernel
theorem dX6_appendInteger_24 : decode cX6_appendInteger 24 = .ok (.invokevirtual 19, 3) := by decide +kernel
theorem dX6_appendInteger_27 : decode cX6_appendInteger 27 = .ok (.iinc 2 (-7), 3) := by decide +kernel
theorem dX6_appendInteger_30 : decode cX6_appendInteger 30 = .ok (.goto (-27), 3) := by decide +kernel
theorem dX6_appendInteger_33 : decode cX6_appendInteger 33 = .ok (.aload_n 0, 1) := by decide +kernel
theorem dX6_appendInteger_34 : decode cX6_appendInteger 34 = .ok (.iload_n 1, 1) := by decide +kernel
theorem dX6_appendInteger_35 : decode cX6_appendInteger 35 = .ok (.bipush 127, 2) := by decide +kernel
theorem dX6_appendInteger_37 : decode cX6_appendInteger 37 = .ok (.iand, 1) := by decide +kernel
theorem dX6_appendInteger_38 : decode cX6_appendInteger 38 = .ok (.invokevirtual 19, 3) := by decide +kernel
theorem dX6_appendInteger_41 : decode cX6_appendInteger 41 = .ok (.return_, 1) := by decide +kernel
set_option maxRecDepth 20000 in
theorem ggX6_become_X6_appendRow : GoodIn wsX6_become wsX6_appendRow := goodIn_r _ [6, 1, 7, 8, 9, 10, 5, 11, 12, 13] (by decide +kernel) (by decide +kernel)
set_option maxRecDepth 20000 in
theorem gX6_become_X6_appendRow : GoodIn wsX6_become (wsV RX6 23 RX6 yX6_appendRow wsX6_appendRow) := goodIn_app (goodIn_of _ (by decide +kernel)) ggX6_become_X6_appendRow
theorem dX6_become_0 : decode cX6_become 0 = .ok (.aload_n 0, 1) := by decide +kernel
theorem dX6_become_1 : decode cX6_become 1 = .ok (.iconst 0, 1) := by decide +kernel
theorem dX6_become_2 : decode cX6_become 2 = .ok (.putfield 15, 3) := by decide +kernel
theorem dX6_become_5 : decode cX6_become 5 = .ok (.aload_n 0, 1) := by decide +kernel
theorem dX6_become_6 : decode cX6_become 6 = .ok (.aload_n 1, 1) := by decide +kernel
theorem dX6_become_7 : decode cX6_become 7 = .ok (.invokevirtual 23, 3) := by decide +kernel
theorem dX6_become_10 : decode cX6_become 10 = .ok (.return_, 1) := by decide +kernel
set_option maxRecDepth 20000 in
theorem ggX7_init_X6_init : GoodIn wsX7_init wsX6_init := goodIn_r _ [26, 27, 2, 3, 28, 29, 30, 100, 101] (by decide +kernel) (by decide +kernel)
set_option maxRecDepth 20000 in
theorem gX7_init_X6_init : GoodIn wsX7_init (wsX6_init) := ggX7_init_X6_init
set_option maxRecDepth 20000 in
theorem ggX7_init_X3_init : GoodIn wsX7_init wsX3_init := goodIn_r _ [33, 34, 2, 3, 35, 36, 37, 38, 20, 21, 39, 40, 41, 42, 43, 44, 5, 6, 45, 46, 47, 48, 49, 50, 51, 52, 53, 54, 55, 28, 56, 57, 58, 59, 60, 61, 62, 63, 64, 65, 66, 67, 25, 26, 27, 29, 30, 110, 111, 112, 113, 114, 115, 116, 117, 118, 119, 120, 121, 135, 136, 137, 138, 139, 140, 141, 100, 101] (by decide +kernel) (by decide +kernel)
set_option maxRecDepth 20000 in
theorem gX7_init_X3_init : GoodIn wsX7_init (wsX3_init) := ggX7_init_X3_init
set_option maxRecDepth 20000 in
theorem ggX7_init_X2_init : GoodIn wsX7_init wsX2_init := goodIn_r _ [70, 71, 2, 3, 72, 73, 5, 6, 74, 75, 20, 21, 76, 77, 78, 79, 80, 81, 82, 83, 84, 85, 86, 87, 88, 89, 90, 25, 26, 27, 28, 29, 30, 91, 53, 54, 55, 56, 57, 58, 92, 93, 94, 95, 96, 97, 98, 122, 123, 124, 125, 126, 127, 128, 129, 130, 131, 132, 133, 134, 100, 101, 135, 136, 137, 142, 143, 144] (by decide +kernel) (by decide +kernel)
set_option maxRecDepth 20000 in
theorem gX7_init_X2_init : GoodIn wsX7_init (wsX2_init) := ggX7_init_X2_init
set_option maxRecDepth 20000 in
theorem ggX7_init_X0_init : GoodIn wsX7_init wsX0_init := goodIn_r _ [54, 55, 2, 3, 28, 56, 57, 58, 135, 136, 137] (by decide +kernel) (by decide +kernel)
set_option maxRecDepth 20000 in
theorem gX7_init_X0_init : GoodIn wsX7_init (wsX0_init) := ggX7_init_X0_init
theorem dX7_init_0 : decode cX7_init 0 = .ok (.aload_n 0, 1) := by decide +kernel
theorem dX7_init_1 : decode cX7_init 1 = .ok (.invokespecial 1, 3) := by decide +kernel
theorem dX7_init_4 : decode cX7_init 4 = .ok (.aload_n 0, 1) := by decide +kernel
theorem dX7_init_5 : decode cX7_init 5 = .ok (.new 7, 3) := by decide +kernel
theorem dX7_init_8 : decode cX7_init 8 = .ok (.dup, 1) := by decide +kernel
theorem dX7_init_9 : decode cX7_init 9 = .ok (.bipush 48, 2) := by decide +kernel
theorem dX7_init_11 : decode cX7_init 11 = .ok (.invokespecial 11, 3) := by decide +kernel
theorem dX7_init_14 : decode cX7_init 14 = .ok (.putfield 14, 3) := by decide +kernel
theorem dX7_init_17 : decode cX7_init 17 = .ok (.aload_n 0, 1) := by decide +kernel
theorem dX7_init_18 : decode cX7_init 18 = .ok (.new 7, 3) := by decide +kernel
theorem dX7_init_21 : decode cX7_init 21 = .ok (.dup, 1) := by decide +kernel
theorem dX7_init_22 : decode cX7_init 22 = .ok (.bipush 64, 2) := by decide +kernel
theorem dX7_init_24 : decode cX7_init 24 = .ok (.invokespecial 11, 3) := by decide +kernel
theorem dX7_init_27 : decode cX7_init 27 = .ok (.putfield 18, 3) := by decide +kernel
theorem dX7_init_30 : decode cX7_init 30 = .ok (.aload_n 0, 1) := by decide +kernel
theorem dX7_init_31 : decode cX7_init 31 = .ok (.new 7, 3) := by decide +kernel
theorem dX7_init_34 : decode cX7_init 34 = .ok (.dup, 1) := by decide +kernel
theorem dX7_init_35 : decode cX7_init 35 = .ok (.sipush 1000, 3) := by decide +kernel
theorem dX7_init_38 : decode cX7_init 38 = .ok (.invokespecial 11, 3) := by decide +kernel
theorem dX7_init_41 : decode cX7_init 41 = .ok (.putfield 21, 3) := by decide +kernel
theorem dX7_init_44 : decode cX7_init 44 = .ok (.aload_n 0, 1) := by decide +kernel
theorem dX7_init_45 : decode cX7_init 45 = .ok (.new 7, 3) := by decide +kernel
theorem dX7_init_48 : decode cX7_init 48 = .ok (.dup, 1) := by decide +kernel
theorem dX7_init_49 : decode cX7_init 49 = .ok (.sipush 400, 3) := by decide +kernel
theorem dX7_init_52 : decode cX7_init 52 = .ok (.invokespecial 11, 3) := by decide +kernel
theorem dX7_init_55 : decode cX7_init 55 = .ok (.putfield 24, 3) := by decide +kernel
theorem dX7_init_58 : decode cX7_init 58 = .ok (.aload_n 0, 1) := by decide +kernel
theorem dX7_init_59 : decode cX7_init 59 = .ok (.new 27, 3) := by decide +kernel
theorem dX7_init_62 : decode cX7_init 62 = .ok (.dup, 1) := by decide +kernel
theorem dX7_init_63 : decode cX7_init 63 = .ok (.aload_n 0, 1) := by decide +kernel
theorem dX7_init_64 : decode cX7_init 64 = .ok (.getfield 14, 3) := by decide +kernel
theorem dX7_init_67 : decode cX7_init 67 = .ok (.aload_n 0, 1) := by decide +kernel
theorem dX7_init_68 : decode cX7_init 68 = .ok (.getfield 18, 3) := by decide +kernel
theorem dX7_init_71 : decode cX7_init 71 = .ok (.aload_n 0, 1) := by decide +kernel
theorem dX7_init_72 : decode cX7_init 72 = .ok (.getfield 21, 3) := by decide +kernel
theorem dX7_init_75 : decode cX7_init 75 = .ok (.invokespecial 29, 3) := by decide +kernel
theorem dX7_init_78 : decode cX7_init 78 = .ok (.putfield 32, 3) := by decide +kernel
theorem dX7_init_81 : decode cX7_init 81 = .ok (.aload_n 0, 1) := by decide +kernel
theorem dX7_init_82 : decode cX7_init 82 = .ok (.new 36, 3) := by decide +kernel
theorem dX7_init_85 : decode cX7_init 85 = .ok (.dup, 1) := by decide +kernel
theorem dX7_init_86 : decode cX7_init 86 = .ok (.aload_n 0, 1) := by decide +kernel
theorem dX7_init_87 : decode cX7_init 87 = .ok (.getfield 14, 3) := by decide +kernel
theorem dX7_init_90 : decode cX7_init 90 = .ok (.aload_n 0, 1) := by decide +kernel
theorem dX7_init_91 : decode cX7_init 91 = .ok (.getfield 21, 3) := by decide +kernel
theorem dX7_init_94 : decode cX7_init 94 = .ok (.invokespecial 38, 3) := by decide +kernel
theorem dX7_init_97 : decode cX7_init 97 = .ok (.putfield 41, 3) := by decide +kernel
theorem dX7_init_100 : decode cX7_init 100 = .ok (.aload_n 0, 1) := by decide +kernel
theorem dX7_init_101 : decode cX7_init 101 = .ok (.new 45, 3) := by decide +kernel
theorem dX7_init_104 : decode cX7_init 104 = .ok (.dup, 1) := by decide +kernel
theorem dX7_init_105 : decode cX7_init 105 = .ok (.invokespecial 47, 3) := by decide +kernel
theorem dX7_init_108 : decode cX7_init 108 = .ok (.putfield 48, 3) := by decide +kernel
theorem dX7_init_111 : decode cX7_init 111 = .ok (.aload_n 0, 1) := by decide +kernel
theorem dX7_init_112 : decode cX7_init 112 = .ok (.iconst 0, 1) := by decide +kernel
theorem dX7_init_113 : decode cX7_init 113 = .ok (.putfield 52, 3) := by decide +kernel
theorem dX7_init_116 : decode cX7_init 116 = .ok (.return_, 1) := by decide +kernel
set_option maxRecDepth 20000 in
theorem ggX7_put_X7_inputRow : GoodIn wsX7_put wsX7_inputRow := goodIn_r _ [5, 6, 7, 8, 4, 9, 10, 11, 12, 13, 28, 29, 30, 31, 32, 33, 34, 35] (by decide +kernel) (by decide +kernel)
set_option maxRecDepth 20000 in
theorem gX7_put_X7_inputRow : GoodIn wsX7_put (wsV RX7 56 RX7 yX7_inputRow wsX7_inputRow) := goodIn_app (goodIn_of _ (by decide +kernel)) ggX7_put_X7_inputRow
set_option maxRecDepth 20000 in
theorem ggX7_put_X7_isByte : GoodIn wsX7_put wsX7_isByte := goodIn_r _ [16] (by decide +kernel) (by decide +kernel)
set_option maxRecDepth 20000 in
theorem gX7_put_X7_isByte : GoodIn wsX7_put (va_wsS RX7 60 yX7_isByte wsX7_isByte) := goodIn_app (goodIn_of _ (by decide +kernel)) ggX7_put_X7_isByte
set_option maxRecDepth 20000 in
theorem ggX7_put_X6_room : GoodIn wsX7_put wsX6_room := goodIn_r _ [21, 22, 23, 36, 37] (by decide +kernel) (by decide +kernel)
set_option maxRecDepth 20000 in
theorem gX7_put_X6_room : GoodIn wsX7_put (wsV RX7 64 RX6 yX6_room wsX6_room) := goodIn_app (goodIn_of _ (by decide +kernel)) ggX7_put_X6_room
set_option maxRecDepth 20000 in
theorem ggX7_put_X6_append : GoodIn wsX7_put wsX6_append := goodIn_r _ [27, 23, 22, 36, 37] (by decide +kernel) (by decide +kernel)
set_option maxRecDepth 20000 in
theorem gX7_put_X6_append : GoodIn wsX7_put (wsV RX7 68 RX6 yX6_append wsX6_append) := goodIn_app (goodIn_of _ (by decide +kernel)) ggX7_put_X6_append
theorem dX7_put_0 : decode cX7_put 0 = .ok (.aload_n 0, 1) := by decide +kernel
theorem dX7_put_1 : decode cX7_put 1 = .ok (.iload_n 1, 1) := by decide +kernel
theorem dX7_put_2 : decode cX7_put 2 = .ok (.invokevirtual 56, 3) := by decide +kernel
theorem dX7_put_5 : decode cX7_put 5 = .ok (.astore 4, 2) := by decide +kernel
theorem dX7_put_7 : decode cX7_put 7 = .ok (.aload 4, 2) := by decide +kernel
theorem dX7_put_9 : decode cX7_put 9 = .ok (.ifnull 30, 3) := by decide +kernel
theorem dX7_put_12 : decode cX7_put 12 = .ok (.iload_n 2, 1) := by decide +kernel
theorem dX7_put_13 : decode cX7_put 13 = .ok (.invokestatic 60, 3) := by decide +kernel
theorem dX7_put_16 : decode cX7_put 16 = .ok (.ifCond .eq 23, 3) := by decide +kernel
theorem dX7_put_19 : decode cX7_put 19 = .ok (.iload_n 3, 1) := by decide +kernel
theorem dX7_put_20 : decode cX7_put 20 = .ok (.iconst 1, 1) := by decide +kernel
theorem dX7_put_21 : decode cX7_put 21 = .ok (.if_icmp .lt 18, 3) := by decide +kernel
theorem dX7_put_24 : decode cX7_put 24 = .ok (.iload_n 3, 1) := by decide +kernel
theorem dX7_put_25 : decode cX7_put 25 = .ok (.bipush 16, 2) := by decide +kernel
theorem dX7_put_27 : decode cX7_put 27 = .ok (.if_icmp .gt 12, 3) := by decide +kernel
theorem dX7_put_30 : decode cX7_put 30 = .ok (.iload_n 3, 1) := by decide +kernel
theorem dX7_put_31 : decode cX7_put 31 = .ok (.aload 4, 2) := by decide +kernel
theorem dX7_put_33 : decode cX7_put 33 = .ok (.invokevirtual 64, 3) := by decide +kernel
theorem dX7_put_36 : decode cX7_put 36 = .ok (.if_icmp .le 5, 3) := by decide +kernel
theorem dX7_put_39 : decode cX7_put 39 = .ok (.iconst 0, 1) := by decide +kernel
theorem dX7_put_40 : decode cX7_put 40 = .ok (.ireturn, 1) := by decide +kernel
theorem dX7_put_41 : decode cX7_put 41 = .ok (.iconst 0, 1) := by decide +kernel
theorem dX7_put_42 : decode cX7_put 42 = .ok (.istore 5, 2) := by decide +kernel
theorem dX7_put_44 : decode cX7_put 44 = .ok (.iload 5, 2) := by decide +kernel
theorem dX7_put_46 : decode cX7_put 46 = .ok (.iload_n 3, 1) := by decide +kernel
theorem dX7_put_47 : decode cX7_put 47 = .ok (.if_icmp .ge 15, 3) := by decide +kernel
theorem dX7_put_50 : decode cX7_put 50 = .ok (.aload 4, 2) := by decide +kernel
theorem dX7_put_52 : decode cX7_put 52 = .ok (.iload_n 2, 1) := by decide +kernel
theorem dX7_put_53 : decode cX7_put 53 = .ok (.invokevirtual 68, 3) := by decide +kernel
theorem dX7_put_56 : decode cX7_put 56 = .ok (.iinc 5 1, 3) := by decide +kernel
theorem dX7_put_59 : decode cX7_put 59 = .ok (.goto (-15), 3) := by decide +kernel
theorem dX7_put_62 : decode cX7_put 62 = .ok (.iconst 1, 1) := by decide +kernel
theorem dX7_put_63 : decode cX7_put 63 = .ok (.ireturn, 1) := by decide +kernel
set_option maxRecDepth 20000 in
theorem ggX7_cut_X7_inputRow : GoodIn wsX7_cut wsX7_inputRow := goodIn_r _ [5, 6, 7, 8, 4, 9, 10, 11, 12, 13, 24, 25, 26, 27, 28, 29, 30, 31] (by decide +kernel) (by decide +kernel)
set_option maxRecDepth 20000 in
theorem gX7_cut_X7_inputRow : GoodIn wsX7_cut (wsV RX7 56 RX7 yX7_inputRow wsX7_inputRow) := goodIn_app (goodIn_of _ (by decide +kernel)) ggX7_cut_X7_inputRow
set_option maxRecDepth 20000 in
theorem ggX7_cut_X6_count : GoodIn wsX7_cut wsX6_count := goodIn_r _ [18, 19, 32, 33] (by decide +kernel) (by decide +kernel)
set_option maxRecDepth 20000 in
theorem gX7_cut_X6_count : GoodIn wsX7_cut (wsV RX7 71 RX6 yX6_count wsX6_count) := goodIn_app (goodIn_of _ (by decide +kernel)) ggX7_cut_X6_count
set_option maxRecDepth 20000 in
theorem ggX7_cut_X6_keep : GoodIn wsX7_cut wsX6_keep := goodIn_r _ [23, 19, 32, 33] (by decide +kernel) (by decide +kernel)
set_option maxRecDepth 20000 in
theorem gX7_cut_X6_keep : GoodIn wsX7_cut (wsV RX7 74 RX6 yX6_keep wsX6_keep) := goodIn_app (goodIn_of _ (by decide +kernel)) ggX7_cut_X6_keep
theorem dX7_cut_0 : decode cX7_cut 0 = .ok (.aload_n 0, 1) := by decide +kernel
theorem dX7_cut_1 : decode cX7_cut 1 = .ok (.iload_n 1, 1) := by decide +kernel
theorem dX7_cut_2 : decode cX7_cut 2 = .ok (.invokevirtual 56, 3) := by decide +kernel
theorem dX7_cut_5 : decode cX7_cut 5 = .ok (.astore_n 3, 1) := by decide +kernel
theorem dX7_cut_6 : decode cX7_cut 6 = .ok (.aload_n 3, 1) := by decide +kernel
theorem dX7_cut_7 : decode cX7_cut 7 = .ok (.ifnull 15, 3) := by decide +kernel
theorem dX7_cut_10 : decode cX7_cut 10 = .ok (.iload_n 2, 1) := by decide +kernel
theorem dX7_cut_11 : decode cX7_cut 11 = .ok (.ifCond .lt 11, 3) := by decide +kernel
theorem dX7_cut_14 : decode cX7_cut 14 = .ok (.iload_n 2, 1) := by decide +kernel
theorem dX7_cut_15 : decode cX7_cut 15 = .ok (.aload_n 3, 1) := by decide +kernel
theorem dX7_cut_16 : decode cX7_cut 16 = .ok (.invokevirtual 71, 3) := by decide +kernel
theorem dX7_cut_19 : decode cX7_cut 19 = .ok (.if_icmp .le 5, 3) := by decide +kernel
theorem dX7_cut_22 : decode cX7_cut 22 = .ok (.iconst 0, 1) := by decide +kernel
theorem dX7_cut_23 : decode cX7_cut 23 = .ok (.ireturn, 1) := by decide +kernel
theorem dX7_cut_24 : decode cX7_cut 24 = .ok (.aload_n 3, 1) := by decide +kernel
theorem dX7_cut_25 : decode cX7_cut 25 = .ok (.iload_n 2, 1) := by decide +kernel
theorem dX7_cut_26 : decode cX7_cut 26 = .ok (.invokevirtual 74, 3) := by decide +kernel
theorem dX7_cut_29 : decode cX7_cut 29 = .ok (.iconst 1, 1) := by decide +kernel
theorem dX7_cut_30 : decode cX7_cut 30 = .ok (.ireturn, 1) := by decide +kernel
set_option maxRecDepth 20000 in
theorem ggX7_set_X7_inputRow : GoodIn wsX7_set wsX7_inputRow := goodIn_r _ [5, 6, 7, 8, 4, 9, 10, 11, 12, 13, 28, 29, 30, 31, 32, 33, 34, 35] (by decide +kernel) (by decide +kernel)
set_option maxRecDepth 20000 in
theorem gX7_set_X7_inputRow : GoodIn wsX7_set (wsV RX7 56 RX7 yX7_inputRow wsX7_inputRow) := goodIn_app (goodIn_of _ (by decide +kernel)) ggX7_set_X7_inputRow
set_option maxRecDepth 20000 in
theorem ggX7_set_X6_count : GoodIn wsX7_set wsX6_count := goodIn_r _ [18, 19, 36, 37] (by decide +kernel) (by decide +kernel)
set_option maxRecDepth 20000 in
theorem gX7_set_X6_count : GoodIn wsX7_set (wsV RX7 71 RX6 yX6_count wsX6_count) := goodIn_app (goodIn_of _ (by decide +kernel)) ggX7_set_X6_count
set_option maxRecDepth 20000 in
theorem ggX7_set_X7_isByte : GoodIn wsX7_set wsX7_isByte := goodIn_r _ [22] (by decide +kernel) (by decide +kernel)
set_option maxRecDepth 20000 in
theorem gX7_set_X7_isByte : GoodIn wsX7_set (va_wsS RX7 60 yX7_isByte wsX7_isByte) := goodIn_app (goodIn_of _ (by decide +kernel)) ggX7_set_X7_isByte
set_option maxRecDepth 20000 in
theorem ggX7_set_X6_replace : GoodIn wsX7_set wsX6_replace := goodIn_r _ [26, 19, 27, 36, 37] (by decide +kernel) (by decide +kernel)
set_option maxRecDepth 20000 in
theorem gX7_set_X6_replace : GoodIn wsX7_set (wsV RX7 77 RX6 yX6_replace wsX6_replace) := goodIn_app (goodIn_of _ (by decide +kernel)) ggX7_set_X6_replace
theorem dX7_set_0 : decode cX7_set 0 = .ok (.aload_n 0, 1) := by decide +kernel
theorem dX7_set_1 : decode cX7_set 1 = .ok (.iload_n 1, 1) := by decide +kernel
theorem dX7_set_2 : decode cX7_set 2 = .ok (.invokevirtual 56, 3) := by decide +kernel
theorem dX7_set_5 : decode cX7_set 5 = .ok (.astore 4, 2) := by decide +kernel
theorem dX7_set_7 : decode cX7_set 7 = .ok (.aload 4, 2) := by decide +kernel
theorem dX7_set_9 : decode cX7_set 9 = .ok (.ifnull 23, 3) := by decide +kernel
theorem dX7_set_12 : decode cX7_set 12 = .ok (.iload_n 2, 1) := by decide +kernel
theorem dX7_set_13 : decode cX7_set 13 = .ok (.ifCond .lt 19, 3) := by decide +kernel
theorem dX7_set_16 : decode cX7_set 16 = .ok (.iload_n 2, 1) := by decide +kernel
theorem dX7_set_17 : decode cX7_set 17 = .ok (.aload 4, 2) := by decide +kernel
theorem dX7_set_19 : decode cX7_set 19 = .ok (.invokevirtual 71, 3) := by decide +kernel
theorem dX7_set_22 : decode cX7_set 22 = .ok (.if_icmp .ge 10, 3) := by decide +kernel
theorem dX7_set_25 : decode cX7_set 25 = .ok (.iload_n 3, 1) := by decide +kernel
theorem dX7_set_26 : decode cX7_set 26 = .ok (.invokestatic 60, 3) := by decide +kernel
theorem dX7_set_29 : decode cX7_set 29 = .ok (.ifCond .ne 5, 3) := by decide +kernel
theorem dX7_set_32 : decode cX7_set 32 = .ok (.iconst 0, 1) := by decide +kernel
theorem dX7_set_33 : decode cX7_set 33 = .ok (.ireturn, 1) := by decide +kernel
theorem dX7_set_34 : decode cX7_set 34 = .ok (.aload 4, 2) := by decide +kernel
theorem dX7_set_36 : decode cX7_set 36 = .ok (.iload_n 2, 1) := by decide +kernel
theorem dX7_set_37 : decode cX7_set 37 = .ok (.iload_n 3, 1) := by decide +kernel
theorem dX7_set_38 : decode cX7_set 38 = .ok (.invokevirtual 77, 3) := by decide +kernel
theorem dX7_set_41 : decode cX7_set 41 = .ok (.iconst 1, 1) := by decide +kernel
theorem dX7_set_42 : decode cX7_set 42 = .ok (.ireturn, 1) := by decide +kernel
set_option maxRecDepth 20000 in
theorem ggX7_encode_X3_writeDelta : GoodIn wsX7_encode wsX3_writeDelta := goodIn_r _ [7, 8, 9, 10, 11, 12, 13, 14, 15, 16, 17, 18, 19, 20, 21, 22, 23, 24, 25, 26, 27, 28, 29, 30, 31, 32, 33, 34, 35, 36, 37, 38, 39, 40, 41, 42, 43, 44, 45, 46, 47, 6, 48, 49, 50, 51, 52, 53, 54, 55, 56, 57, 58, 59, 60, 61, 62, 63, 64, 65, 66, 67, 68, 69, 70, 71, 72, 73, 74, 75, 76, 77, 78, 79, 80, 81, 82, 83, 84, 85, 86, 87, 88, 89, 90, 91, 92, 93, 94, 95, 96, 97, 98, 99, 100, 101, 102, 103, 104, 105, 106, 107, 108, 109, 110, 111, 112, 113, 114, 115, 116, 117, 118, 119, 120, 121, 122, 123, 124, 125, 126, 127, 128, 129, 130, 131, 132, 133, 134, 135, 136, 137, 138, 139, 140, 141, 142, 143, 144, 145, 146, 147, 148, 149, 150, 151, 152, 153, 154, 155, 156, 157, 158, 159, 160, 161, 162, 163, 164, 165, 166, 167, 168, 169, 170, 171, 172, 173, 174, 175, 176, 177, 178, 179, 180, 181, 191, 192, 193, 194, 195, 196, 197, 198, 199, 200, 201, 202, 203, 204, 205, 206, 207, 208, 209, 210, 211] (by decide +kernel) (by decide +kernel)
set_option maxRecDepth 20000 in
theorem gX7_encode_X3_writeDelta : GoodIn wsX7_encode (wsV RX7 81 RX3 yX3_writeDelta wsX3_writeDelta) := goodIn_app (goodIn_of _ (by decide +kernel)) ggX7_encode_X3_writeDelta
set_option maxRecDepth 20000 in
theorem ggX7_encode_X6_count : GoodIn wsX7_encode wsX6_count := goodIn_r _ [44, 23, 203, 204] (by decide +kernel) (by decide +kernel)
set_option maxRecDepth 20000 in
theorem gX7_encode_X6_count : GoodIn wsX7_encode (wsV RX7 71 RX6 yX6_count wsX6_count) := goodIn_app (goodIn_of _ (by decide +kernel)) ggX7_encode_X6_count
theorem dX7_encode_0 : decode cX7_encode 0 = .ok (.iload_n 1, 1) := by decide +kernel
theorem dX7_encode_1 : decode cX7_encode 1 = .ok (.iconst 1, 1) := by decide +kernel
theorem dX7_encode_2 : decode cX7_encode 2 = .ok (.if_icmp .lt 9, 3) := by decide +kernel
theorem dX7_encode_5 : decode cX7_encode 5 = .ok (.iload_n 1, 1) := by decide +kernel
theorem dX7_encode_6 : decode cX7_encode 6 = .ok (.bipush 64, 2) := by decide +kernel
theorem dX7_encode_8 : decode cX7_encode 8 = .ok (.if_icmp .le 5, 3) := by decide +kernel
theorem dX7_encode_11 : decode cX7_encode 11 = .ok (.iconst (-1), 1) := by decide +kernel
theorem dX7_encode_12 : decode cX7_encode 12 = .ok (.ireturn, 1) := by decide +kernel
theorem dX7_encode_13 : decode cX7_encode 13 = .ok (.aload_n 0, 1) := by decide +kernel
theorem dX7_encode_14 : decode cX7_encode 14 = .ok (.getfield 32, 3) := by decide +kernel
theorem dX7_encode_17 : decode cX7_encode 17 = .ok (.iload_n 1, 1) := by decide +kernel
theorem dX7_encode_18 : decode cX7_encode 18 = .ok (.invokevirtual 81, 3) := by decide +kernel
theorem dX7_encode_21 : decode cX7_encode 21 = .ok (.aload_n 0, 1) := by decide +kernel
theorem dX7_encode_22 : decode cX7_encode 22 = .ok (.getfield 21, 3) := by decide +kernel
theorem dX7_encode_25 : decode cX7_encode 25 = .ok (.invokevirtual 71, 3) := by decide +kernel
theorem dX7_encode_28 : decode cX7_encode 28 = .ok (.ireturn, 1) := by decide +kernel
set_option maxRecDepth 20000 in
theorem ggX7_decode_X2_readDelta : GoodIn wsX7_decode wsX2_readDelta := goodIn_r _ [9, 10, 11, 12, 13, 14, 15, 16, 17, 18, 19, 20, 21, 22, 23, 24, 25, 26, 27, 28, 29, 30, 31, 32, 33, 34, 35, 36, 37, 38, 39, 40, 41, 42, 43, 44, 45, 46, 47, 48, 49, 8, 50, 51, 52, 53, 54, 55, 56, 57, 58, 59, 60, 61, 62, 63, 64, 65, 66, 67, 68, 69, 70, 71, 72, 73, 74, 75, 76, 77, 78, 79, 80, 81, 82, 83, 84, 85, 86, 87, 88, 89, 90, 91, 92, 93, 94, 95, 96, 97, 98, 99, 100, 101, 102, 103, 104, 105, 106, 107, 108, 109, 110, 111, 112, 113, 114, 115, 116, 117, 118, 119, 120, 121, 122, 123, 124, 125, 126, 127, 128, 129, 130, 131, 132, 133, 134, 135, 136, 137, 138, 139, 140, 141, 142, 143, 144, 145, 146, 147, 148, 149, 150, 151, 152, 153, 154, 155, 156, 157, 158, 159, 160, 161, 162, 163, 164, 165, 191, 192, 193, 194, 195, 196, 197, 198, 199, 200, 201, 202, 203, 204, 205, 206, 207, 208, 209, 210, 211] (by decide +kernel) (by decide +kernel)
set_option maxRecDepth 20000 in
theorem gX7_decode_X2_readDelta : GoodIn wsX7_decode (wsV RX7 84 RX2 yX2_readDelta wsX2_readDelta) := goodIn_app (goodIn_of _ (by decide +kernel)) ggX7_decode_X2_readDelta
set_option maxRecDepth 20000 in
theorem ggX7_decode_X6_become : GoodIn wsX7_decode wsX6_become := goodIn_r _ [169, 19, 170, 171, 172, 17, 173, 124, 174, 121, 122, 123, 204, 205] (by decide +kernel) (by decide +kernel)
set_option maxRecDepth 20000 in
theorem gX7_decode_X6_become : GoodIn wsX7_decode (wsV RX7 91 RX6 yX6_become wsX6_become) := goodIn_app (goodIn_of _ (by decide +kernel)) ggX7_decode_X6_become
set_option maxRecDepth 20000 in
theorem ggX7_decode_X0_become : GoodIn wsX7_decode wsX0_become := goodIn_r _ [178, 25, 179, 180, 181, 182, 26, 27, 206, 207, 208] (by decide +kernel) (by decide +kernel)
set_option maxRecDepth 20000 in
theorem gX7_decode_X0_become : GoodIn wsX7_decode (wsV RX7 98 RX0 yX0_become wsX0_become) := goodIn_app (goodIn_of _ (by decide +kernel)) ggX7_decode_X0_become
theorem dX7_decode_0 : decode cX7_decode 0 = .ok (.iload_n 1, 1) := by decide +kernel
theorem dX7_decode_1 : decode cX7_decode 1 = .ok (.ifCond .lt 10, 3) := by decide +kernel
theorem dX7_decode_4 : decode cX7_decode 4 = .ok (.iload_n 1, 1) := by decide +kernel
theorem dX7_decode_5 : decode cX7_decode 5 = .ok (.sipush 400, 3) := by decide +kernel
theorem dX7_decode_8 : decode cX7_decode 8 = .ok (.if_icmp .le 5, 3) := by decide +kernel
theorem dX7_decode_11 : decode cX7_decode 11 = .ok (.iconst (-1), 1) := by decide +kernel
theorem dX7_decode_12 : decode cX7_decode 12 = .ok (.ireturn, 1) := by decide +kernel
theorem dX7_decode_13 : decode cX7_decode 13 = .ok (.aload_n 0, 1) := by decide +kernel
theorem dX7_decode_14 : decode cX7_decode 14 = .ok (.getfield 41, 3) := by decide +kernel
theorem dX7_decode_17 : decode cX7_decode 17 = .ok (.iload_n 1, 1) := by decide +kernel
theorem dX7_decode_18 : decode cX7_decode 18 = .ok (.invokevirtual 84, 3) := by decide +kernel
theorem dX7_decode_21 : decode cX7_decode 21 = .ok (.istore_n 2, 1) := by decide +kernel
theorem dX7_decode_22 : decode cX7_decode 22 = .ok (.iload_n 2, 1) := by decide +kernel
theorem dX7_decode_23 : decode cX7_decode 23 = .ok (.ifCond .lt 42, 3) := by decide +kernel
theorem dX7_decode_26 : decode cX7_decode 26 = .ok (.aload_n 0, 1) := by decide +kernel
theorem dX7_decode_27 : decode cX7_decode 27 = .ok (.getfield 24, 3) := by decide +kernel
theorem dX7_decode_30 : decode cX7_decode 30 = .ok (.aload_n 0, 1) := by decide +kernel
theorem dX7_decode_31 : decode cX7_decode 31 = .ok (.getfield 41, 3) := by decide +kernel
theorem dX7_decode_34 : decode cX7_decode 34 = .ok (.getfield 88, 3) := by decide +kernel
theorem dX7_decode_37 : decode cX7_decode 37 = .ok (.invokevirtual 91, 3) := by decide +kernel
theorem dX7_decode_40 : decode cX7_decode 40 = .ok (.aload_n 0, 1) := by decide +kernel
theorem dX7_decode_41 : decode cX7_decode 41 = .ok (.getfield 48, 3) := by decide +kernel
theorem dX7_decode_44 : decode cX7_decode 44 = .ok (.aload_n 0, 1) := by decide +kernel
theorem dX7_decode_45 : decode cX7_decode 45 = .ok (.getfield 41, 3) := by decide +kernel
theorem dX7_decode_48 : decode cX7_decode 48 = .ok (.getfield 95, 3) := by decide +kernel
theorem dX7_decode_51 : decode cX7_decode 51 = .ok (.invokevirtual 98, 3) := by decide +kernel
theorem dX7_decode_54 : decode cX7_decode 54 = .ok (.aload_n 0, 1) := by decide +kernel
theorem dX7_decode_55 : decode cX7_decode 55 = .ok (.aload_n 0, 1) := by decide +kernel
theorem dX7_decode_56 : decode cX7_decode 56 = .ok (.getfield 41, 3) := by decide +kernel
theorem dX7_decode_59 : decode cX7_decode 59 = .ok (.getfield 101, 3) := by decide +kernel
theorem dX7_decode_62 : decode cX7_decode 62 = .ok (.putfield 52, 3) := by decide +kernel
theorem dX7_decode_65 : decode cX7_decode 65 = .ok (.iload_n 2, 1) := by decide +kernel
theorem dX7_decode_66 : decode cX7_decode 66 = .ok (.ireturn, 1) := by decide +kernel
set_option maxRecDepth 20000 in
theorem ggX7_length_X7_anyRow : GoodIn wsX7_length wsX7_anyRow := goodIn_r _ [5, 6, 7, 8, 9, 16, 17, 18, 19, 20, 21, 22, 23] (by decide +kernel) (by decide +kernel)
set_option maxRecDepth 20000 in
theorem gX7_length_X7_anyRow : GoodIn wsX7_length (wsV RX7 104 RX7 yX7_anyRow wsX7_anyRow) := goodIn_app (goodIn_of _ (by decide +kernel)) ggX7_length_X7_anyRow
set_option maxRecDepth 20000 in
theorem ggX7_length_X6_count : GoodIn wsX7_length wsX6_count := goodIn_r _ [14, 15, 24, 25] (by decide +kernel) (by decide +kernel)
set_option maxRecDepth 20000 in
theorem gX7_length_X6_count : GoodIn wsX7_length (wsV RX7 71 RX6 yX6_count wsX6_count) := goodIn_app (goodIn_of _ (by decide +kernel)) ggX7_length_X6_count
theorem dX7_length_0 : decode cX7_length 0 = .ok (.aload_n 0, 1) := by decide +kernel
theorem dX7_length_1 : decode cX7_length 1 = .ok (.iload_n 1, 1) := by decide +kernel
theorem dX7_length_2 : decode cX7_length 2 = .ok (.invokevirtual 104, 3) := by decide +kernel
theorem dX7_length_5 : decode cX7_length 5 = .ok (.astore_n 2, 1) := by decide +kernel
theorem dX7_length_6 : decode cX7_length 6 = .ok (.aload_n 2, 1) := by decide +kernel
theorem dX7_length_7 : decode cX7_length 7 = .ok (.ifnonnull 7, 3) := by decide +kernel
theorem dX7_length_10 : decode cX7_length 10 = .ok (.iconst (-1), 1) := by decide +kernel
theorem dX7_length_11 : decode cX7_length 11 = .ok (.goto 7, 3) := by decide +kernel
theorem dX7_length_14 : decode cX7_length 14 = .ok (.aload_n 2, 1) := by decide +kernel
theorem dX7_length_15 : decode cX7_length 15 = .ok (.invokevirtual 71, 3) := by decide +kernel
theorem dX7_length_18 : decode cX7_length 18 = .ok (.ireturn, 1) := by decide +kernel
set_option maxRecDepth 20000 in
theorem ggX7_byteAt_X7_anyRow : GoodIn wsX7_byteAt wsX7_anyRow := goodIn_r _ [5, 6, 7, 8, 9, 21, 22, 23, 24, 25, 26, 27, 28] (by decide +kernel) (by decide +kernel)
set_option maxRecDepth 20000 in
theorem gX7_byteAt_X7_anyRow : GoodIn wsX7_byteAt (wsV RX7 104 RX7 yX7_anyRow wsX7_anyRow) := goodIn_app (goodIn_of _ (by decide +kernel)) ggX7_byteAt_X7_anyRow
set_option maxRecDepth 20000 in
theorem ggX7_byteAt_X6_count : GoodIn wsX7_byteAt wsX6_count := goodIn_r _ [14, 15, 29, 30] (by decide +kernel) (by decide +kernel)
set_option maxRecDepth 20000 in
theorem gX7_byteAt_X6_count : GoodIn wsX7_byteAt (wsV RX7 71 RX6 yX6_count wsX6_count) := goodIn_app (goodIn_of _ (by decide +kernel)) ggX7_byteAt_X6_count
set_option maxRecDepth 20000 in
theorem ggX7_byteAt_X6_at : GoodIn wsX7_byteAt wsX6_at := goodIn_r _ [19, 15, 20, 29, 30] (by decide +kernel) (by decide +kernel)
set_option maxRecDepth 20000 in
theorem gX7_byteAt_X6_at : GoodIn wsX7_byteAt (wsV RX7 107 RX6 yX6_at wsX6_at) := goodIn_app (goodIn_of _ (by decide +kernel)) ggX7_byteAt_X6_at
theorem dX7_byteAt_0 : decode cX7_byteAt 0 = .ok (.aload_n 0, 1) := by decide +kernel
theorem dX7_byteAt_1 : decode cX7_byteAt 1 = .ok (.iload_n 1, 1) := by decide +kernel
theorem dX7_byteAt_2 : decode cX7_byteAt 2 = .ok (.invokevirtual 104, 3) := by decide +kernel
theorem dX7_byteAt_5 : decode cX7_byteAt 5 = .ok (.astore_n 3, 1) := by decide +kernel
theorem dX7_byteAt_6 : decode cX7_byteAt 6 = .ok (.aload_n 3, 1) := by decide +kernel
theorem dX7_byteAt_7 : decode cX7_byteAt 7 = .ok (.ifnull 15, 3) := by decide +kernel
theorem dX7_byteAt_10 : decode cX7_byteAt 10 = .ok (.iload_n 2, 1) := by decide +kernel
theorem dX7_byteAt_11 : decode cX7_byteAt 11 = .ok (.ifCond .lt 11, 3) := by decide +kernel
theorem dX7_byteAt_14 : decode cX7_byteAt 14 = .ok (.iload_n 2, 1) := by decide +kernel
theorem dX7_byteAt_15 : decode cX7_byteAt 15 = .ok (.aload_n 3, 1) := by decide +kernel
theorem dX7_byteAt_16 : decode cX7_byteAt 16 = .ok (.invokevirtual 71, 3) := by decide +kernel
theorem dX7_byteAt_19 : decode cX7_byteAt 19 = .ok (.if_icmp .lt 7, 3) := by decide +kernel
theorem dX7_byteAt_22 : decode cX7_byteAt 22 = .ok (.iconst (-1), 1) := by decide +kernel
theorem dX7_byteAt_23 : decode cX7_byteAt 23 = .ok (.goto 8, 3) := by decide +kernel
theorem dX7_byteAt_26 : decode cX7_byteAt 26 = .ok (.aload_n 3, 1) := by decide +kernel
theorem dX7_byteAt_27 : decode cX7_byteAt 27 = .ok (.iload_n 2, 1) := by decide +kernel
theorem dX7_byteAt_28 : decode cX7_byteAt 28 = .ok (.invokevirtual 107, 3) := by decide +kernel
theorem dX7_byteAt_31 : decode cX7_byteAt 31 = .ok (.ireturn, 1) := by decide +kernel
set_option maxRecDepth 20000 in
theorem ggX7_code_X1_partOf : GoodIn wsX7_code wsX1_partOf := goodIn_r _ [4, 5, 6, 3, 7, 8, 9, 10, 11, 12, 13] (by decide +kernel) (by decide +kernel)
set_option maxRecDepth 20000 in
theorem gX7_code_X1_partOf : GoodIn wsX7_code (va_wsS RX7 110 yX1_partOf wsX1_partOf) := goodIn_app (goodIn_of _ (by decide +kernel)) ggX7_code_X1_partOf
theorem dX7_code_0 : decode cX7_code 0 = .ok (.iload_n 1, 1) := by decide +kernel
theorem dX7_code_1 : decode cX7_code 1 = .ok (.ifCond .lt 19, 3) := by decide +kernel
theorem dX7_code_4 : decode cX7_code 4 = .ok (.iload_n 1, 1) := by decide +kernel
theorem dX7_code_5 : decode cX7_code 5 = .ok (.sipush 255, 3) := by decide +kernel
theorem dX7_code_8 : decode cX7_code 8 = .ok (.if_icmp .gt 12, 3) := by decide +kernel
theorem dX7_code_11 : decode cX7_code 11 = .ok (.iload_n 2, 1) := by decide +kernel
theorem dX7_code_12 : decode cX7_code 12 = .ok (.ifCond .lt 8, 3) := by decide +kernel
theorem dX7_code_15 : decode cX7_code 15 = .ok (.iload_n 2, 1) := by decide +kernel
theorem dX7_code_16 : decode cX7_code 16 = .ok (.iconst 5, 1) := by decide +kernel
theorem dX7_code_17 : decode cX7_code 17 = .ok (.if_icmp .le 5, 3) := by decide +kernel
theorem dX7_code_20 : decode cX7_code 20 = .ok (.iconst (-1), 1) := by decide +kernel
theorem dX7_code_21 : decode cX7_code 21 = .ok (.ireturn, 1) := by decide +kernel
theorem dX7_code_22 : decode cX7_code 22 = .ok (.iload_n 1, 1) := by decide +kernel
theorem dX7_code_23 : decode cX7_code 23 = .ok (.iload_n 2, 1) := by decide +kernel
theorem dX7_code_24 : decode cX7_code 24 = .ok (.invokestatic 110, 3) := by decide +kernel
theorem dX7_code_27 : decode cX7_code 27 = .ok (.ireturn, 1) := by decide +kernel
set_option maxRecDepth 20000 in
theorem ggX7_cache_X0_near : GoodIn wsX7_cache wsX0_near := goodIn_r _ [7, 8, 34, 35, 36] (by decide +kernel) (by decide +kernel)
set_option maxRecDepth 20000 in
theorem gX7_cache_X0_near : GoodIn wsX7_cache (wsV RX7 117 RX0 yX0_near wsX0_near) := goodIn_app (goodIn_of _ (by decide +kernel)) ggX7_cache_X0_near
set_option maxRecDepth 20000 in
theorem ggX7_cache_X0_same : GoodIn wsX7_cache wsX0_same := goodIn_r _ [12, 13, 34, 35, 36] (by decide +kernel) (by decide +kernel)
set_option maxRecDepth 20000 in
theorem gX7_cache_X0_same : GoodIn wsX7_cache (wsV RX7 120 RX0 yX0_same wsX0_same) := goodIn_app (goodIn_of _ (by decide +kernel)) ggX7_cache_X0_same
theorem dX7_cache_0 : decode cX7_cache 0 = .ok (.iload_n 1, 1) := by decide +kernel
theorem dX7_cache_1 : decode cX7_cache 1 = .ok (.ifCond .lt 19, 3) := by decide +kernel
theorem dX7_cache_4 : decode cX7_cache 4 = .ok (.iload_n 1, 1) := by decide +kernel
theorem dX7_cache_5 : decode cX7_cache 5 = .ok (.iconst 1, 1) := by decide +kernel
theorem dX7_cache_6 : decode cX7_cache 6 = .ok (.if_icmp .gt 14, 3) := by decide +kernel
theorem dX7_cache_9 : decode cX7_cache 9 = .ok (.iload_n 2, 1) := by decide +kernel
theorem dX7_cache_10 : decode cX7_cache 10 = .ok (.ifCond .lt 10, 3) := by decide +kernel
theorem dX7_cache_13 : decode cX7_cache 13 = .ok (.iload_n 2, 1) := by decide +kernel
theorem dX7_cache_14 : decode cX7_cache 14 = .ok (.sipush 772, 3) := by decide +kernel
theorem dX7_cache_17 : decode cX7_cache 17 = .ok (.if_icmp .lt 5, 3) := by decide +kernel
theorem dX7_cache_20 : decode cX7_cache 20 = .ok (.iconst (-1), 1) := by decide +kernel
theorem dX7_cache_21 : decode cX7_cache 21 = .ok (.ireturn, 1) := by decide +kernel
theorem dX7_cache_22 : decode cX7_cache 22 = .ok (.iload_n 1, 1) := by decide +kernel
theorem dX7_cache_23 : decode cX7_cache 23 = .ok (.ifCond .ne 13, 3) := by decide +kernel
theorem dX7_cache_26 : decode cX7_cache 26 = .ok (.aload_n 0, 1) := by decide +kernel
theorem dX7_cache_27 : decode cX7_cache 27 = .ok (.getfield 32, 3) := by decide +kernel
theorem dX7_cache_30 : decode cX7_cache 30 = .ok (.getfield 116, 3) := by decide +kernel
theorem dX7_cache_33 : decode cX7_cache 33 = .ok (.goto 7, 3) := by decide +kernel
theorem dX7_cache_36 : decode cX7_cache 36 = .ok (.aload_n 0, 1) := by decide +kernel
theorem dX7_cache_37 : decode cX7_cache 37 = .ok (.getfield 48, 3) := by decide +kernel
theorem dX7_cache_40 : decode cX7_cache 40 = .ok (.astore_n 3, 1) := by decide +kernel
theorem dX7_cache_41 : decode cX7_cache 41 = .ok (.iload_n 2, 1) := by decide +kernel
theorem dX7_cache_42 : decode cX7_cache 42 = .ok (.iconst 4, 1) := by decide +kernel
theorem dX7_cache_43 : decode cX7_cache 43 = .ok (.if_icmp .ge 11, 3) := by decide +kernel
theorem dX7_cache_46 : decode cX7_cache 46 = .ok (.aload_n 3, 1) := by decide +kernel
theorem dX7_cache_47 : decode cX7_cache 47 = .ok (.iload_n 2, 1) := by decide +kernel
theorem dX7_cache_48 : decode cX7_cache 48 = .ok (.invokevirtual 117, 3) := by decide +kernel
theorem dX7_cache_51 : decode cX7_cache 51 = .ok (.goto 10, 3) := by decide +kernel
theorem dX7_cache_54 : decode cX7_cache 54 = .ok (.aload_n 3, 1) := by decide +kernel
theorem dX7_cache_55 : decode cX7_cache 55 = .ok (.iload_n 2, 1) := by decide +kernel
theorem dX7_cache_56 : decode cX7_cache 56 = .ok (.iconst 4, 1) := by decide +kernel
theorem dX7_cache_57 : decode cX7_cache 57 = .ok (.isub, 1) := by decide +kernel
theorem dX7_cache_58 : decode cX7_cache 58 = .ok (.invokevirtual 120, 3) := by decide +kernel
theorem dX7_cache_61 : decode cX7_cache 61 = .ok (.ireturn, 1) := by decide +kernel
theorem dX7_windows_0 : decode cX7_windows 0 = .ok (.aload_n 0, 1) := by decide +kernel
theorem dX7_windows_1 : decode cX7_windows 1 = .ok (.getfield 52, 3) := by decide +kernel
theorem dX7_windows_4 : decode cX7_windows 4 = .ok (.ireturn, 1) := by decide +kernel
set_option maxRecDepth 20000 in
theorem ggX7_agrees_X6_count : GoodIn wsX7_agrees wsX6_count := goodIn_r _ [7, 8, 22, 23] (by decide +kernel) (by decide +kernel)
set_option maxRecDepth 20000 in
theorem gX7_agrees_X6_count : GoodIn wsX7_agrees (wsV RX7 71 RX6 yX6_count wsX6_count) := goodIn_app (goodIn_of _ (by decide +kernel)) ggX7_agrees_X6_count
set_option maxRecDepth 20000 in
theorem ggX7_agrees_X6_at : GoodIn wsX7_agrees wsX6_at := goodIn_r _ [12, 8, 13, 22, 23] (by decide +kernel) (by decide +kernel)
set_option maxRecDepth 20000 in
theorem gX7_agrees_X6_at : GoodIn wsX7_agrees (wsV RX7 107 RX6 yX6_at wsX6_at) := goodIn_app (goodIn_of _ (by decide +kernel)) ggX7_agrees_X6_at
theorem dX7_agrees_0 : decode cX7_agrees 0 = .ok (.aload_n 0, 1) := by decide +kernel
theorem dX7_agrees_1 : decode cX7_agrees 1 = .ok (.getfield 24, 3) := by decide +kernel
theorem dX7_agrees_4 : decode cX7_agrees 4 = .ok (.invokevirtual 71, 3) := by decide +kernel
theorem dX7_agrees_7 : decode cX7_agrees 7 = .ok (.aload_n 0, 1) := by decide +kernel
theorem dX7_agrees_8 : decode cX7_agrees 8 = .ok (.getfield 18, 3) := by decide +kernel
theorem dX7_agrees_11 : decode cX7_agrees 11 = .ok (.invokevirtual 71, 3) := by decide +kernel
theorem dX7_agrees_14 : decode cX7_agrees 14 = .ok (.if_icmp .eq 5, 3) := by decide +kernel
theorem dX7_agrees_17 : decode cX7_agrees 17 = .ok (.iconst 0, 1) := by decide +kernel
theorem dX7_agrees_18 : decode cX7_agrees 18 = .ok (.ireturn, 1) := by decide +kernel
theorem dX7_agrees_19 : decode cX7_agrees 19 = .ok (.iconst 0, 1) := by decide +kernel
theorem dX7_agrees_20 : decode cX7_agrees 20 = .ok (.istore_n 1, 1) := by decide +kernel
theorem dX7_agrees_21 : decode cX7_agrees 21 = .ok (.iload_n 1, 1) := by decide +kernel
theorem dX7_agrees_22 : decode cX7_agrees 22 = .ok (.aload_n 0, 1) := by decide +kernel
theorem dX7_agrees_23 : decode cX7_agrees 23 = .ok (.getfield 18, 3) := by decide +kernel
theorem dX7_agrees_26 : decode cX7_agrees 26 = .ok (.invokevirtual 71, 3) := by decide +kernel
theorem dX7_agrees_29 : decode cX7_agrees 29 = .ok (.if_icmp .ge 30, 3) := by decide +kernel
theorem dX7_agrees_32 : decode cX7_agrees 32 = .ok (.aload_n 0, 1) := by decide +kernel
theorem dX7_agrees_33 : decode cX7_agrees 33 = .ok (.getfield 24, 3) := by decide +kernel
theorem dX7_agrees_36 : decode cX7_agrees 36 = .ok (.iload_n 1, 1) := by decide +kernel
theorem dX7_agrees_37 : decode cX7_agrees 37 = .ok (.invokevirtual 107, 3) := by decide +kernel
theorem dX7_agrees_40 : decode cX7_agrees 40 = .ok (.aload_n 0, 1) := by decide +kernel
theorem dX7_agrees_41 : decode cX7_agrees 41 = .ok (.getfield 18, 3) := by decide +kernel
theorem dX7_agrees_44 : decode cX7_agrees 44 = .ok (.iload_n 1, 1) := by decide +kernel
theorem dX7_agrees_45 : decode cX7_agrees 45 = .ok (.invokevirtual 107, 3) := by decide +kernel
theorem dX7_agrees_48 : decode cX7_agrees 48 = .ok (.if_icmp .eq 5, 3) := by decide +kernel
theorem dX7_agrees_51 : decode cX7_agrees 51 = .ok (.iconst 0, 1) := by decide +kernel
theorem dX7_agrees_52 : decode cX7_agrees 52 = .ok (.ireturn, 1) := by decide +kernel
theorem dX7_agrees_53 : decode cX7_agrees 53 = .ok (.iinc 1 1, 3) := by decide +kernel
theorem dX7_agrees_56 : decode cX7_agrees 56 = .ok (.goto (-35), 3) := by decide +kernel
theorem dX7_agrees_59 : decode cX7_agrees 59 = .ok (.iconst 1, 1) := by decide +kernel
theorem dX7_agrees_60 : decode cX7_agrees 60 = .ok (.ireturn, 1) := by decide +kernel
theorem dX7_isByte_0 : decode cX7_isByte 0 = .ok (.iload_n 0, 1) := by decide +kernel
theorem dX7_isByte_1 : decode cX7_isByte 1 = .ok (.ifCond .lt 14, 3) := by decide +kernel
theorem dX7_isByte_4 : decode cX7_isByte 4 = .ok (.iload_n 0, 1) := by decide +kernel
theorem dX7_isByte_5 : decode cX7_isByte 5 = .ok (.sipush 255, 3) := by decide +kernel
theorem dX7_isByte_8 : decode cX7_isByte 8 = .ok (.if_icmp .gt 7, 3) := by decide +kernel
theorem dX7_isByte_11 : decode cX7_isByte 11 = .ok (.iconst 1, 1) := by decide +kernel
theorem dX7_isByte_12 : decode cX7_isByte 12 = .ok (.goto 4, 3) := by decide +kernel
theorem dX7_isByte_15 : decode cX7_isByte 15 = .ok (.iconst 0, 1) := by decide +kernel
theorem dX7_isByte_16 : decode cX7_isByte 16 = .ok (.ireturn, 1) := by decide +kernel
set_option maxRecDepth 20000 in
theorem ggX7_inputRow_X7_anyRow : GoodIn wsX7_inputRow wsX7_anyRow := goodIn_r _ [5, 6, 7, 8, 9, 10, 11, 12, 13, 14, 15, 16, 17] (by decide +kernel) (by decide +kernel)
set_option maxRecDepth 20000 in
theorem gX7_inputRow_X7_anyRow : GoodIn wsX7_inputRow (wsV RX7 104 RX7 yX7_anyRow wsX7_anyRow) := goodIn_app (goodIn_of _ (by decide +kernel)) ggX7_inputRow_X7_anyRow
theorem dX7_inputRow_0 : decode cX7_inputRow 0 = .ok (.iload_n 1, 1) := by decide +kernel
theorem dX7_inputRow_1 : decode cX7_inputRow 1 = .ok (.iconst 3, 1) := by decide +kernel
theorem dX7_inputRow_2 : decode cX7_inputRow 2 = .ok (.if_icmp .ne 7, 3) := by decide +kernel
theorem dX7_inputRow_5 : decode cX7_inputRow 5 = .ok (.aconst_null, 1) := by decide +kernel
theorem dX7_inputRow_6 : decode cX7_inputRow 6 = .ok (.goto 8, 3) := by decide +kernel
theorem dX7_inputRow_9 : decode cX7_inputRow 9 = .ok (.aload_n 0, 1) := by decide +kernel
theorem dX7_inputRow_10 : decode cX7_inputRow 10 = .ok (.iload_n 1, 1) := by decide +kernel
theorem dX7_inputRow_11 : decode cX7_inputRow 11 = .ok (.invokevirtual 104, 3) := by decide +kernel
theorem dX7_inputRow_14 : decode cX7_inputRow 14 = .ok (.areturn, 1) := by decide +kernel
theorem dX7_anyRow_0 : decode cX7_anyRow 0 = .ok (.iload_n 1, 1) := by decide +kernel
theorem dX7_anyRow_1 : decode cX7_anyRow 1 = .ok (.tableswitch 51 0 3 #[31, 36, 41, 46], 31) := by decide +kernel
theorem dX7_anyRow_32 : decode cX7_anyRow 32 = .ok (.aload_n 0, 1) := by decide +kernel
theorem dX7_anyRow_33 : decode cX7_anyRow 33 = .ok (.getfield 14, 3) := by decide +kernel
theorem dX7_anyRow_36 : decode cX7_anyRow 36 = .ok (.areturn, 1) := by decide +kernel
theorem dX7_anyRow_37 : decode cX7_anyRow 37 = .ok (.aload_n 0, 1) := by decide +kernel
theorem dX7_anyRow_38 : decode cX7_anyRow 38 = .ok (.getfield 18, 3) := by decide +kernel
theorem dX7_anyRow_41 : decode cX7_anyRow 41 = .ok (.areturn, 1) := by decide +kernel
theorem dX7_anyRow_42 : decode cX7_anyRow 42 = .ok (.aload_n 0, 1) := by decide +kernel
theorem dX7_anyRow_43 : decode cX7_anyRow 43 = .ok (.getfield 21, 3) := by decide +kernel
theorem dX7_anyRow_46 : decode cX7_anyRow 46 = .ok (.areturn, 1) := by decide +kernel
theorem dX7_anyRow_47 : decode cX7_anyRow 47 = .ok (.aload_n 0, 1) := by decide +kernel
theorem dX7_anyRow_48 : decode cX7_anyRow 48 = .ok (.getfield 24, 3) := by decide +kernel
theorem dX7_anyRow_51 : decode cX7_anyRow 51 = .ok (.areturn, 1) := by decide +kernel
theorem dX7_anyRow_52 : decode cX7_anyRow 52 = .ok (.aconst_null, 1) := by decide +kernel
theorem dX7_anyRow_53 : decode cX7_anyRow 53 = .ok (.areturn, 1) := by decide +kernel
theorem dX8_init_0 : decode cX8_init 0 = .ok (.aload_n 0, 1) := by decide +kernel
theorem dX8_init_1 : decode cX8_init 1 = .ok (.invokespecial 1, 3) := by decide +kernel
theorem dX8_init_4 : decode cX8_init 4 = .ok (.aload_n 0, 1) := by decide +kernel
theorem dX8_init_5 : decode cX8_init 5 = .ok (.sipush 5000, 3) := by decide +kernel
theorem dX8_init_8 : decode cX8_init 8 = .ok (.newarray .int, 2) := by decide +kernel
theorem dX8_init_10 : decode cX8_init 10 = .ok (.putfield 7, 3) := by decide +kernel
theorem dX8_init_13 : decode cX8_init 13 = .ok (.aload_n 0, 1) := by decide +kernel
theorem dX8_init_14 : decode cX8_init 14 = .ok (.iconst 5, 1) := by decide +kernel
theorem dX8_init_15 : decode cX8_init 15 = .ok (.newarray .int, 2) := by decide +kernel
theorem dX8_init_17 : decode cX8_init 17 = .ok (.putfield 13, 3) := by decide +kernel
theorem dX8_init_20 : decode cX8_init 20 = .ok (.aload_n 0, 1) := by decide +kernel
theorem dX8_init_21 : decode cX8_init 21 = .ok (.iconst 4, 1) := by decide +kernel
theorem dX8_init_22 : decode cX8_init 22 = .ok (.newarray .int, 2) := by decide +kernel
theorem dX8_init_24 : decode cX8_init 24 = .ok (.putfield 16, 3) := by decide +kernel
theorem dX8_init_27 : decode cX8_init 27 = .ok (.aload_n 0, 1) := by decide +kernel
theorem dX8_init_28 : decode cX8_init 28 = .ok (.sipush 768, 3) := by decide +kernel
theorem dX8_init_31 : decode cX8_init 31 = .ok (.newarray .int, 2) := by decide +kernel
theorem dX8_init_33 : decode cX8_init 33 = .ok (.putfield 19, 3) := by decide +kernel
theorem dX8_init_36 : decode cX8_init 36 = .ok (.aload_n 0, 1) := by decide +kernel
theorem dX8_init_37 : decode cX8_init 37 = .ok (.sipush 1544, 3) := by decide +kernel
theorem dX8_init_40 : decode cX8_init 40 = .ok (.newarray .int, 2) := by decide +kernel
theorem dX8_init_42 : decode cX8_init 42 = .ok (.putfield 22, 3) := by decide +kernel
theorem dX8_init_45 : decode cX8_init 45 = .ok (.aload_n 0, 1) := by decide +kernel
theorem dX8_init_46 : decode cX8_init 46 = .ok (.bipush 64, 2) := by decide +kernel
theorem dX8_init_48 : decode cX8_init 48 = .ok (.newarray .int, 2) := by decide +kernel
theorem dX8_init_50 : decode cX8_init 50 = .ok (.putfield 25, 3) := by decide +kernel
theorem dX8_init_53 : decode cX8_init 53 = .ok (.aload_n 0, 1) := by decide +kernel
theorem dX8_init_54 : decode cX8_init 54 = .ok (.bipush 64, 2) := by decide +kernel
theorem dX8_init_56 : decode cX8_init 56 = .ok (.newarray .int, 2) := by decide +kernel
theorem dX8_init_58 : decode cX8_init 58 = .ok (.putfield 28, 3) := by decide +kernel
theorem dX8_init_61 : decode cX8_init 61 = .ok (.aload_n 0, 1) := by decide +kernel
theorem dX8_init_62 : decode cX8_init 62 = .ok (.bipush 64, 2) := by decide +kernel
theorem dX8_init_64 : decode cX8_init 64 = .ok (.newarray .int, 2) := by decide +kernel
theorem dX8_init_66 : decode cX8_init 66 = .ok (.putfield 31, 3) := by decide +kernel
theorem dX8_init_69 : decode cX8_init 69 = .ok (.aload_n 0, 1) := by decide +kernel
theorem dX8_init_70 : decode cX8_init 70 = .ok (.sipush 1200, 3) := by decide +kernel
theorem dX8_init_73 : decode cX8_init 73 = .ok (.newarray .int, 2) := by decide +kernel
theorem dX8_init_75 : decode cX8_init 75 = .ok (.putfield 34, 3) := by decide +kernel
theorem dX8_init_78 : decode cX8_init 78 = .ok (.aload_n 0, 1) := by decide +kernel
theorem dX8_init_79 : decode cX8_init 79 = .ok (.iconst 3, 1) := by decide +kernel
theorem dX8_init_80 : decode cX8_init 80 = .ok (.newarray .int, 2) := by decide +kernel
theorem dX8_init_82 : decode cX8_init 82 = .ok (.putfield 37, 3) := by decide +kernel
theorem dX8_init_85 : decode cX8_init 85 = .ok (.aload_n 0, 1) := by decide +kernel
theorem dX8_init_86 : decode cX8_init 86 = .ok (.iconst 4, 1) := by decide +kernel
theorem dX8_init_87 : decode cX8_init 87 = .ok (.newarray .int, 2) := by decide +kernel
theorem dX8_init_89 : decode cX8_init 89 = .ok (.putfield 40, 3) := by decide +kernel
theorem dX8_init_92 : decode cX8_init 92 = .ok (.aload_n 0, 1) := by decide +kernel
theorem dX8_init_93 : decode cX8_init 93 = .ok (.iconst 4, 1) := by decide +kernel
theorem dX8_init_94 : decode cX8_init 94 = .ok (.newarray .int, 2) := by decide +kernel
theorem dX8_init_96 : decode cX8_init 96 = .ok (.putfield 43, 3) := by decide +kernel
theorem dX8_init_99 : decode cX8_init 99 = .ok (.return_, 1) := by decide +kernel
theorem dX8_most_0 : decode cX8_most 0 = .ok (.iload_n 0, 1) := by decide +kernel
theorem dX8_most_1 : decode cX8_most 1 = .ok (.ifCond .ne 8, 3) := by decide +kernel
theorem dX8_most_4 : decode cX8_most 4 = .ok (.bipush 48, 2) := by decide +kernel
theorem dX8_most_6 : decode cX8_most 6 = .ok (.goto 16, 3) := by decide +kernel
theorem dX8_most_9 : decode cX8_most 9 = .ok (.iload_n 0, 1) := by decide +kernel
theorem dX8_most_10 : decode cX8_most 10 = .ok (.iconst 1, 1) := by decide +kernel
theorem dX8_most_11 : decode cX8_most 11 = .ok (.if_icmp .ne 8, 3) := by decide +kernel
theorem dX8_most_14 : decode cX8_most 14 = .ok (.bipush 64, 2) := by decide +kernel
theorem dX8_most_16 : decode cX8_most 16 = .ok (.goto 6, 3) := by decide +kernel
theorem dX8_most_19 : decode cX8_most 19 = .ok (.sipush 1000, 3) := by decide +kernel
theorem dX8_most_22 : decode cX8_most 22 = .ok (.ireturn, 1) := by decide +kernel
theorem dX8_isByte_0 : decode cX8_isByte 0 = .ok (.iload_n 0, 1) := by decide +kernel
theorem dX8_isByte_1 : decode cX8_isByte 1 = .ok (.ifCond .lt 14, 3) := by decide +kernel
theorem dX8_isByte_4 : decode cX8_isByte 4 = .ok (.iload_n 0, 1) := by decide +kernel
theorem dX8_isByte_5 : decode cX8_isByte 5 = .ok (.sipush 255, 3) := by decide +kernel
theorem dX8_isByte_8 : decode cX8_isByte 8 = .ok (.if_icmp .gt 7, 3) := by decide +kernel
theorem dX8_isByte_11 : decode cX8_isByte 11 = .ok (.iconst 1, 1) := by decide +kernel
theorem dX8_isByte_12 : decode cX8_isByte 12 = .ok (.goto 4, 3) := by decide +kernel
theorem dX8_isByte_15 : decode cX8_isByte 15 = .ok (.iconst 0, 1) := by decide +kernel
theorem dX8_isByte_16 : decode cX8_isByte 16 = .ok (.ireturn, 1) := by decide +kernel
set_option maxRecDepth 20000 in
theorem ggX8_put_X8_isByte : GoodIn wsX8_put wsX8_isByte := goodIn_r _ [5] (by decide +kernel) (by decide +kernel)
set_option maxRecDepth 20000 in
theorem gX8_put_X8_isByte : GoodIn wsX8_put (va_wsS RX8 46 yX8_isByte wsX8_isByte) := goodIn_app (goodIn_of _ (by decide +kernel)) ggX8_put_X8_isByte
set_option maxRecDepth 20000 in
theorem ggX8_put_X8_most : GoodIn wsX8_put wsX8_most := goodIn_r _ [8] (by decide +kernel) (by decide +kernel)
set_option maxRecDepth 20000 in
theorem gX8_put_X8_most : GoodIn wsX8_put (va_wsS RX8 50 yX8_most wsX8_most) := goodIn_app (goodIn_of _ (by decide +kernel)) ggX8_put_X8_most
set_option maxRecDepth 20000 in
theorem ggX8_put_X8_append : GoodIn wsX8_put wsX8_append := goodIn_r _ [12, 13, 1, 14, 15, 16, 17, 18, 19, 20, 21, 22, 23, 24, 25, 26, 27, 28, 29, 30, 31, 32, 33, 34] (by decide +kernel) (by decide +kernel)
set_option maxRecDepth 20000 in
theorem gX8_put_X8_append : GoodIn wsX8_put (wsV RX8 54 RX8 yX8_append wsX8_append) := goodIn_app (goodIn_of _ (by decide +kernel)) ggX8_put_X8_append
theorem dX8_put_0 : decode cX8_put 0 = .ok (.iload_n 1, 1) := by decide +kernel
theorem dX8_put_1 : decode cX8_put 1 = .ok (.ifCond .lt 41, 3) := by decide +kernel
theorem dX8_put_4 : decode cX8_put 4 = .ok (.iload_n 1, 1) := by decide +kernel
theorem dX8_put_5 : decode cX8_put 5 = .ok (.iconst 2, 1) := by decide +kernel
theorem dX8_put_6 : decode cX8_put 6 = .ok (.if_icmp .gt 36, 3) := by decide +kernel
theorem dX8_put_9 : decode cX8_put 9 = .ok (.iload_n 2, 1) := by decide +kernel
theorem dX8_put_10 : decode cX8_put 10 = .ok (.invokestatic 46, 3) := by decide +kernel
theorem dX8_put_13 : decode cX8_put 13 = .ok (.ifCond .eq 29, 3) := by decide +kernel
theorem dX8_put_16 : decode cX8_put 16 = .ok (.iload_n 3, 1) := by decide +kernel
theorem dX8_put_17 : decode cX8_put 17 = .ok (.iconst 1, 1) := by decide +kernel
theorem dX8_put_18 : decode cX8_put 18 = .ok (.if_icmp .lt 24, 3) := by decide +kernel
theorem dX8_put_21 : decode cX8_put 21 = .ok (.iload_n 3, 1) := by decide +kernel
theorem dX8_put_22 : decode cX8_put 22 = .ok (.bipush 16, 2) := by decide +kernel
theorem dX8_put_24 : decode cX8_put 24 = .ok (.if_icmp .gt 18, 3) := by decide +kernel
theorem dX8_put_27 : decode cX8_put 27 = .ok (.aload_n 0, 1) := by decide +kernel
theorem dX8_put_28 : decode cX8_put 28 = .ok (.getfield 13, 3) := by decide +kernel
theorem dX8_put_31 : decode cX8_put 31 = .ok (.iload_n 1, 1) := by decide +kernel
theorem dX8_put_32 : decode cX8_put 32 = .ok (.iaload, 1) := by decide +kernel
theorem dX8_put_33 : decode cX8_put 33 = .ok (.iload_n 3, 1) := by decide +kernel
theorem dX8_put_34 : decode cX8_put 34 = .ok (.iadd, 1) := by decide +kernel
theorem dX8_put_35 : decode cX8_put 35 = .ok (.iload_n 1, 1) := by decide +kernel
theorem dX8_put_36 : decode cX8_put 36 = .ok (.invokestatic 50, 3) := by decide +kernel
theorem dX8_put_39 : decode cX8_put 39 = .ok (.if_icmp .le 5, 3) := by decide +kernel
theorem dX8_put_42 : decode cX8_put 42 = .ok (.iconst 0, 1) := by decide +kernel
theorem dX8_put_43 : decode cX8_put 43 = .ok (.ireturn, 1) := by decide +kernel
theorem dX8_put_44 : decode cX8_put 44 = .ok (.iconst 0, 1) := by decide +kernel
theorem dX8_put_45 : decode cX8_put 45 = .ok (.istore 4, 2) := by decide +kernel
theorem dX8_put_47 : decode cX8_put 47 = .ok (.iload 4, 2) := by decide +kernel
theorem dX8_put_49 : decode cX8_put 49 = .ok (.iload_n 3, 1) := by decide +kernel
theorem dX8_put_50 : decode cX8_put 50 = .ok (.if_icmp .ge 15, 3) := by decide +kernel
theorem dX8_put_53 : decode cX8_put 53 = .ok (.aload_n 0, 1) := by decide +kernel
theorem dX8_put_54 : decode cX8_put 54 = .ok (.iload_n 1, 1) := by decide +kernel
theorem dX8_put_55 : decode cX8_put 55 = .ok (.iload_n 2, 1) := by decide +kernel
theorem dX8_put_56 : decode cX8_put 56 = .ok (.invokevirtual 54, 3) := by decide +kernel
theorem dX8_put_59 : decode cX8_put 59 = .ok (.iinc 4 1, 3) := by decide +kernel
theorem dX8_put_62 : decode cX8_put 62 = .ok (.goto (-15), 3) := by decide +kernel
theorem dX8_put_65 : decode cX8_put 65 = .ok (.iconst 1, 1) := by decide +kernel
theorem dX8_put_66 : decode cX8_put 66 = .ok (.ireturn, 1) := by decide +kernel
theorem dX8_append_0 : decode cX8_append 0 = .ok (.aload_n 0, 1) := by decide +kernel
theorem dX8_append_1 : decode cX8_append 1 = .ok (.getfield 7, 3) := by decide +kernel
theorem dX8_append_4 : decode cX8_append 4 = .ok (.sipush 1000, 3) := by decide +kernel
theorem dX8_append_7 : decode cX8_append 7 = .ok (.iload_n 1, 1) := by decide +kernel
theorem dX8_append_8 : decode cX8_append 8 = .ok (.imul, 1) := by decide +kernel
theorem dX8_append_9 : decode cX8_append 9 = .ok (.aload_n 0, 1) := by decide +kernel
theorem dX8_append_10 : decode cX8_append 10 = .ok (.getfield 13, 3) := by decide +kernel
theorem dX8_append_13 : decode cX8_append 13 = .ok (.iload_n 1, 1) := by decide +kernel
theorem dX8_append_14 : decode cX8_append 14 = .ok (.iaload, 1) := by decide +kernel
theorem dX8_append_15 : decode cX8_append 15 = .ok (.iadd, 1) := by decide +kernel
theorem dX8_append_16 : decode cX8_append 16 = .ok (.iload_n 2, 1) := by decide +kernel
theorem dX8_append_17 : decode cX8_append 17 = .ok (.iastore, 1) := by decide +kernel
theorem dX8_append_18 : decode cX8_append 18 = .ok (.aload_n 0, 1) := by decide +kernel
theorem dX8_append_19 : decode cX8_append 19 = .ok (.getfield 13, 3) := by decide +kernel
theorem dX8_append_22 : decode cX8_append 22 = .ok (.iload_n 1, 1) := by decide +kernel
theorem dX8_append_23 : decode cX8_append 23 = .ok (.dup2, 1) := by decide +kernel
theorem dX8_append_24 : decode cX8_append 24 = .ok (.iaload, 1) := by decide +kernel
theorem dX8_append_25 : decode cX8_append 25 = .ok (.iconst 1, 1) := by decide +kernel
theorem dX8_append_26 : decode cX8_append 26 = .ok (.iadd, 1) := by decide +kernel
theorem dX8_append_27 : decode cX8_append 27 = .ok (.iastore, 1) := by decide +kernel
theorem dX8_append_28 : decode cX8_append 28 = .ok (.return_, 1) := by decide +kernel
theorem dX8_cut_0 : decode cX8_cut 0 = .ok (.iload_n 1, 1) := by decide +kernel
theorem dX8_cut_1 : decode cX8_cut 1 = .ok (.ifCond .lt 22, 3) := by decide +kernel
theorem dX8_cut_4 : decode cX8_cut 4 = .ok (.iload_n 1, 1) := by decide +kernel
theorem dX8_cut_5 : decode cX8_cut 5 = .ok (.iconst 2, 1) := by decide +kernel
theorem dX8_cut_6 : decode cX8_cut 6 = .ok (.if_icmp .gt 17, 3) := by decide +kernel
theorem dX8_cut_9 : decode cX8_cut 9 = .ok (.iload_n 2, 1) := by decide +kernel
theorem dX8_cut_10 : decode cX8_cut 10 = .ok (.ifCond .lt 13, 3) := by decide +kernel
theorem dX8_cut_13 : decode cX8_cut 13 = .ok (.iload_n 2, 1) := by decide +kernel
theorem dX8_cut_14 : decode cX8_cut 14 = .ok (.aload_n 0, 1) := by decide +kernel
theorem dX8_cut_15 : decode cX8_cut 15 = .ok (.getfield 13, 3) := by decide +kernel
theorem dX8_cut_18 : decode cX8_cut 18 = .ok (.iload_n 1, 1) := by decide +kernel
theorem dX8_cut_19 : decode cX8_cut 19 = .ok (.iaload, 1) := by decide +kernel
theorem dX8_cut_20 : decode cX8_cut 20 = .ok (.if_icmp .le 5, 3) := by decide +kernel
theorem dX8_cut_23 : decode cX8_cut 23 = .ok (.iconst 0, 1) := by decide +kernel
theorem dX8_cut_24 : decode cX8_cut 24 = .ok (.ireturn, 1) := by decide +kernel
theorem dX8_cut_25 : decode cX8_cut 25 = .ok (.aload_n 0, 1) := by decide +kernel
theorem dX8_cut_26 : decode cX8_cut 26 = .ok (.getfield 13, 3) := by decide +kernel
theorem dX8_cut_29 : decode cX8_cut 29 = .ok (.iload_n 1, 1) := by decide +kernel
theorem dX8_cut_30 : decode cX8_cut 30 = .ok (.iload_n 2, 1) := by decide +kernel
theorem dX8_cut_31 : decode cX8_cut 31 = .ok (.iastore, 1) := by decide +kernel
theorem dX8_cut_32 : decode cX8_cut 32 = .ok (.iconst 1, 1) := by decide +kernel
theorem dX8_cut_33 : decode cX8_cut 33 = .ok (.ireturn, 1) := by decide +kernel
set_option maxRecDepth 20000 in
theorem ggX8_set_X8_isByte : GoodIn wsX8_set wsX8_isByte := goodIn_r _ [6] (by decide +kernel) (by decide +kernel)
set_option maxRecDepth 20000 in
theorem gX8_set_X8_isByte : GoodIn wsX8_set (va_wsS RX8 46 yX8_isByte wsX8_isByte) := goodIn_app (goodIn_of _ (by decide +kernel)) ggX8_set_X8_isByte
theorem dX8_set_0 : decode cX8_set 0 = .ok (.iload_n 1, 1) := by decide +kernel
theorem dX8_set_1 : decode cX8_set 1 = .ok (.ifCond .lt 29, 3) := by decide +kernel
theorem dX8_set_4 : decode cX8_set 4 = .ok (.iload_n 1, 1) := by decide +kernel
theorem dX8_set_5 : decode cX8_set 5 = .ok (.iconst 2, 1) := by decide +kernel
theorem dX8_set_6 : decode cX8_set 6 = .ok (.if_icmp .gt 24, 3) := by decide +kernel
theorem dX8_set_9 : decode cX8_set 9 = .ok (.iload_n 2, 1) := by decide +kernel
theorem dX8_set_10 : decode cX8_set 10 = .ok (.ifCond .lt 20, 3) := by decide +kernel
theorem dX8_set_13 : decode cX8_set 13 = .ok (.iload_n 2, 1) := by decide +kernel
theorem dX8_set_14 : decode cX8_set 14 = .ok (.aload_n 0, 1) := by decide +kernel
theorem dX8_set_15 : decode cX8_set 15 = .ok (.getfield 13, 3) := by decide +kernel
theorem dX8_set_18 : decode cX8_set 18 = .ok (.iload_n 1, 1) := by decide +kernel
theorem dX8_set_19 : decode cX8_set 19 = .ok (.iaload, 1) := by decide +kernel
theorem dX8_set_20 : decode cX8_set 20 = .ok (.if_icmp .ge 10, 3) := by decide +kernel
theorem dX8_set_23 : decode cX8_set 23 = .ok (.iload_n 3, 1) := by decide +kernel
theorem dX8_set_24 : decode cX8_set 24 = .ok (.invokestatic 46, 3) := by decide +kernel
theorem dX8_set_27 : decode cX8_set 27 = .ok (.ifCond .ne 5, 3) := by decide +kernel
theorem dX8_set_30 : decode cX8_set 30 = .ok (.iconst 0, 1) := by decide +kernel
theorem dX8_set_31 : decode cX8_set 31 = .ok (.ireturn, 1) := by decide +kernel
theorem dX8_set_32 : decode cX8_set 32 = .ok (.aload_n 0, 1) := by decide +kernel
theorem dX8_set_33 : decode cX8_set 33 = .ok (.getfield 7, 3) := by decide +kernel
theorem dX8_set_36 : decode cX8_set 36 = .ok (.sipush 1000, 3) := by decide +kernel
theorem dX8_set_39 : decode cX8_set 39 = .ok (.iload_n 1, 1) := by decide +kernel
theorem dX8_set_40 : decode cX8_set 40 = .ok (.imul, 1) := by decide +kernel
theorem dX8_set_41 : decode cX8_set 41 = .ok (.iload_n 2, 1) := by decide +kernel
theorem dX8_set_42 : decode cX8_set 42 = .ok (.iadd, 1) := by decide +kernel
theorem dX8_set_43 : decode cX8_set 43 = .ok (.iload_n 3, 1) := by decide +kernel
theorem dX8_set_44 : decode cX8_set 44 = .ok (.iastore, 1) := by decide +kernel
theorem dX8_set_45 : decode cX8_set 45 = .ok (.iconst 1, 1) := by decide +kernel
theorem dX8_set_46 : decode cX8_set 46 = .ok (.ireturn, 1) := by decide +kernel
theorem dX8_length_0 : decode cX8_length 0 = .ok (.iload_n 1, 1) := by decide +kernel
theorem dX8_length_1 : decode cX8_length 1 = .ok (.ifCond .lt 8, 3) := by decide +kernel
theorem dX8_length_4 : decode cX8_length 4 = .ok (.iload_n 1, 1) := by decide +kernel
theorem dX8_length_5 : decode cX8_length 5 = .ok (.iconst 3, 1) := by decide +kernel
theorem dX8_length_6 : decode cX8_length 6 = .ok (.if_icmp .le 7, 3) := by decide +kernel
theorem dX8_length_9 : decode cX8_length 9 = .ok (.iconst (-1), 1) := by decide +kernel
theorem dX8_length_10 : decode cX8_length 10 = .ok (.goto 9, 3) := by decide +kernel
theorem dX8_length_13 : decode cX8_length 13 = .ok (.aload_n 0, 1) := by decide +kernel
theorem dX8_length_14 : decode cX8_length 14 = .ok (.getfield 13, 3) := by decide +kernel
theorem dX8_length_17 : decode cX8_length 17 = .ok (.iload_n 1, 1) := by decide +kernel
theorem dX8_length_18 : decode cX8_length 18 = .ok (.iaload, 1) := by decide +kernel
theorem dX8_length_19 : decode cX8_length 19 = .ok (.ireturn, 1) := by decide +kernel
theorem dX8_byteAt_0 : decode cX8_byteAt 0 = .ok (.iload_n 1, 1) := by decide +kernel
theorem dX8_byteAt_1 : decode cX8_byteAt 1 = .ok (.ifCond .lt 22, 3) := by decide +kernel
theorem dX8_byteAt_4 : decode cX8_byteAt 4 = .ok (.iload_n 1, 1) := by decide +kernel
theorem dX8_byteAt_5 : decode cX8_byteAt 5 = .ok (.iconst 3, 1) := by decide +kernel
theorem dX8_byteAt_6 : decode cX8_byteAt 6 = .ok (.if_icmp .gt 17, 3) := by decide +kernel
theorem dX8_byteAt_9 : decode cX8_byteAt 9 = .ok (.iload_n 2, 1) := by decide +kernel
theorem dX8_byteAt_10 : decode cX8_byteAt 10 = .ok (.ifCond .lt 13, 3) := by decide +kernel
theorem dX8_byteAt_13 : decode cX8_byteAt 13 = .ok (.iload_n 2, 1) := by decide +kernel
theorem dX8_byteAt_14 : decode cX8_byteAt 14 = .ok (.aload_n 0, 1) := by decide +kernel
theorem dX8_byteAt_15 : decode cX8_byteAt 15 = .ok (.getfield 13, 3) := by decide +kernel
theorem dX8_byteAt_18 : decode cX8_byteAt 18 = .ok (.iload_n 1, 1) := by decide +kernel
theorem dX8_byteAt_19 : decode cX8_byteAt 19 = .ok (.iaload, 1) := by decide +kernel
theorem dX8_byteAt_20 : decode cX8_byteAt 20 = .ok (.if_icmp .lt 7, 3) := by decide +kernel
theorem dX8_byteAt_23 : decode cX8_byteAt 23 = .ok (.iconst (-1), 1) := by decide +kernel
theorem dX8_byteAt_24 : decode cX8_byteAt 24 = .ok (.goto 15, 3) := by decide +kernel
theorem dX8_byteAt_27 : decode cX8_byteAt 27 = .ok (.aload_n 0, 1) := by decide +kernel
theorem dX8_byteAt_28 : decode cX8_byteAt 28 = .ok (.getfield 7, 3) := by decide +kernel
theorem dX8_byteAt_31 : decode cX8_byteAt 31 = .ok (.sipush 1000, 3) := by decide +kernel
theorem dX8_byteAt_34 : decode cX8_byteAt 34 = .ok (.iload_n 1, 1) := by decide +kernel
theorem dX8_byteAt_35 : decode cX8_byteAt 35 = .ok (.imul, 1) := by decide +kernel
theorem dX8_byteAt_36 : decode cX8_byteAt 36 = .ok (.iload_n 2, 1) := by decide +kernel
