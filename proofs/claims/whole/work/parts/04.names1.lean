theorem dX0_init_0 : decode cX0_init 0 = .ok (.aload_n 0, 1) := by decide +kernel
theorem dX0_init_1 : decode cX0_init 1 = .ok (.invokespecial 3, 3) := by decide +kernel
theorem dX0_init_4 : decode cX0_init 4 = .ok (.aload_n 0, 1) := by decide +kernel
theorem dX0_init_5 : decode cX0_init 5 = .ok (.iconst 4, 1) := by decide +kernel
theorem dX0_init_6 : decode cX0_init 6 = .ok (.newarray .int, 2) := by decide +kernel
theorem dX0_init_8 : decode cX0_init 8 = .ok (.putfield 9, 3) := by decide +kernel
theorem dX0_init_11 : decode cX0_init 11 = .ok (.aload_n 0, 1) := by decide +kernel
theorem dX0_init_12 : decode cX0_init 12 = .ok (.sipush 768, 3) := by decide +kernel
theorem dX0_init_15 : decode cX0_init 15 = .ok (.newarray .int, 2) := by decide +kernel
theorem dX0_init_17 : decode cX0_init 17 = .ok (.putfield 15, 3) := by decide +kernel
theorem dX0_init_20 : decode cX0_init 20 = .ok (.aload_n 0, 1) := by decide +kernel
theorem dX0_init_21 : decode cX0_init 21 = .ok (.iconst 0, 1) := by decide +kernel
theorem dX0_init_22 : decode cX0_init 22 = .ok (.putfield 18, 3) := by decide +kernel
theorem dX0_init_25 : decode cX0_init 25 = .ok (.return_, 1) := by decide +kernel
theorem dX0_near_0 : decode cX0_near 0 = .ok (.iload_n 1, 1) := by decide +kernel
theorem dX0_near_1 : decode cX0_near 1 = .ok (.ifCond .lt 17, 3) := by decide +kernel
theorem dX0_near_4 : decode cX0_near 4 = .ok (.iload_n 1, 1) := by decide +kernel
theorem dX0_near_5 : decode cX0_near 5 = .ok (.iconst 4, 1) := by decide +kernel
theorem dX0_near_6 : decode cX0_near 6 = .ok (.if_icmp .ge 12, 3) := by decide +kernel
theorem dX0_near_9 : decode cX0_near 9 = .ok (.aload_n 0, 1) := by decide +kernel
theorem dX0_near_10 : decode cX0_near 10 = .ok (.getfield 9, 3) := by decide +kernel
theorem dX0_near_13 : decode cX0_near 13 = .ok (.iload_n 1, 1) := by decide +kernel
theorem dX0_near_14 : decode cX0_near 14 = .ok (.iaload, 1) := by decide +kernel
theorem dX0_near_15 : decode cX0_near 15 = .ok (.goto 4, 3) := by decide +kernel
theorem dX0_near_18 : decode cX0_near 18 = .ok (.iconst 0, 1) := by decide +kernel
theorem dX0_near_19 : decode cX0_near 19 = .ok (.ireturn, 1) := by decide +kernel
theorem dX0_same_0 : decode cX0_same 0 = .ok (.iload_n 1, 1) := by decide +kernel
theorem dX0_same_1 : decode cX0_same 1 = .ok (.ifCond .lt 19, 3) := by decide +kernel
theorem dX0_same_4 : decode cX0_same 4 = .ok (.iload_n 1, 1) := by decide +kernel
theorem dX0_same_5 : decode cX0_same 5 = .ok (.sipush 768, 3) := by decide +kernel
theorem dX0_same_8 : decode cX0_same 8 = .ok (.if_icmp .ge 12, 3) := by decide +kernel
theorem dX0_same_11 : decode cX0_same 11 = .ok (.aload_n 0, 1) := by decide +kernel
theorem dX0_same_12 : decode cX0_same 12 = .ok (.getfield 15, 3) := by decide +kernel
theorem dX0_same_15 : decode cX0_same 15 = .ok (.iload_n 1, 1) := by decide +kernel
theorem dX0_same_16 : decode cX0_same 16 = .ok (.iaload, 1) := by decide +kernel
theorem dX0_same_17 : decode cX0_same 17 = .ok (.goto 4, 3) := by decide +kernel
theorem dX0_same_20 : decode cX0_same 20 = .ok (.iconst 0, 1) := by decide +kernel
theorem dX0_same_21 : decode cX0_same 21 = .ok (.ireturn, 1) := by decide +kernel
set_option maxRecDepth 20000 in
theorem ggX0_clear_J7_fill_53178 : GoodIn wsX0_clear wsJ7_fill_53178 := goodIn_r _ [7] (by decide +kernel) (by decide +kernel)
set_option maxRecDepth 20000 in
theorem gX0_clear_J7_fill_53178 : GoodIn wsX0_clear (va_wsS RX0 22 yJ7_fill_53178 wsJ7_fill_53178) := goodIn_app (goodIn_of _ (by decide +kernel)) ggX0_clear_J7_fill_53178
theorem dX0_clear_0 : decode cX0_clear 0 = .ok (.aload_n 0, 1) := by decide +kernel
theorem dX0_clear_1 : decode cX0_clear 1 = .ok (.getfield 9, 3) := by decide +kernel
theorem dX0_clear_4 : decode cX0_clear 4 = .ok (.iconst 0, 1) := by decide +kernel
theorem dX0_clear_5 : decode cX0_clear 5 = .ok (.invokestatic 22, 3) := by decide +kernel
theorem dX0_clear_8 : decode cX0_clear 8 = .ok (.aload_n 0, 1) := by decide +kernel
theorem dX0_clear_9 : decode cX0_clear 9 = .ok (.getfield 15, 3) := by decide +kernel
theorem dX0_clear_12 : decode cX0_clear 12 = .ok (.iconst 0, 1) := by decide +kernel
theorem dX0_clear_13 : decode cX0_clear 13 = .ok (.invokestatic 22, 3) := by decide +kernel
theorem dX0_clear_16 : decode cX0_clear 16 = .ok (.aload_n 0, 1) := by decide +kernel
theorem dX0_clear_17 : decode cX0_clear 17 = .ok (.iconst 0, 1) := by decide +kernel
theorem dX0_clear_18 : decode cX0_clear 18 = .ok (.putfield 18, 3) := by decide +kernel
theorem dX0_clear_21 : decode cX0_clear 21 = .ok (.return_, 1) := by decide +kernel
set_option maxRecDepth 20000 in
theorem ggX0_learn_J9_floorMod_7cf53 : GoodIn wsX0_learn wsJ9_floorMod_7cf53 := goodIn_r _ [7] (by decide +kernel) (by decide +kernel)
set_option maxRecDepth 20000 in
theorem gX0_learn_J9_floorMod_7cf53 : GoodIn wsX0_learn (va_wsS RX0 28 yJ9_floorMod_7cf53 wsJ9_floorMod_7cf53) := goodIn_app (goodIn_of _ (by decide +kernel)) ggX0_learn_J9_floorMod_7cf53
theorem dX0_learn_0 : decode cX0_learn 0 = .ok (.aload_n 0, 1) := by decide +kernel
theorem dX0_learn_1 : decode cX0_learn 1 = .ok (.getfield 9, 3) := by decide +kernel
theorem dX0_learn_4 : decode cX0_learn 4 = .ok (.aload_n 0, 1) := by decide +kernel
theorem dX0_learn_5 : decode cX0_learn 5 = .ok (.getfield 18, 3) := by decide +kernel
theorem dX0_learn_8 : decode cX0_learn 8 = .ok (.iconst 4, 1) := by decide +kernel
theorem dX0_learn_9 : decode cX0_learn 9 = .ok (.invokestatic 28, 3) := by decide +kernel
theorem dX0_learn_12 : decode cX0_learn 12 = .ok (.iload_n 1, 1) := by decide +kernel
theorem dX0_learn_13 : decode cX0_learn 13 = .ok (.iastore, 1) := by decide +kernel
theorem dX0_learn_14 : decode cX0_learn 14 = .ok (.aload_n 0, 1) := by decide +kernel
theorem dX0_learn_15 : decode cX0_learn 15 = .ok (.getfield 15, 3) := by decide +kernel
theorem dX0_learn_18 : decode cX0_learn 18 = .ok (.iload_n 1, 1) := by decide +kernel
theorem dX0_learn_19 : decode cX0_learn 19 = .ok (.sipush 768, 3) := by decide +kernel
theorem dX0_learn_22 : decode cX0_learn 22 = .ok (.invokestatic 28, 3) := by decide +kernel
theorem dX0_learn_25 : decode cX0_learn 25 = .ok (.iload_n 1, 1) := by decide +kernel
theorem dX0_learn_26 : decode cX0_learn 26 = .ok (.iastore, 1) := by decide +kernel
theorem dX0_learn_27 : decode cX0_learn 27 = .ok (.aload_n 0, 1) := by decide +kernel
theorem dX0_learn_28 : decode cX0_learn 28 = .ok (.dup, 1) := by decide +kernel
theorem dX0_learn_29 : decode cX0_learn 29 = .ok (.getfield 18, 3) := by decide +kernel
theorem dX0_learn_32 : decode cX0_learn 32 = .ok (.iconst 1, 1) := by decide +kernel
theorem dX0_learn_33 : decode cX0_learn 33 = .ok (.iadd, 1) := by decide +kernel
theorem dX0_learn_34 : decode cX0_learn 34 = .ok (.putfield 18, 3) := by decide +kernel
theorem dX0_learn_37 : decode cX0_learn 37 = .ok (.return_, 1) := by decide +kernel
set_option maxRecDepth 20000 in
theorem ggX0_leastMode_X0_integerFor : GoodIn wsX0_leastMode wsX0_integerFor := goodIn_r _ [5, 6, 7, 8, 9] (by decide +kernel) (by decide +kernel)
set_option maxRecDepth 20000 in
theorem gX0_leastMode_X0_integerFor : GoodIn wsX0_leastMode (wsV RX0 34 RX0 yX0_integerFor wsX0_integerFor) := goodIn_app (goodIn_of _ (by decide +kernel)) ggX0_leastMode_X0_integerFor
theorem dX0_leastMode_0 : decode cX0_leastMode 0 = .ok (.iconst 0, 1) := by decide +kernel
theorem dX0_leastMode_1 : decode cX0_leastMode 1 = .ok (.istore_n 3, 1) := by decide +kernel
theorem dX0_leastMode_2 : decode cX0_leastMode 2 = .ok (.iconst 1, 1) := by decide +kernel
theorem dX0_leastMode_3 : decode cX0_leastMode 3 = .ok (.istore 4, 2) := by decide +kernel
theorem dX0_leastMode_5 : decode cX0_leastMode 5 = .ok (.iload 4, 2) := by decide +kernel
theorem dX0_leastMode_7 : decode cX0_leastMode 7 = .ok (.bipush 6, 2) := by decide +kernel
theorem dX0_leastMode_9 : decode cX0_leastMode 9 = .ok (.if_icmp .ge 39, 3) := by decide +kernel
theorem dX0_leastMode_12 : decode cX0_leastMode 12 = .ok (.aload_n 0, 1) := by decide +kernel
theorem dX0_leastMode_13 : decode cX0_leastMode 13 = .ok (.iload 4, 2) := by decide +kernel
theorem dX0_leastMode_15 : decode cX0_leastMode 15 = .ok (.iload_n 1, 1) := by decide +kernel
theorem dX0_leastMode_16 : decode cX0_leastMode 16 = .ok (.iload_n 2, 1) := by decide +kernel
theorem dX0_leastMode_17 : decode cX0_leastMode 17 = .ok (.invokevirtual 34, 3) := by decide +kernel
theorem dX0_leastMode_20 : decode cX0_leastMode 20 = .ok (.istore 5, 2) := by decide +kernel
theorem dX0_leastMode_22 : decode cX0_leastMode 22 = .ok (.iload 5, 2) := by decide +kernel
theorem dX0_leastMode_24 : decode cX0_leastMode 24 = .ok (.ifCond .lt 18, 3) := by decide +kernel
theorem dX0_leastMode_27 : decode cX0_leastMode 27 = .ok (.iload 5, 2) := by decide +kernel
theorem dX0_leastMode_29 : decode cX0_leastMode 29 = .ok (.aload_n 0, 1) := by decide +kernel
theorem dX0_leastMode_30 : decode cX0_leastMode 30 = .ok (.iload_n 3, 1) := by decide +kernel
theorem dX0_leastMode_31 : decode cX0_leastMode 31 = .ok (.iload_n 1, 1) := by decide +kernel
theorem dX0_leastMode_32 : decode cX0_leastMode 32 = .ok (.iload_n 2, 1) := by decide +kernel
theorem dX0_leastMode_33 : decode cX0_leastMode 33 = .ok (.invokevirtual 34, 3) := by decide +kernel
theorem dX0_leastMode_36 : decode cX0_leastMode 36 = .ok (.if_icmp .ge 6, 3) := by decide +kernel
theorem dX0_leastMode_39 : decode cX0_leastMode 39 = .ok (.iload 4, 2) := by decide +kernel
theorem dX0_leastMode_41 : decode cX0_leastMode 41 = .ok (.istore_n 3, 1) := by decide +kernel
theorem dX0_leastMode_42 : decode cX0_leastMode 42 = .ok (.iinc 4 1, 3) := by decide +kernel
theorem dX0_leastMode_45 : decode cX0_leastMode 45 = .ok (.goto (-40), 3) := by decide +kernel
theorem dX0_leastMode_48 : decode cX0_leastMode 48 = .ok (.iload_n 3, 1) := by decide +kernel
theorem dX0_leastMode_49 : decode cX0_leastMode 49 = .ok (.ireturn, 1) := by decide +kernel
theorem dX0_integerFor_0 : decode cX0_integerFor 0 = .ok (.iload_n 1, 1) := by decide +kernel
theorem dX0_integerFor_1 : decode cX0_integerFor 1 = .ok (.iconst 2, 1) := by decide +kernel
theorem dX0_integerFor_2 : decode cX0_integerFor 2 = .ok (.if_icmp .lt 20, 3) := by decide +kernel
theorem dX0_integerFor_5 : decode cX0_integerFor 5 = .ok (.iload_n 1, 1) := by decide +kernel
theorem dX0_integerFor_6 : decode cX0_integerFor 6 = .ok (.bipush 6, 2) := by decide +kernel
theorem dX0_integerFor_8 : decode cX0_integerFor 8 = .ok (.if_icmp .ge 14, 3) := by decide +kernel
theorem dX0_integerFor_11 : decode cX0_integerFor 11 = .ok (.iload_n 2, 1) := by decide +kernel
theorem dX0_integerFor_12 : decode cX0_integerFor 12 = .ok (.aload_n 0, 1) := by decide +kernel
theorem dX0_integerFor_13 : decode cX0_integerFor 13 = .ok (.getfield 9, 3) := by decide +kernel
theorem dX0_integerFor_16 : decode cX0_integerFor 16 = .ok (.iload_n 1, 1) := by decide +kernel
theorem dX0_integerFor_17 : decode cX0_integerFor 17 = .ok (.iconst 2, 1) := by decide +kernel
theorem dX0_integerFor_18 : decode cX0_integerFor 18 = .ok (.isub, 1) := by decide +kernel
theorem dX0_integerFor_19 : decode cX0_integerFor 19 = .ok (.iaload, 1) := by decide +kernel
theorem dX0_integerFor_20 : decode cX0_integerFor 20 = .ok (.isub, 1) := by decide +kernel
theorem dX0_integerFor_21 : decode cX0_integerFor 21 = .ok (.ireturn, 1) := by decide +kernel
theorem dX0_integerFor_22 : decode cX0_integerFor 22 = .ok (.iload_n 1, 1) := by decide +kernel
theorem dX0_integerFor_23 : decode cX0_integerFor 23 = .ok (.iconst 1, 1) := by decide +kernel
theorem dX0_integerFor_24 : decode cX0_integerFor 24 = .ok (.if_icmp .ne 9, 3) := by decide +kernel
theorem dX0_integerFor_27 : decode cX0_integerFor 27 = .ok (.iload_n 3, 1) := by decide +kernel
theorem dX0_integerFor_28 : decode cX0_integerFor 28 = .ok (.iload_n 2, 1) := by decide +kernel
theorem dX0_integerFor_29 : decode cX0_integerFor 29 = .ok (.isub, 1) := by decide +kernel
theorem dX0_integerFor_30 : decode cX0_integerFor 30 = .ok (.goto 4, 3) := by decide +kernel
theorem dX0_integerFor_33 : decode cX0_integerFor 33 = .ok (.iload_n 2, 1) := by decide +kernel
theorem dX0_integerFor_34 : decode cX0_integerFor 34 = .ok (.ireturn, 1) := by decide +kernel
theorem dX0_addressFor_0 : decode cX0_addressFor 0 = .ok (.iload_n 1, 1) := by decide +kernel
theorem dX0_addressFor_1 : decode cX0_addressFor 1 = .ok (.iconst 2, 1) := by decide +kernel
theorem dX0_addressFor_2 : decode cX0_addressFor 2 = .ok (.if_icmp .lt 22, 3) := by decide +kernel
theorem dX0_addressFor_5 : decode cX0_addressFor 5 = .ok (.iload_n 1, 1) := by decide +kernel
theorem dX0_addressFor_6 : decode cX0_addressFor 6 = .ok (.bipush 6, 2) := by decide +kernel
theorem dX0_addressFor_8 : decode cX0_addressFor 8 = .ok (.if_icmp .ge 16, 3) := by decide +kernel
theorem dX0_addressFor_11 : decode cX0_addressFor 11 = .ok (.aload_n 0, 1) := by decide +kernel
theorem dX0_addressFor_12 : decode cX0_addressFor 12 = .ok (.getfield 9, 3) := by decide +kernel
theorem dX0_addressFor_15 : decode cX0_addressFor 15 = .ok (.iload_n 1, 1) := by decide +kernel
theorem dX0_addressFor_16 : decode cX0_addressFor 16 = .ok (.iconst 2, 1) := by decide +kernel
theorem dX0_addressFor_17 : decode cX0_addressFor 17 = .ok (.isub, 1) := by decide +kernel
theorem dX0_addressFor_18 : decode cX0_addressFor 18 = .ok (.iaload, 1) := by decide +kernel
theorem dX0_addressFor_19 : decode cX0_addressFor 19 = .ok (.i2l, 1) := by decide +kernel
theorem dX0_addressFor_20 : decode cX0_addressFor 20 = .ok (.iload_n 2, 1) := by decide +kernel
theorem dX0_addressFor_21 : decode cX0_addressFor 21 = .ok (.i2l, 1) := by decide +kernel
theorem dX0_addressFor_22 : decode cX0_addressFor 22 = .ok (.ladd, 1) := by decide +kernel
theorem dX0_addressFor_23 : decode cX0_addressFor 23 = .ok (.lreturn, 1) := by decide +kernel
theorem dX0_addressFor_24 : decode cX0_addressFor 24 = .ok (.iload_n 1, 1) := by decide +kernel
theorem dX0_addressFor_25 : decode cX0_addressFor 25 = .ok (.iconst 1, 1) := by decide +kernel
theorem dX0_addressFor_26 : decode cX0_addressFor 26 = .ok (.if_icmp .ne 10, 3) := by decide +kernel
theorem dX0_addressFor_29 : decode cX0_addressFor 29 = .ok (.iload_n 3, 1) := by decide +kernel
theorem dX0_addressFor_30 : decode cX0_addressFor 30 = .ok (.iload_n 2, 1) := by decide +kernel
theorem dX0_addressFor_31 : decode cX0_addressFor 31 = .ok (.isub, 1) := by decide +kernel
theorem dX0_addressFor_32 : decode cX0_addressFor 32 = .ok (.i2l, 1) := by decide +kernel
theorem dX0_addressFor_33 : decode cX0_addressFor 33 = .ok (.goto 5, 3) := by decide +kernel
theorem dX0_addressFor_36 : decode cX0_addressFor 36 = .ok (.iload_n 2, 1) := by decide +kernel
theorem dX0_addressFor_37 : decode cX0_addressFor 37 = .ok (.i2l, 1) := by decide +kernel
theorem dX0_addressFor_38 : decode cX0_addressFor 38 = .ok (.lreturn, 1) := by decide +kernel
theorem dX0_become_0 : decode cX0_become 0 = .ok (.aload_n 1, 1) := by decide +kernel
theorem dX0_become_1 : decode cX0_become 1 = .ok (.getfield 9, 3) := by decide +kernel
theorem dX0_become_4 : decode cX0_become 4 = .ok (.iconst 0, 1) := by decide +kernel
theorem dX0_become_5 : decode cX0_become 5 = .ok (.aload_n 0, 1) := by decide +kernel
theorem dX0_become_6 : decode cX0_become 6 = .ok (.getfield 9, 3) := by decide +kernel
theorem dX0_become_9 : decode cX0_become 9 = .ok (.iconst 0, 1) := by decide +kernel
theorem dX0_become_10 : decode cX0_become 10 = .ok (.iconst 4, 1) := by decide +kernel
theorem dX0_become_11 : decode cX0_become 11 = .ok (.invokestatic 38, 3) := by decide +kernel
theorem dX0_become_14 : decode cX0_become 14 = .ok (.aload_n 1, 1) := by decide +kernel
theorem dX0_become_15 : decode cX0_become 15 = .ok (.getfield 15, 3) := by decide +kernel
theorem dX0_become_18 : decode cX0_become 18 = .ok (.iconst 0, 1) := by decide +kernel
theorem dX0_become_19 : decode cX0_become 19 = .ok (.aload_n 0, 1) := by decide +kernel
theorem dX0_become_20 : decode cX0_become 20 = .ok (.getfield 15, 3) := by decide +kernel
theorem dX0_become_23 : decode cX0_become 23 = .ok (.iconst 0, 1) := by decide +kernel
theorem dX0_become_24 : decode cX0_become 24 = .ok (.sipush 768, 3) := by decide +kernel
theorem dX0_become_27 : decode cX0_become 27 = .ok (.invokestatic 38, 3) := by decide +kernel
theorem dX0_become_30 : decode cX0_become 30 = .ok (.aload_n 0, 1) := by decide +kernel
theorem dX0_become_31 : decode cX0_become 31 = .ok (.aload_n 1, 1) := by decide +kernel
theorem dX0_become_32 : decode cX0_become 32 = .ok (.getfield 18, 3) := by decide +kernel
theorem dX0_become_35 : decode cX0_become 35 = .ok (.putfield 18, 3) := by decide +kernel
theorem dX0_become_38 : decode cX0_become 38 = .ok (.return_, 1) := by decide +kernel
set_option maxRecDepth 20000 in
theorem ggX1_partOf_X1_partOfSingle : GoodIn wsX1_partOf wsX1_partOfSingle := goodIn_r _ [4] (by decide +kernel) (by decide +kernel)
set_option maxRecDepth 20000 in
theorem gX1_partOf_X1_partOfSingle : GoodIn wsX1_partOf (va_wsS RX1 11 yX1_partOfSingle wsX1_partOfSingle) := goodIn_app (goodIn_of _ (by decide +kernel)) ggX1_partOf_X1_partOfSingle
set_option maxRecDepth 20000 in
theorem ggX1_partOf_X1_partOfAddCopy : GoodIn wsX1_partOf wsX1_partOfAddCopy := goodIn_r _ [7] (by decide +kernel) (by decide +kernel)
set_option maxRecDepth 20000 in
theorem gX1_partOf_X1_partOfAddCopy : GoodIn wsX1_partOf (va_wsS RX1 15 yX1_partOfAddCopy wsX1_partOfAddCopy) := goodIn_app (goodIn_of _ (by decide +kernel)) ggX1_partOf_X1_partOfAddCopy
set_option maxRecDepth 20000 in
theorem ggX1_partOf_X1_partOfCopyAdd : GoodIn wsX1_partOf wsX1_partOfCopyAdd := goodIn_r _ [10] (by decide +kernel) (by decide +kernel)
set_option maxRecDepth 20000 in
theorem gX1_partOf_X1_partOfCopyAdd : GoodIn wsX1_partOf (va_wsS RX1 19 yX1_partOfCopyAdd wsX1_partOfCopyAdd) := goodIn_app (goodIn_of _ (by decide +kernel)) ggX1_partOf_X1_partOfCopyAdd
theorem dX1_partOf_0 : decode cX1_partOf 0 = .ok (.iload_n 0, 1) := by decide +kernel
theorem dX1_partOf_1 : decode cX1_partOf 1 = .ok (.sipush 163, 3) := by decide +kernel
theorem dX1_partOf_4 : decode cX1_partOf 4 = .ok (.if_icmp .ge 18, 3) := by decide +kernel
theorem dX1_partOf_7 : decode cX1_partOf 7 = .ok (.iload_n 1, 1) := by decide +kernel
theorem dX1_partOf_8 : decode cX1_partOf 8 = .ok (.iconst 3, 1) := by decide +kernel
theorem dX1_partOf_9 : decode cX1_partOf 9 = .ok (.if_icmp .ge 11, 3) := by decide +kernel
theorem dX1_partOf_12 : decode cX1_partOf 12 = .ok (.iload_n 0, 1) := by decide +kernel
theorem dX1_partOf_13 : decode cX1_partOf 13 = .ok (.iload_n 1, 1) := by decide +kernel
theorem dX1_partOf_14 : decode cX1_partOf 14 = .ok (.invokestatic 11, 3) := by decide +kernel
theorem dX1_partOf_17 : decode cX1_partOf 17 = .ok (.goto 4, 3) := by decide +kernel
theorem dX1_partOf_20 : decode cX1_partOf 20 = .ok (.iconst 0, 1) := by decide +kernel
theorem dX1_partOf_21 : decode cX1_partOf 21 = .ok (.ireturn, 1) := by decide +kernel
theorem dX1_partOf_22 : decode cX1_partOf 22 = .ok (.iload_n 0, 1) := by decide +kernel
theorem dX1_partOf_23 : decode cX1_partOf 23 = .ok (.sipush 235, 3) := by decide +kernel
theorem dX1_partOf_26 : decode cX1_partOf 26 = .ok (.if_icmp .ge 37, 3) := by decide +kernel
theorem dX1_partOf_29 : decode cX1_partOf 29 = .ok (.iload_n 0, 1) := by decide +kernel
theorem dX1_partOf_30 : decode cX1_partOf 30 = .ok (.sipush 163, 3) := by decide +kernel
theorem dX1_partOf_33 : decode cX1_partOf 33 = .ok (.isub, 1) := by decide +kernel
theorem dX1_partOf_34 : decode cX1_partOf 34 = .ok (.istore_n 2, 1) := by decide +kernel
theorem dX1_partOf_35 : decode cX1_partOf 35 = .ok (.iload_n 2, 1) := by decide +kernel
theorem dX1_partOf_36 : decode cX1_partOf 36 = .ok (.bipush 12, 2) := by decide +kernel
theorem dX1_partOf_38 : decode cX1_partOf 38 = .ok (.idiv, 1) := by decide +kernel
theorem dX1_partOf_39 : decode cX1_partOf 39 = .ok (.istore_n 3, 1) := by decide +kernel
theorem dX1_partOf_40 : decode cX1_partOf 40 = .ok (.iload_n 2, 1) := by decide +kernel
theorem dX1_partOf_41 : decode cX1_partOf 41 = .ok (.bipush 12, 2) := by decide +kernel
theorem dX1_partOf_43 : decode cX1_partOf 43 = .ok (.irem, 1) := by decide +kernel
theorem dX1_partOf_44 : decode cX1_partOf 44 = .ok (.iconst 3, 1) := by decide +kernel
theorem dX1_partOf_45 : decode cX1_partOf 45 = .ok (.idiv, 1) := by decide +kernel
theorem dX1_partOf_46 : decode cX1_partOf 46 = .ok (.iconst 1, 1) := by decide +kernel
theorem dX1_partOf_47 : decode cX1_partOf 47 = .ok (.iadd, 1) := by decide +kernel
theorem dX1_partOf_48 : decode cX1_partOf 48 = .ok (.istore 4, 2) := by decide +kernel
theorem dX1_partOf_50 : decode cX1_partOf 50 = .ok (.iload_n 1, 1) := by decide +kernel
theorem dX1_partOf_51 : decode cX1_partOf 51 = .ok (.iload 4, 2) := by decide +kernel
theorem dX1_partOf_53 : decode cX1_partOf 53 = .ok (.iload_n 2, 1) := by decide +kernel
theorem dX1_partOf_54 : decode cX1_partOf 54 = .ok (.iconst 3, 1) := by decide +kernel
theorem dX1_partOf_55 : decode cX1_partOf 55 = .ok (.irem, 1) := by decide +kernel
theorem dX1_partOf_56 : decode cX1_partOf 56 = .ok (.iconst 4, 1) := by decide +kernel
theorem dX1_partOf_57 : decode cX1_partOf 57 = .ok (.iadd, 1) := by decide +kernel
theorem dX1_partOf_58 : decode cX1_partOf 58 = .ok (.iload_n 3, 1) := by decide +kernel
theorem dX1_partOf_59 : decode cX1_partOf 59 = .ok (.invokestatic 15, 3) := by decide +kernel
theorem dX1_partOf_62 : decode cX1_partOf 62 = .ok (.ireturn, 1) := by decide +kernel
theorem dX1_partOf_63 : decode cX1_partOf 63 = .ok (.iload_n 0, 1) := by decide +kernel
theorem dX1_partOf_64 : decode cX1_partOf 64 = .ok (.sipush 247, 3) := by decide +kernel
theorem dX1_partOf_67 : decode cX1_partOf 67 = .ok (.if_icmp .ge 28, 3) := by decide +kernel
theorem dX1_partOf_70 : decode cX1_partOf 70 = .ok (.iload_n 0, 1) := by decide +kernel
theorem dX1_partOf_71 : decode cX1_partOf 71 = .ok (.sipush 235, 3) := by decide +kernel
theorem dX1_partOf_74 : decode cX1_partOf 74 = .ok (.isub, 1) := by decide +kernel
theorem dX1_partOf_75 : decode cX1_partOf 75 = .ok (.istore_n 2, 1) := by decide +kernel
theorem dX1_partOf_76 : decode cX1_partOf 76 = .ok (.iload_n 2, 1) := by decide +kernel
theorem dX1_partOf_77 : decode cX1_partOf 77 = .ok (.iconst 4, 1) := by decide +kernel
theorem dX1_partOf_78 : decode cX1_partOf 78 = .ok (.idiv, 1) := by decide +kernel
theorem dX1_partOf_79 : decode cX1_partOf 79 = .ok (.bipush 6, 2) := by decide +kernel
theorem dX1_partOf_81 : decode cX1_partOf 81 = .ok (.iadd, 1) := by decide +kernel
theorem dX1_partOf_82 : decode cX1_partOf 82 = .ok (.istore_n 3, 1) := by decide +kernel
theorem dX1_partOf_83 : decode cX1_partOf 83 = .ok (.iload_n 1, 1) := by decide +kernel
theorem dX1_partOf_84 : decode cX1_partOf 84 = .ok (.iload_n 2, 1) := by decide +kernel
theorem dX1_partOf_85 : decode cX1_partOf 85 = .ok (.iconst 4, 1) := by decide +kernel
theorem dX1_partOf_86 : decode cX1_partOf 86 = .ok (.irem, 1) := by decide +kernel
theorem dX1_partOf_87 : decode cX1_partOf 87 = .ok (.iconst 1, 1) := by decide +kernel
theorem dX1_partOf_88 : decode cX1_partOf 88 = .ok (.iadd, 1) := by decide +kernel
theorem dX1_partOf_89 : decode cX1_partOf 89 = .ok (.iconst 4, 1) := by decide +kernel
theorem dX1_partOf_90 : decode cX1_partOf 90 = .ok (.iload_n 3, 1) := by decide +kernel
theorem dX1_partOf_91 : decode cX1_partOf 91 = .ok (.invokestatic 15, 3) := by decide +kernel
theorem dX1_partOf_94 : decode cX1_partOf 94 = .ok (.ireturn, 1) := by decide +kernel
theorem dX1_partOf_95 : decode cX1_partOf 95 = .ok (.iload_n 1, 1) := by decide +kernel
theorem dX1_partOf_96 : decode cX1_partOf 96 = .ok (.iload_n 0, 1) := by decide +kernel
theorem dX1_partOf_97 : decode cX1_partOf 97 = .ok (.sipush 247, 3) := by decide +kernel
theorem dX1_partOf_100 : decode cX1_partOf 100 = .ok (.isub, 1) := by decide +kernel
theorem dX1_partOf_101 : decode cX1_partOf 101 = .ok (.invokestatic 19, 3) := by decide +kernel
theorem dX1_partOf_104 : decode cX1_partOf 104 = .ok (.ireturn, 1) := by decide +kernel
theorem dX1_partOfSingle_0 : decode cX1_partOfSingle 0 = .ok (.iload_n 0, 1) := by decide +kernel
theorem dX1_partOfSingle_1 : decode cX1_partOfSingle 1 = .ok (.ifCond .ne 13, 3) := by decide +kernel
theorem dX1_partOfSingle_4 : decode cX1_partOfSingle 4 = .ok (.iload_n 1, 1) := by decide +kernel
theorem dX1_partOfSingle_5 : decode cX1_partOfSingle 5 = .ok (.ifCond .ne 7, 3) := by decide +kernel
theorem dX1_partOfSingle_8 : decode cX1_partOfSingle 8 = .ok (.iconst 2, 1) := by decide +kernel
theorem dX1_partOfSingle_9 : decode cX1_partOfSingle 9 = .ok (.goto 4, 3) := by decide +kernel
theorem dX1_partOfSingle_12 : decode cX1_partOfSingle 12 = .ok (.iconst 0, 1) := by decide +kernel
theorem dX1_partOfSingle_13 : decode cX1_partOfSingle 13 = .ok (.ireturn, 1) := by decide +kernel
theorem dX1_partOfSingle_14 : decode cX1_partOfSingle 14 = .ok (.iload_n 0, 1) := by decide +kernel
theorem dX1_partOfSingle_15 : decode cX1_partOfSingle 15 = .ok (.bipush 19, 2) := by decide +kernel
theorem dX1_partOfSingle_17 : decode cX1_partOfSingle 17 = .ok (.if_icmp .ge 26, 3) := by decide +kernel
theorem dX1_partOfSingle_20 : decode cX1_partOfSingle 20 = .ok (.iload_n 0, 1) := by decide +kernel
theorem dX1_partOfSingle_21 : decode cX1_partOfSingle 21 = .ok (.iconst 1, 1) := by decide +kernel
theorem dX1_partOfSingle_22 : decode cX1_partOfSingle 22 = .ok (.isub, 1) := by decide +kernel
theorem dX1_partOfSingle_23 : decode cX1_partOfSingle 23 = .ok (.istore_n 2, 1) := by decide +kernel
theorem dX1_partOfSingle_24 : decode cX1_partOfSingle 24 = .ok (.iload_n 1, 1) := by decide +kernel
theorem dX1_partOfSingle_25 : decode cX1_partOfSingle 25 = .ok (.ifCond .ne 7, 3) := by decide +kernel
theorem dX1_partOfSingle_28 : decode cX1_partOfSingle 28 = .ok (.iconst 1, 1) := by decide +kernel
theorem dX1_partOfSingle_29 : decode cX1_partOfSingle 29 = .ok (.goto 13, 3) := by decide +kernel
theorem dX1_partOfSingle_32 : decode cX1_partOfSingle 32 = .ok (.iload_n 1, 1) := by decide +kernel
theorem dX1_partOfSingle_33 : decode cX1_partOfSingle 33 = .ok (.iconst 1, 1) := by decide +kernel
theorem dX1_partOfSingle_34 : decode cX1_partOfSingle 34 = .ok (.if_icmp .ne 7, 3) := by decide +kernel
theorem dX1_partOfSingle_37 : decode cX1_partOfSingle 37 = .ok (.iload_n 2, 1) := by decide +kernel
theorem dX1_partOfSingle_38 : decode cX1_partOfSingle 38 = .ok (.goto 4, 3) := by decide +kernel
theorem dX1_partOfSingle_41 : decode cX1_partOfSingle 41 = .ok (.iconst 0, 1) := by decide +kernel
theorem dX1_partOfSingle_42 : decode cX1_partOfSingle 42 = .ok (.ireturn, 1) := by decide +kernel
theorem dX1_partOfSingle_43 : decode cX1_partOfSingle 43 = .ok (.iload_n 0, 1) := by decide +kernel
theorem dX1_partOfSingle_44 : decode cX1_partOfSingle 44 = .ok (.bipush 19, 2) := by decide +kernel
theorem dX1_partOfSingle_46 : decode cX1_partOfSingle 46 = .ok (.isub, 1) := by decide +kernel
theorem dX1_partOfSingle_47 : decode cX1_partOfSingle 47 = .ok (.bipush 16, 2) := by decide +kernel
theorem dX1_partOfSingle_49 : decode cX1_partOfSingle 49 = .ok (.irem, 1) := by decide +kernel
theorem dX1_partOfSingle_50 : decode cX1_partOfSingle 50 = .ok (.istore_n 2, 1) := by decide +kernel
theorem dX1_partOfSingle_51 : decode cX1_partOfSingle 51 = .ok (.iload_n 2, 1) := by decide +kernel
theorem dX1_partOfSingle_52 : decode cX1_partOfSingle 52 = .ok (.ifCond .ne 7, 3) := by decide +kernel
theorem dX1_partOfSingle_55 : decode cX1_partOfSingle 55 = .ok (.iconst 0, 1) := by decide +kernel
theorem dX1_partOfSingle_56 : decode cX1_partOfSingle 56 = .ok (.goto 8, 3) := by decide +kernel
theorem dX1_partOfSingle_59 : decode cX1_partOfSingle 59 = .ok (.iload_n 2, 1) := by decide +kernel
theorem dX1_partOfSingle_60 : decode cX1_partOfSingle 60 = .ok (.iconst 4, 1) := by decide +kernel
theorem dX1_partOfSingle_61 : decode cX1_partOfSingle 61 = .ok (.iadd, 1) := by decide +kernel
theorem dX1_partOfSingle_62 : decode cX1_partOfSingle 62 = .ok (.iconst 1, 1) := by decide +kernel
theorem dX1_partOfSingle_63 : decode cX1_partOfSingle 63 = .ok (.isub, 1) := by decide +kernel
theorem dX1_partOfSingle_64 : decode cX1_partOfSingle 64 = .ok (.istore_n 3, 1) := by decide +kernel
theorem dX1_partOfSingle_65 : decode cX1_partOfSingle 65 = .ok (.iload_n 0, 1) := by decide +kernel
theorem dX1_partOfSingle_66 : decode cX1_partOfSingle 66 = .ok (.bipush 19, 2) := by decide +kernel
theorem dX1_partOfSingle_68 : decode cX1_partOfSingle 68 = .ok (.isub, 1) := by decide +kernel
theorem dX1_partOfSingle_69 : decode cX1_partOfSingle 69 = .ok (.bipush 16, 2) := by decide +kernel
theorem dX1_partOfSingle_71 : decode cX1_partOfSingle 71 = .ok (.idiv, 1) := by decide +kernel
theorem dX1_partOfSingle_72 : decode cX1_partOfSingle 72 = .ok (.istore 4, 2) := by decide +kernel
theorem dX1_partOfSingle_74 : decode cX1_partOfSingle 74 = .ok (.iload_n 1, 1) := by decide +kernel
theorem dX1_partOfSingle_75 : decode cX1_partOfSingle 75 = .ok (.ifCond .ne 7, 3) := by decide +kernel
theorem dX1_partOfSingle_78 : decode cX1_partOfSingle 78 = .ok (.iconst 3, 1) := by decide +kernel
theorem dX1_partOfSingle_79 : decode cX1_partOfSingle 79 = .ok (.goto 14, 3) := by decide +kernel
theorem dX1_partOfSingle_82 : decode cX1_partOfSingle 82 = .ok (.iload_n 1, 1) := by decide +kernel
theorem dX1_partOfSingle_83 : decode cX1_partOfSingle 83 = .ok (.iconst 1, 1) := by decide +kernel
theorem dX1_partOfSingle_84 : decode cX1_partOfSingle 84 = .ok (.if_icmp .ne 7, 3) := by decide +kernel
theorem dX1_partOfSingle_87 : decode cX1_partOfSingle 87 = .ok (.iload_n 3, 1) := by decide +kernel
theorem dX1_partOfSingle_88 : decode cX1_partOfSingle 88 = .ok (.goto 5, 3) := by decide +kernel
theorem dX1_partOfSingle_91 : decode cX1_partOfSingle 91 = .ok (.iload 4, 2) := by decide +kernel
theorem dX1_partOfSingle_93 : decode cX1_partOfSingle 93 = .ok (.ireturn, 1) := by decide +kernel
theorem dX1_partOfAddCopy_0 : decode cX1_partOfAddCopy 0 = .ok (.iload_n 0, 1) := by decide +kernel
theorem dX1_partOfAddCopy_1 : decode cX1_partOfAddCopy 1 = .ok (.tableswitch 49 0 5 #[39, 41, 49, 43, 45, 47], 39) := by decide +kernel
theorem dX1_partOfAddCopy_40 : decode cX1_partOfAddCopy 40 = .ok (.iconst 1, 1) := by decide +kernel
theorem dX1_partOfAddCopy_41 : decode cX1_partOfAddCopy 41 = .ok (.ireturn, 1) := by decide +kernel
theorem dX1_partOfAddCopy_42 : decode cX1_partOfAddCopy 42 = .ok (.iload_n 1, 1) := by decide +kernel
theorem dX1_partOfAddCopy_43 : decode cX1_partOfAddCopy 43 = .ok (.ireturn, 1) := by decide +kernel
theorem dX1_partOfAddCopy_44 : decode cX1_partOfAddCopy 44 = .ok (.iconst 3, 1) := by decide +kernel
theorem dX1_partOfAddCopy_45 : decode cX1_partOfAddCopy 45 = .ok (.ireturn, 1) := by decide +kernel
theorem dX1_partOfAddCopy_46 : decode cX1_partOfAddCopy 46 = .ok (.iload_n 2, 1) := by decide +kernel
theorem dX1_partOfAddCopy_47 : decode cX1_partOfAddCopy 47 = .ok (.ireturn, 1) := by decide +kernel
theorem dX1_partOfAddCopy_48 : decode cX1_partOfAddCopy 48 = .ok (.iload_n 3, 1) := by decide +kernel
theorem dX1_partOfAddCopy_49 : decode cX1_partOfAddCopy 49 = .ok (.ireturn, 1) := by decide +kernel
theorem dX1_partOfAddCopy_50 : decode cX1_partOfAddCopy 50 = .ok (.iconst 0, 1) := by decide +kernel
theorem dX1_partOfAddCopy_51 : decode cX1_partOfAddCopy 51 = .ok (.ireturn, 1) := by decide +kernel
theorem dX1_partOfCopyAdd_0 : decode cX1_partOfCopyAdd 0 = .ok (.iload_n 0, 1) := by decide +kernel
theorem dX1_partOfCopyAdd_1 : decode cX1_partOfCopyAdd 1 = .ok (.tableswitch 45 0 4 #[35, 37, 39, 41, 43], 35) := by decide +kernel
theorem dX1_partOfCopyAdd_36 : decode cX1_partOfCopyAdd 36 = .ok (.iconst 3, 1) := by decide +kernel
theorem dX1_partOfCopyAdd_37 : decode cX1_partOfCopyAdd 37 = .ok (.ireturn, 1) := by decide +kernel
theorem dX1_partOfCopyAdd_38 : decode cX1_partOfCopyAdd 38 = .ok (.iconst 4, 1) := by decide +kernel
theorem dX1_partOfCopyAdd_39 : decode cX1_partOfCopyAdd 39 = .ok (.ireturn, 1) := by decide +kernel
theorem dX1_partOfCopyAdd_40 : decode cX1_partOfCopyAdd 40 = .ok (.iload_n 1, 1) := by decide +kernel
theorem dX1_partOfCopyAdd_41 : decode cX1_partOfCopyAdd 41 = .ok (.ireturn, 1) := by decide +kernel
theorem dX1_partOfCopyAdd_42 : decode cX1_partOfCopyAdd 42 = .ok (.iconst 1, 1) := by decide +kernel
theorem dX1_partOfCopyAdd_43 : decode cX1_partOfCopyAdd 43 = .ok (.ireturn, 1) := by decide +kernel
theorem dX1_partOfCopyAdd_44 : decode cX1_partOfCopyAdd 44 = .ok (.iconst 1, 1) := by decide +kernel
theorem dX1_partOfCopyAdd_45 : decode cX1_partOfCopyAdd 45 = .ok (.ireturn, 1) := by decide +kernel
theorem dX1_partOfCopyAdd_46 : decode cX1_partOfCopyAdd 46 = .ok (.iconst 0, 1) := by decide +kernel
theorem dX1_partOfCopyAdd_47 : decode cX1_partOfCopyAdd 47 = .ok (.ireturn, 1) := by decide +kernel
theorem dX1_single_0 : decode cX1_single 0 = .ok (.iload_n 0, 1) := by decide +kernel
theorem dX1_single_1 : decode cX1_single 1 = .ok (.iconst 2, 1) := by decide +kernel
theorem dX1_single_2 : decode cX1_single 2 = .ok (.if_icmp .ne 5, 3) := by decide +kernel
theorem dX1_single_5 : decode cX1_single 5 = .ok (.iconst 0, 1) := by decide +kernel
theorem dX1_single_6 : decode cX1_single 6 = .ok (.ireturn, 1) := by decide +kernel
theorem dX1_single_7 : decode cX1_single 7 = .ok (.iload_n 0, 1) := by decide +kernel
theorem dX1_single_8 : decode cX1_single 8 = .ok (.iconst 1, 1) := by decide +kernel
theorem dX1_single_9 : decode cX1_single 9 = .ok (.if_icmp .ne 17, 3) := by decide +kernel
theorem dX1_single_12 : decode cX1_single 12 = .ok (.iload_n 1, 1) := by decide +kernel
theorem dX1_single_13 : decode cX1_single 13 = .ok (.bipush 17, 2) := by decide +kernel
theorem dX1_single_15 : decode cX1_single 15 = .ok (.if_icmp .gt 9, 3) := by decide +kernel
theorem dX1_single_18 : decode cX1_single 18 = .ok (.iconst 1, 1) := by decide +kernel
theorem dX1_single_19 : decode cX1_single 19 = .ok (.iload_n 1, 1) := by decide +kernel
theorem dX1_single_20 : decode cX1_single 20 = .ok (.iadd, 1) := by decide +kernel
theorem dX1_single_21 : decode cX1_single 21 = .ok (.goto 4, 3) := by decide +kernel
theorem dX1_single_24 : decode cX1_single 24 = .ok (.iconst 1, 1) := by decide +kernel
theorem dX1_single_25 : decode cX1_single 25 = .ok (.ireturn, 1) := by decide +kernel
theorem dX1_single_26 : decode cX1_single 26 = .ok (.bipush 19, 2) := by decide +kernel
theorem dX1_single_28 : decode cX1_single 28 = .ok (.bipush 16, 2) := by decide +kernel
theorem dX1_single_30 : decode cX1_single 30 = .ok (.iload_n 2, 1) := by decide +kernel
theorem dX1_single_31 : decode cX1_single 31 = .ok (.imul, 1) := by decide +kernel
theorem dX1_single_32 : decode cX1_single 32 = .ok (.iadd, 1) := by decide +kernel
theorem dX1_single_33 : decode cX1_single 33 = .ok (.istore_n 3, 1) := by decide +kernel
theorem dX1_single_34 : decode cX1_single 34 = .ok (.iload_n 1, 1) := by decide +kernel
theorem dX1_single_35 : decode cX1_single 35 = .ok (.iconst 4, 1) := by decide +kernel
theorem dX1_single_36 : decode cX1_single 36 = .ok (.if_icmp .lt 13, 3) := by decide +kernel
theorem dX1_single_39 : decode cX1_single 39 = .ok (.iload_n 1, 1) := by decide +kernel
theorem dX1_single_40 : decode cX1_single 40 = .ok (.bipush 18, 2) := by decide +kernel
theorem dX1_single_42 : decode cX1_single 42 = .ok (.if_icmp .gt 7, 3) := by decide +kernel
theorem dX1_single_45 : decode cX1_single 45 = .ok (.iconst 1, 1) := by decide +kernel
theorem dX1_single_46 : decode cX1_single 46 = .ok (.goto 4, 3) := by decide +kernel
theorem dX1_single_49 : decode cX1_single 49 = .ok (.iconst 0, 1) := by decide +kernel
theorem dX1_single_50 : decode cX1_single 50 = .ok (.istore 4, 2) := by decide +kernel
theorem dX1_single_52 : decode cX1_single 52 = .ok (.iload 4, 2) := by decide +kernel
theorem dX1_single_54 : decode cX1_single 54 = .ok (.ifCond .eq 13, 3) := by decide +kernel
theorem dX1_single_57 : decode cX1_single 57 = .ok (.iload_n 3, 1) := by decide +kernel
theorem dX1_single_58 : decode cX1_single 58 = .ok (.iload_n 1, 1) := by decide +kernel
theorem dX1_single_59 : decode cX1_single 59 = .ok (.iadd, 1) := by decide +kernel
theorem dX1_single_60 : decode cX1_single 60 = .ok (.iconst 4, 1) := by decide +kernel
theorem dX1_single_61 : decode cX1_single 61 = .ok (.isub, 1) := by decide +kernel
theorem dX1_single_62 : decode cX1_single 62 = .ok (.iconst 1, 1) := by decide +kernel
theorem dX1_single_63 : decode cX1_single 63 = .ok (.iadd, 1) := by decide +kernel
theorem dX1_single_64 : decode cX1_single 64 = .ok (.goto 4, 3) := by decide +kernel
theorem dX1_single_67 : decode cX1_single 67 = .ok (.iload_n 3, 1) := by decide +kernel
theorem dX1_single_68 : decode cX1_single 68 = .ok (.ireturn, 1) := by decide +kernel
theorem dX1_addThenCopy_0 : decode cX1_addThenCopy 0 = .ok (.iload_n 0, 1) := by decide +kernel
theorem dX1_addThenCopy_1 : decode cX1_addThenCopy 1 = .ok (.iconst 1, 1) := by decide +kernel
theorem dX1_addThenCopy_2 : decode cX1_addThenCopy 2 = .ok (.if_icmp .lt 13, 3) := by decide +kernel
theorem dX1_addThenCopy_5 : decode cX1_addThenCopy 5 = .ok (.iload_n 0, 1) := by decide +kernel
theorem dX1_addThenCopy_6 : decode cX1_addThenCopy 6 = .ok (.iconst 4, 1) := by decide +kernel
theorem dX1_addThenCopy_7 : decode cX1_addThenCopy 7 = .ok (.if_icmp .gt 8, 3) := by decide +kernel
theorem dX1_addThenCopy_10 : decode cX1_addThenCopy 10 = .ok (.iload_n 1, 1) := by decide +kernel
theorem dX1_addThenCopy_11 : decode cX1_addThenCopy 11 = .ok (.iconst 4, 1) := by decide +kernel
theorem dX1_addThenCopy_12 : decode cX1_addThenCopy 12 = .ok (.if_icmp .ge 5, 3) := by decide +kernel
theorem dX1_addThenCopy_15 : decode cX1_addThenCopy 15 = .ok (.iconst (-1), 1) := by decide +kernel
theorem dX1_addThenCopy_16 : decode cX1_addThenCopy 16 = .ok (.ireturn, 1) := by decide +kernel
theorem dX1_addThenCopy_17 : decode cX1_addThenCopy 17 = .ok (.iload_n 2, 1) := by decide +kernel
theorem dX1_addThenCopy_18 : decode cX1_addThenCopy 18 = .ok (.bipush 6, 2) := by decide +kernel
theorem dX1_addThenCopy_20 : decode cX1_addThenCopy 20 = .ok (.if_icmp .ge 34, 3) := by decide +kernel
theorem dX1_addThenCopy_23 : decode cX1_addThenCopy 23 = .ok (.bipush 12, 2) := by decide +kernel
theorem dX1_addThenCopy_25 : decode cX1_addThenCopy 25 = .ok (.iload_n 2, 1) := by decide +kernel
theorem dX1_addThenCopy_26 : decode cX1_addThenCopy 26 = .ok (.imul, 1) := by decide +kernel
theorem dX1_addThenCopy_27 : decode cX1_addThenCopy 27 = .ok (.iconst 3, 1) := by decide +kernel
theorem dX1_addThenCopy_28 : decode cX1_addThenCopy 28 = .ok (.iload_n 0, 1) := by decide +kernel
theorem dX1_addThenCopy_29 : decode cX1_addThenCopy 29 = .ok (.iconst 1, 1) := by decide +kernel
theorem dX1_addThenCopy_30 : decode cX1_addThenCopy 30 = .ok (.isub, 1) := by decide +kernel
theorem dX1_addThenCopy_31 : decode cX1_addThenCopy 31 = .ok (.imul, 1) := by decide +kernel
theorem dX1_addThenCopy_32 : decode cX1_addThenCopy 32 = .ok (.iadd, 1) := by decide +kernel
theorem dX1_addThenCopy_33 : decode cX1_addThenCopy 33 = .ok (.iload_n 1, 1) := by decide +kernel
theorem dX1_addThenCopy_34 : decode cX1_addThenCopy 34 = .ok (.iadd, 1) := by decide +kernel
theorem dX1_addThenCopy_35 : decode cX1_addThenCopy 35 = .ok (.iconst 4, 1) := by decide +kernel
theorem dX1_addThenCopy_36 : decode cX1_addThenCopy 36 = .ok (.isub, 1) := by decide +kernel
theorem dX1_addThenCopy_37 : decode cX1_addThenCopy 37 = .ok (.istore_n 3, 1) := by decide +kernel
theorem dX1_addThenCopy_38 : decode cX1_addThenCopy 38 = .ok (.iload_n 1, 1) := by decide +kernel
theorem dX1_addThenCopy_39 : decode cX1_addThenCopy 39 = .ok (.bipush 6, 2) := by decide +kernel
theorem dX1_addThenCopy_41 : decode cX1_addThenCopy 41 = .ok (.if_icmp .gt 11, 3) := by decide +kernel
theorem dX1_addThenCopy_44 : decode cX1_addThenCopy 44 = .ok (.sipush 163, 3) := by decide +kernel
theorem dX1_addThenCopy_47 : decode cX1_addThenCopy 47 = .ok (.iload_n 3, 1) := by decide +kernel
theorem dX1_addThenCopy_48 : decode cX1_addThenCopy 48 = .ok (.iadd, 1) := by decide +kernel
theorem dX1_addThenCopy_49 : decode cX1_addThenCopy 49 = .ok (.goto 4, 3) := by decide +kernel
theorem dX1_addThenCopy_52 : decode cX1_addThenCopy 52 = .ok (.iconst (-1), 1) := by decide +kernel
theorem dX1_addThenCopy_53 : decode cX1_addThenCopy 53 = .ok (.ireturn, 1) := by decide +kernel
theorem dX1_addThenCopy_54 : decode cX1_addThenCopy 54 = .ok (.iconst 4, 1) := by decide +kernel
theorem dX1_addThenCopy_55 : decode cX1_addThenCopy 55 = .ok (.iload_n 2, 1) := by decide +kernel
theorem dX1_addThenCopy_56 : decode cX1_addThenCopy 56 = .ok (.bipush 6, 2) := by decide +kernel
theorem dX1_addThenCopy_58 : decode cX1_addThenCopy 58 = .ok (.isub, 1) := by decide +kernel
theorem dX1_addThenCopy_59 : decode cX1_addThenCopy 59 = .ok (.imul, 1) := by decide +kernel
theorem dX1_addThenCopy_60 : decode cX1_addThenCopy 60 = .ok (.iload_n 0, 1) := by decide +kernel
theorem dX1_addThenCopy_61 : decode cX1_addThenCopy 61 = .ok (.iadd, 1) := by decide +kernel
theorem dX1_addThenCopy_62 : decode cX1_addThenCopy 62 = .ok (.iconst 1, 1) := by decide +kernel
theorem dX1_addThenCopy_63 : decode cX1_addThenCopy 63 = .ok (.isub, 1) := by decide +kernel
theorem dX1_addThenCopy_64 : decode cX1_addThenCopy 64 = .ok (.istore_n 3, 1) := by decide +kernel
theorem dX1_addThenCopy_65 : decode cX1_addThenCopy 65 = .ok (.iload_n 1, 1) := by decide +kernel
theorem dX1_addThenCopy_66 : decode cX1_addThenCopy 66 = .ok (.iconst 4, 1) := by decide +kernel
theorem dX1_addThenCopy_67 : decode cX1_addThenCopy 67 = .ok (.if_icmp .ne 11, 3) := by decide +kernel
theorem dX1_addThenCopy_70 : decode cX1_addThenCopy 70 = .ok (.sipush 235, 3) := by decide +kernel
theorem dX1_addThenCopy_73 : decode cX1_addThenCopy 73 = .ok (.iload_n 3, 1) := by decide +kernel
theorem dX1_addThenCopy_74 : decode cX1_addThenCopy 74 = .ok (.iadd, 1) := by decide +kernel
theorem dX1_addThenCopy_75 : decode cX1_addThenCopy 75 = .ok (.goto 4, 3) := by decide +kernel
theorem dX1_addThenCopy_78 : decode cX1_addThenCopy 78 = .ok (.iconst (-1), 1) := by decide +kernel
theorem dX1_addThenCopy_79 : decode cX1_addThenCopy 79 = .ok (.ireturn, 1) := by decide +kernel
theorem dX1_copyThenAdd_0 : decode cX1_copyThenAdd 0 = .ok (.iload_n 0, 1) := by decide +kernel
theorem dX1_copyThenAdd_1 : decode cX1_copyThenAdd 1 = .ok (.iconst 4, 1) := by decide +kernel
theorem dX1_copyThenAdd_2 : decode cX1_copyThenAdd 2 = .ok (.if_icmp .ne 16, 3) := by decide +kernel
theorem dX1_copyThenAdd_5 : decode cX1_copyThenAdd 5 = .ok (.iload_n 2, 1) := by decide +kernel
theorem dX1_copyThenAdd_6 : decode cX1_copyThenAdd 6 = .ok (.iconst 1, 1) := by decide +kernel
theorem dX1_copyThenAdd_7 : decode cX1_copyThenAdd 7 = .ok (.if_icmp .ne 11, 3) := by decide +kernel
theorem dX1_copyThenAdd_10 : decode cX1_copyThenAdd 10 = .ok (.sipush 247, 3) := by decide +kernel
theorem dX1_copyThenAdd_13 : decode cX1_copyThenAdd 13 = .ok (.iload_n 1, 1) := by decide +kernel
theorem dX1_copyThenAdd_14 : decode cX1_copyThenAdd 14 = .ok (.iadd, 1) := by decide +kernel
theorem dX1_copyThenAdd_15 : decode cX1_copyThenAdd 15 = .ok (.goto 4, 3) := by decide +kernel
theorem dX1_copyThenAdd_18 : decode cX1_copyThenAdd 18 = .ok (.iconst (-1), 1) := by decide +kernel
theorem dX1_copyThenAdd_19 : decode cX1_copyThenAdd 19 = .ok (.ireturn, 1) := by decide +kernel
set_option maxRecDepth 20000 in
theorem ggX2_init_X6_init : GoodIn wsX2_init wsX6_init := goodIn_r _ [28, 29, 2, 3, 30, 31, 32, 60, 61] (by decide +kernel) (by decide +kernel)
set_option maxRecDepth 20000 in
theorem gX2_init_X6_init : GoodIn wsX2_init (wsX6_init) := ggX2_init_X6_init
set_option maxRecDepth 20000 in
theorem ggX2_init_X0_init : GoodIn wsX2_init wsX0_init := goodIn_r _ [35, 36, 2, 3, 30, 37, 38, 39, 62, 63, 64] (by decide +kernel) (by decide +kernel)
set_option maxRecDepth 20000 in
theorem gX2_init_X0_init : GoodIn wsX2_init (wsX0_init) := ggX2_init_X0_init
set_option maxRecDepth 20000 in
theorem ggX2_init_X5_init : GoodIn wsX2_init wsX5_init := goodIn_r _ [42, 43, 2, 3, 44, 45, 46, 65, 66, 67] (by decide +kernel) (by decide +kernel)
set_option maxRecDepth 20000 in
theorem gX2_init_X5_init : GoodIn wsX2_init (wsX5_init) := ggX2_init_X5_init
theorem dX2_init_0 : decode cX2_init 0 = .ok (.aload_n 0, 1) := by decide +kernel
theorem dX2_init_1 : decode cX2_init 1 = .ok (.invokespecial 3, 3) := by decide +kernel
theorem dX2_init_4 : decode cX2_init 4 = .ok (.aload_n 0, 1) := by decide +kernel
theorem dX2_init_5 : decode cX2_init 5 = .ok (.aload_n 1, 1) := by decide +kernel
theorem dX2_init_6 : decode cX2_init 6 = .ok (.putfield 9, 3) := by decide +kernel
theorem dX2_init_9 : decode cX2_init 9 = .ok (.aload_n 0, 1) := by decide +kernel
theorem dX2_init_10 : decode cX2_init 10 = .ok (.new 15, 3) := by decide +kernel
theorem dX2_init_13 : decode cX2_init 13 = .ok (.dup, 1) := by decide +kernel
theorem dX2_init_14 : decode cX2_init 14 = .ok (.sipush 400, 3) := by decide +kernel
theorem dX2_init_17 : decode cX2_init 17 = .ok (.invokespecial 17, 3) := by decide +kernel
theorem dX2_init_20 : decode cX2_init 20 = .ok (.putfield 20, 3) := by decide +kernel
theorem dX2_init_23 : decode cX2_init 23 = .ok (.aload_n 0, 1) := by decide +kernel
theorem dX2_init_24 : decode cX2_init 24 = .ok (.new 23, 3) := by decide +kernel
theorem dX2_init_27 : decode cX2_init 27 = .ok (.dup, 1) := by decide +kernel
theorem dX2_init_28 : decode cX2_init 28 = .ok (.invokespecial 25, 3) := by decide +kernel
theorem dX2_init_31 : decode cX2_init 31 = .ok (.putfield 26, 3) := by decide +kernel
theorem dX2_init_34 : decode cX2_init 34 = .ok (.aload_n 0, 1) := by decide +kernel
theorem dX2_init_35 : decode cX2_init 35 = .ok (.new 30, 3) := by decide +kernel
theorem dX2_init_38 : decode cX2_init 38 = .ok (.dup, 1) := by decide +kernel
theorem dX2_init_39 : decode cX2_init 39 = .ok (.aload_n 2, 1) := by decide +kernel
theorem dX2_init_40 : decode cX2_init 40 = .ok (.invokespecial 32, 3) := by decide +kernel
theorem dX2_init_43 : decode cX2_init 43 = .ok (.putfield 35, 3) := by decide +kernel
theorem dX2_init_46 : decode cX2_init 46 = .ok (.aload_n 0, 1) := by decide +kernel
theorem dX2_init_47 : decode cX2_init 47 = .ok (.new 30, 3) := by decide +kernel
theorem dX2_init_50 : decode cX2_init 50 = .ok (.dup, 1) := by decide +kernel
theorem dX2_init_51 : decode cX2_init 51 = .ok (.aload_n 2, 1) := by decide +kernel
theorem dX2_init_52 : decode cX2_init 52 = .ok (.invokespecial 32, 3) := by decide +kernel
theorem dX2_init_55 : decode cX2_init 55 = .ok (.putfield 39, 3) := by decide +kernel
theorem dX2_init_58 : decode cX2_init 58 = .ok (.aload_n 0, 1) := by decide +kernel
theorem dX2_init_59 : decode cX2_init 59 = .ok (.new 30, 3) := by decide +kernel
theorem dX2_init_62 : decode cX2_init 62 = .ok (.dup, 1) := by decide +kernel
theorem dX2_init_63 : decode cX2_init 63 = .ok (.aload_n 2, 1) := by decide +kernel
theorem dX2_init_64 : decode cX2_init 64 = .ok (.invokespecial 32, 3) := by decide +kernel
theorem dX2_init_67 : decode cX2_init 67 = .ok (.putfield 42, 3) := by decide +kernel
theorem dX2_init_70 : decode cX2_init 70 = .ok (.aload_n 0, 1) := by decide +kernel
theorem dX2_init_71 : decode cX2_init 71 = .ok (.new 30, 3) := by decide +kernel
theorem dX2_init_74 : decode cX2_init 74 = .ok (.dup, 1) := by decide +kernel
theorem dX2_init_75 : decode cX2_init 75 = .ok (.aload_n 2, 1) := by decide +kernel
theorem dX2_init_76 : decode cX2_init 76 = .ok (.invokespecial 32, 3) := by decide +kernel
theorem dX2_init_79 : decode cX2_init 79 = .ok (.putfield 45, 3) := by decide +kernel
theorem dX2_init_82 : decode cX2_init 82 = .ok (.aload_n 0, 1) := by decide +kernel
theorem dX2_init_83 : decode cX2_init 83 = .ok (.iconst 0, 1) := by decide +kernel
theorem dX2_init_84 : decode cX2_init 84 = .ok (.putfield 48, 3) := by decide +kernel
theorem dX2_init_87 : decode cX2_init 87 = .ok (.aload_n 0, 1) := by decide +kernel
theorem dX2_init_88 : decode cX2_init 88 = .ok (.aload_n 1, 1) := by decide +kernel
theorem dX2_init_89 : decode cX2_init 89 = .ok (.putfield 52, 3) := by decide +kernel
theorem dX2_init_92 : decode cX2_init 92 = .ok (.aload_n 0, 1) := by decide +kernel
theorem dX2_init_93 : decode cX2_init 93 = .ok (.iconst 0, 1) := by decide +kernel
theorem dX2_init_94 : decode cX2_init 94 = .ok (.putfield 55, 3) := by decide +kernel
theorem dX2_init_97 : decode cX2_init 97 = .ok (.aload_n 0, 1) := by decide +kernel
theorem dX2_init_98 : decode cX2_init 98 = .ok (.iconst 0, 1) := by decide +kernel
theorem dX2_init_99 : decode cX2_init 99 = .ok (.putfield 58, 3) := by decide +kernel
theorem dX2_init_102 : decode cX2_init 102 = .ok (.aload_n 0, 1) := by decide +kernel
theorem dX2_init_103 : decode cX2_init 103 = .ok (.iconst 0, 1) := by decide +kernel
theorem dX2_init_104 : decode cX2_init 104 = .ok (.putfield 61, 3) := by decide +kernel
theorem dX2_init_107 : decode cX2_init 107 = .ok (.aload_n 0, 1) := by decide +kernel
theorem dX2_init_108 : decode cX2_init 108 = .ok (.iconst 0, 1) := by decide +kernel
theorem dX2_init_109 : decode cX2_init 109 = .ok (.putfield 64, 3) := by decide +kernel
theorem dX2_init_112 : decode cX2_init 112 = .ok (.return_, 1) := by decide +kernel
set_option maxRecDepth 20000 in
theorem ggX2_readDelta_X6_keep : GoodIn wsX2_readDelta wsX6_keep := goodIn_r _ [9, 10, 171, 172] (by decide +kernel) (by decide +kernel)
set_option maxRecDepth 20000 in
theorem gX2_readDelta_X6_keep : GoodIn wsX2_readDelta (wsV RX2 67 RX6 yX6_keep wsX6_keep) := goodIn_app (goodIn_of _ (by decide +kernel)) ggX2_readDelta_X6_keep
set_option maxRecDepth 20000 in
theorem ggX2_readDelta_X0_clear : GoodIn wsX2_readDelta wsX0_clear := goodIn_r _ [15, 16, 17, 18, 19, 20, 21, 22, 173, 174, 175] (by decide +kernel) (by decide +kernel)
set_option maxRecDepth 20000 in
theorem gX2_readDelta_X0_clear : GoodIn wsX2_readDelta (wsV RX2 70 RX0 yX0_clear wsX0_clear) := goodIn_app (goodIn_of _ (by decide +kernel)) ggX2_readDelta_X0_clear
set_option maxRecDepth 20000 in
theorem ggX2_readDelta_X5_open : GoodIn wsX2_readDelta wsX5_open := goodIn_r _ [27, 28, 29, 30, 31, 32, 33, 34, 35, 36, 37, 176, 177, 178, 171, 172] (by decide +kernel) (by decide +kernel)
set_option maxRecDepth 20000 in
theorem gX2_readDelta_X5_open : GoodIn wsX2_readDelta (wsV RX2 73 RX5 yX5_open wsX5_open) := goodIn_app (goodIn_of _ (by decide +kernel)) ggX2_readDelta_X5_open
set_option maxRecDepth 20000 in
theorem ggX2_readDelta_X2_readHead : GoodIn wsX2_readDelta wsX2_readHead := goodIn_r _ [42, 4, 43, 44, 45, 26, 46, 36, 37, 28, 158, 159, 160, 161, 162, 163, 164, 165, 166, 167, 168, 169, 170, 176, 177, 178, 171, 172] (by decide +kernel) (by decide +kernel)
set_option maxRecDepth 20000 in
theorem gX2_readDelta_X2_readHead : GoodIn wsX2_readDelta (wsV RX2 77 RX2 yX2_readHead wsX2_readHead) := goodIn_app (goodIn_of _ (by decide +kernel)) ggX2_readDelta_X2_readHead
set_option maxRecDepth 20000 in
theorem ggX2_readDelta_X5_left : GoodIn wsX2_readDelta wsX5_left := goodIn_r _ [50, 37, 36, 176, 177, 178] (by decide +kernel) (by decide +kernel)
set_option maxRecDepth 20000 in
theorem gX2_readDelta_X5_left : GoodIn wsX2_readDelta (wsV RX2 81 RX5 yX5_left wsX5_left) := goodIn_app (goodIn_of _ (by decide +kernel)) ggX2_readDelta_X5_left
set_option maxRecDepth 20000 in
theorem ggX2_readDelta_X2_readWindowHead : GoodIn wsX2_readDelta wsX2_readWindowHead := goodIn_r _ [54, 4, 1, 55, 56, 57, 58, 59, 41, 60, 61, 62, 63, 64, 43, 44, 45, 26, 46, 36, 37, 28, 65, 66, 67, 68, 69, 70, 71, 72, 73, 74, 8, 75, 10, 76, 77, 78, 79, 80, 81, 82, 83, 84, 85, 86, 47, 48, 49, 50, 23, 24, 25, 27, 29, 30, 31, 32, 33, 34, 35, 158, 159, 160, 161, 162, 163, 164, 165, 166, 167, 168, 169, 170, 176, 177, 178, 171, 172] (by decide +kernel) (by decide +kernel)
set_option maxRecDepth 20000 in
theorem gX2_readDelta_X2_readWindowHead : GoodIn wsX2_readDelta (wsV RX2 85 RX2 yX2_readWindowHead wsX2_readWindowHead) := goodIn_app (goodIn_of _ (by decide +kernel)) ggX2_readDelta_X2_readWindowHead
set_option maxRecDepth 20000 in
theorem ggX2_readDelta_X2_makeWindow : GoodIn wsX2_readDelta wsX2_makeWindow := goodIn_r _ [90, 2, 85, 1, 56, 84, 86, 11, 12, 13, 14, 15, 16, 17, 18, 19, 20, 21, 22, 47, 48, 49, 26, 50, 37, 36, 43, 44, 45, 46, 28, 91, 92, 93, 41, 94, 95, 96, 97, 98, 99, 100, 101, 102, 103, 104, 105, 106, 107, 65, 66, 67, 68, 69, 70, 71, 72, 73, 74, 8, 75, 10, 108, 109, 110, 111, 112, 113, 114, 115, 116, 117, 118, 119, 120, 121, 122, 123, 124, 125, 126, 127, 128, 129, 130, 131, 132, 133, 64, 55, 134, 135, 136, 137, 138, 139, 140, 141, 142, 143, 144, 145, 62, 63, 146, 147, 148, 149, 150, 151, 152, 153, 154, 155, 156, 157, 158, 159, 160, 161, 162, 163, 164, 165, 166, 167, 168, 169, 170, 173, 174, 175, 176, 177, 178, 171, 172] (by decide +kernel) (by decide +kernel)
set_option maxRecDepth 20000 in
theorem gX2_readDelta_X2_makeWindow : GoodIn wsX2_readDelta (wsV RX2 89 RX2 yX2_makeWindow wsX2_makeWindow) := goodIn_app (goodIn_of _ (by decide +kernel)) ggX2_readDelta_X2_makeWindow
set_option maxRecDepth 20000 in
theorem ggX2_readDelta_X6_count : GoodIn wsX2_readDelta wsX6_count := goodIn_r _ [75, 10, 171, 172] (by decide +kernel) (by decide +kernel)
set_option maxRecDepth 20000 in
theorem gX2_readDelta_X6_count : GoodIn wsX2_readDelta (wsV RX2 92 RX6 yX6_count wsX6_count) := goodIn_app (goodIn_of _ (by decide +kernel)) ggX2_readDelta_X6_count
theorem dX2_readDelta_0 : decode cX2_readDelta 0 = .ok (.aload_n 0, 1) := by decide +kernel
theorem dX2_readDelta_1 : decode cX2_readDelta 1 = .ok (.getfield 20, 3) := by decide +kernel
theorem dX2_readDelta_4 : decode cX2_readDelta 4 = .ok (.iconst 0, 1) := by decide +kernel
theorem dX2_readDelta_5 : decode cX2_readDelta 5 = .ok (.invokevirtual 67, 3) := by decide +kernel
theorem dX2_readDelta_8 : decode cX2_readDelta 8 = .ok (.aload_n 0, 1) := by decide +kernel
theorem dX2_readDelta_9 : decode cX2_readDelta 9 = .ok (.getfield 26, 3) := by decide +kernel
theorem dX2_readDelta_12 : decode cX2_readDelta 12 = .ok (.invokevirtual 70, 3) := by decide +kernel
theorem dX2_readDelta_15 : decode cX2_readDelta 15 = .ok (.aload_n 0, 1) := by decide +kernel
theorem dX2_readDelta_16 : decode cX2_readDelta 16 = .ok (.iconst 0, 1) := by decide +kernel
theorem dX2_readDelta_17 : decode cX2_readDelta 17 = .ok (.putfield 48, 3) := by decide +kernel
theorem dX2_readDelta_20 : decode cX2_readDelta 20 = .ok (.aload_n 0, 1) := by decide +kernel
theorem dX2_readDelta_21 : decode cX2_readDelta 21 = .ok (.getfield 35, 3) := by decide +kernel
theorem dX2_readDelta_24 : decode cX2_readDelta 24 = .ok (.iconst 0, 1) := by decide +kernel
theorem dX2_readDelta_25 : decode cX2_readDelta 25 = .ok (.sipush 1000, 3) := by decide +kernel
theorem dX2_readDelta_28 : decode cX2_readDelta 28 = .ok (.invokevirtual 73, 3) := by decide +kernel
theorem dX2_readDelta_31 : decode cX2_readDelta 31 = .ok (.aload_n 0, 1) := by decide +kernel
theorem dX2_readDelta_32 : decode cX2_readDelta 32 = .ok (.invokevirtual 77, 3) := by decide +kernel
theorem dX2_readDelta_35 : decode cX2_readDelta 35 = .ok (.ifCond .ne 6, 3) := by decide +kernel
theorem dX2_readDelta_38 : decode cX2_readDelta 38 = .ok (.bipush (-2), 2) := by decide +kernel
theorem dX2_readDelta_40 : decode cX2_readDelta 40 = .ok (.ireturn, 1) := by decide +kernel
theorem dX2_readDelta_41 : decode cX2_readDelta 41 = .ok (.iconst 0, 1) := by decide +kernel
theorem dX2_readDelta_42 : decode cX2_readDelta 42 = .ok (.istore_n 2, 1) := by decide +kernel
theorem dX2_readDelta_43 : decode cX2_readDelta 43 = .ok (.iload_n 2, 1) := by decide +kernel
theorem dX2_readDelta_44 : decode cX2_readDelta 44 = .ok (.sipush 1000, 3) := by decide +kernel
theorem dX2_readDelta_47 : decode cX2_readDelta 47 = .ok (.if_icmp .ge 51, 3) := by decide +kernel
theorem dX2_readDelta_50 : decode cX2_readDelta 50 = .ok (.aload_n 0, 1) := by decide +kernel
theorem dX2_readDelta_51 : decode cX2_readDelta 51 = .ok (.getfield 35, 3) := by decide +kernel
theorem dX2_readDelta_54 : decode cX2_readDelta 54 = .ok (.invokevirtual 81, 3) := by decide +kernel
theorem dX2_readDelta_57 : decode cX2_readDelta 57 = .ok (.ifCond .le 41, 3) := by decide +kernel
theorem dX2_readDelta_60 : decode cX2_readDelta 60 = .ok (.aload_n 0, 1) := by decide +kernel
theorem dX2_readDelta_61 : decode cX2_readDelta 61 = .ok (.iload_n 1, 1) := by decide +kernel
theorem dX2_readDelta_62 : decode cX2_readDelta 62 = .ok (.invokevirtual 85, 3) := by decide +kernel
theorem dX2_readDelta_65 : decode cX2_readDelta 65 = .ok (.istore_n 3, 1) := by decide +kernel
theorem dX2_readDelta_66 : decode cX2_readDelta 66 = .ok (.iload_n 3, 1) := by decide +kernel
theorem dX2_readDelta_67 : decode cX2_readDelta 67 = .ok (.ifCond .eq 5, 3) := by decide +kernel
theorem dX2_readDelta_70 : decode cX2_readDelta 70 = .ok (.iload_n 3, 1) := by decide +kernel
theorem dX2_readDelta_71 : decode cX2_readDelta 71 = .ok (.ireturn, 1) := by decide +kernel
theorem dX2_readDelta_72 : decode cX2_readDelta 72 = .ok (.aload_n 0, 1) := by decide +kernel
theorem dX2_readDelta_73 : decode cX2_readDelta 73 = .ok (.invokevirtual 89, 3) := by decide +kernel
theorem dX2_readDelta_76 : decode cX2_readDelta 76 = .ok (.ifCond .ne 6, 3) := by decide +kernel
theorem dX2_readDelta_79 : decode cX2_readDelta 79 = .ok (.bipush (-2), 2) := by decide +kernel
theorem dX2_readDelta_81 : decode cX2_readDelta 81 = .ok (.ireturn, 1) := by decide +kernel
theorem dX2_readDelta_82 : decode cX2_readDelta 82 = .ok (.aload_n 0, 1) := by decide +kernel
theorem dX2_readDelta_83 : decode cX2_readDelta 83 = .ok (.dup, 1) := by decide +kernel
theorem dX2_readDelta_84 : decode cX2_readDelta 84 = .ok (.getfield 48, 3) := by decide +kernel
theorem dX2_readDelta_87 : decode cX2_readDelta 87 = .ok (.iconst 1, 1) := by decide +kernel
theorem dX2_readDelta_88 : decode cX2_readDelta 88 = .ok (.iadd, 1) := by decide +kernel
theorem dX2_readDelta_89 : decode cX2_readDelta 89 = .ok (.putfield 48, 3) := by decide +kernel
theorem dX2_readDelta_92 : decode cX2_readDelta 92 = .ok (.iinc 2 1, 3) := by decide +kernel
theorem dX2_readDelta_95 : decode cX2_readDelta 95 = .ok (.goto (-52), 3) := by decide +kernel
theorem dX2_readDelta_98 : decode cX2_readDelta 98 = .ok (.aload_n 0, 1) := by decide +kernel
theorem dX2_readDelta_99 : decode cX2_readDelta 99 = .ok (.getfield 20, 3) := by decide +kernel
theorem dX2_readDelta_102 : decode cX2_readDelta 102 = .ok (.invokevirtual 92, 3) := by decide +kernel
theorem dX2_readDelta_105 : decode cX2_readDelta 105 = .ok (.ireturn, 1) := by decide +kernel
set_option maxRecDepth 20000 in
theorem ggX2_readHead_X5_nextByte : GoodIn wsX2_readHead wsX5_nextByte := goodIn_r _ [6, 7, 8, 9, 23, 24, 25, 26, 27] (by decide +kernel) (by decide +kernel)
set_option maxRecDepth 20000 in
theorem gX2_readHead_X5_nextByte : GoodIn wsX2_readHead (wsV RX2 99 RX5 yX5_nextByte wsX5_nextByte) := goodIn_app (goodIn_of _ (by decide +kernel)) ggX2_readHead_X5_nextByte
theorem dX2_readHead_0 : decode cX2_readHead 0 = .ok (.getstatic 95, 3) := by decide +kernel
theorem dX2_readHead_3 : decode cX2_readHead 3 = .ok (.astore_n 1, 1) := by decide +kernel
theorem dX2_readHead_4 : decode cX2_readHead 4 = .ok (.aload_n 1, 1) := by decide +kernel
theorem dX2_readHead_5 : decode cX2_readHead 5 = .ok (.arraylength, 1) := by decide +kernel
theorem dX2_readHead_6 : decode cX2_readHead 6 = .ok (.istore_n 2, 1) := by decide +kernel
theorem dX2_readHead_7 : decode cX2_readHead 7 = .ok (.iconst 0, 1) := by decide +kernel
theorem dX2_readHead_8 : decode cX2_readHead 8 = .ok (.istore_n 3, 1) := by decide +kernel
theorem dX2_readHead_9 : decode cX2_readHead 9 = .ok (.iload_n 3, 1) := by decide +kernel
theorem dX2_readHead_10 : decode cX2_readHead 10 = .ok (.iload_n 2, 1) := by decide +kernel
theorem dX2_readHead_11 : decode cX2_readHead 11 = .ok (.if_icmp .ge 28, 3) := by decide +kernel
theorem dX2_readHead_14 : decode cX2_readHead 14 = .ok (.aload_n 1, 1) := by decide +kernel
theorem dX2_readHead_15 : decode cX2_readHead 15 = .ok (.iload_n 3, 1) := by decide +kernel
theorem dX2_readHead_16 : decode cX2_readHead 16 = .ok (.iaload, 1) := by decide +kernel
theorem dX2_readHead_17 : decode cX2_readHead 17 = .ok (.istore 4, 2) := by decide +kernel
theorem dX2_readHead_19 : decode cX2_readHead 19 = .ok (.aload_n 0, 1) := by decide +kernel
theorem dX2_readHead_20 : decode cX2_readHead 20 = .ok (.getfield 35, 3) := by decide +kernel
theorem dX2_readHead_23 : decode cX2_readHead 23 = .ok (.invokevirtual 99, 3) := by decide +kernel
theorem dX2_readHead_26 : decode cX2_readHead 26 = .ok (.iload 4, 2) := by decide +kernel
theorem dX2_readHead_28 : decode cX2_readHead 28 = .ok (.if_icmp .eq 5, 3) := by decide +kernel
theorem dX2_readHead_31 : decode cX2_readHead 31 = .ok (.iconst 0, 1) := by decide +kernel
theorem dX2_readHead_32 : decode cX2_readHead 32 = .ok (.ireturn, 1) := by decide +kernel
theorem dX2_readHead_33 : decode cX2_readHead 33 = .ok (.iinc 3 1, 3) := by decide +kernel
theorem dX2_readHead_36 : decode cX2_readHead 36 = .ok (.goto (-27), 3) := by decide +kernel
theorem dX2_readHead_39 : decode cX2_readHead 39 = .ok (.iconst 1, 1) := by decide +kernel
theorem dX2_readHead_40 : decode cX2_readHead 40 = .ok (.ireturn, 1) := by decide +kernel
set_option maxRecDepth 20000 in
theorem ggX2_readWindowHead_X2_readSegment : GoodIn wsX2_readWindowHead wsX2_readSegment := goodIn_r _ [9, 1, 2, 10, 11, 12, 13, 14, 15, 16, 17, 18, 19, 20, 21, 22, 23, 24, 25, 26, 27, 28, 29, 30, 31, 32, 33, 34, 61, 62, 63, 64, 65, 66, 67, 68, 69, 70, 71, 72, 73, 74, 75, 76, 77, 78] (by decide +kernel) (by decide +kernel)
set_option maxRecDepth 20000 in
theorem gX2_readWindowHead_X2_readSegment : GoodIn wsX2_readWindowHead (wsV RX2 102 RX2 yX2_readSegment wsX2_readSegment) := goodIn_app (goodIn_of _ (by decide +kernel)) ggX2_readWindowHead_X2_readSegment
set_option maxRecDepth 20000 in
theorem ggX2_readWindowHead_X5_nextInteger : GoodIn wsX2_readWindowHead wsX5_nextInteger := goodIn_r _ [25, 26, 27, 28, 15, 16, 17, 18, 19, 20, 21, 74, 75, 76, 77, 78] (by decide +kernel) (by decide +kernel)
set_option maxRecDepth 20000 in
theorem gX2_readWindowHead_X5_nextInteger : GoodIn wsX2_readWindowHead (wsV RX2 105 RX5 yX5_nextInteger wsX5_nextInteger) := goodIn_app (goodIn_of _ (by decide +kernel)) ggX2_readWindowHead_X5_nextInteger
set_option maxRecDepth 20000 in
theorem ggX2_readWindowHead_X5_place : GoodIn wsX2_readWindowHead wsX5_place := goodIn_r _ [38, 19, 74, 75, 76] (by decide +kernel) (by decide +kernel)
set_option maxRecDepth 20000 in
theorem gX2_readWindowHead_X5_place : GoodIn wsX2_readWindowHead (wsV RX2 108 RX5 yX5_place wsX5_place) := goodIn_app (goodIn_of _ (by decide +kernel)) ggX2_readWindowHead_X5_place
set_option maxRecDepth 20000 in
theorem ggX2_readWindowHead_X6_count : GoodIn wsX2_readWindowHead wsX6_count := goodIn_r _ [33, 34, 77, 78] (by decide +kernel) (by decide +kernel)
set_option maxRecDepth 20000 in
theorem gX2_readWindowHead_X6_count : GoodIn wsX2_readWindowHead (wsV RX2 92 RX6 yX6_count wsX6_count) := goodIn_app (goodIn_of _ (by decide +kernel)) ggX2_readWindowHead_X6_count
set_option maxRecDepth 20000 in
theorem ggX2_readWindowHead_X2_readParts : GoodIn wsX2_readWindowHead wsX2_readParts := goodIn_r _ [42, 1, 43, 44, 45, 14, 15, 16, 17, 18, 19, 20, 21, 22, 23, 24, 25, 26, 27, 28, 35, 36, 37, 38, 46, 47, 48, 49, 50, 51, 52, 53, 54, 55, 56, 57, 58, 59, 60, 61, 62, 63, 64, 65, 66, 67, 68, 69, 70, 71, 72, 73, 74, 75, 76, 77, 78] (by decide +kernel) (by decide +kernel)
set_option maxRecDepth 20000 in
theorem gX2_readWindowHead_X2_readParts : GoodIn wsX2_readWindowHead (wsV RX2 111 RX2 yX2_readParts wsX2_readParts) := goodIn_app (goodIn_of _ (by decide +kernel)) ggX2_readWindowHead_X2_readParts
theorem dX2_readWindowHead_0 : decode cX2_readWindowHead 0 = .ok (.aload_n 0, 1) := by decide +kernel
theorem dX2_readWindowHead_1 : decode cX2_readWindowHead 1 = .ok (.invokevirtual 102, 3) := by decide +kernel
theorem dX2_readWindowHead_4 : decode cX2_readWindowHead 4 = .ok (.ifCond .ne 6, 3) := by decide +kernel
theorem dX2_readWindowHead_7 : decode cX2_readWindowHead 7 = .ok (.bipush (-2), 2) := by decide +kernel
theorem dX2_readWindowHead_9 : decode cX2_readWindowHead 9 = .ok (.ireturn, 1) := by decide +kernel
theorem dX2_readWindowHead_10 : decode cX2_readWindowHead 10 = .ok (.aload_n 0, 1) := by decide +kernel
theorem dX2_readWindowHead_11 : decode cX2_readWindowHead 11 = .ok (.getfield 35, 3) := by decide +kernel
theorem dX2_readWindowHead_14 : decode cX2_readWindowHead 14 = .ok (.invokevirtual 105, 3) := by decide +kernel
theorem dX2_readWindowHead_17 : decode cX2_readWindowHead 17 = .ok (.istore_n 2, 1) := by decide +kernel
theorem dX2_readWindowHead_18 : decode cX2_readWindowHead 18 = .ok (.aload_n 0, 1) := by decide +kernel
theorem dX2_readWindowHead_19 : decode cX2_readWindowHead 19 = .ok (.getfield 35, 3) := by decide +kernel
theorem dX2_readWindowHead_22 : decode cX2_readWindowHead 22 = .ok (.invokevirtual 108, 3) := by decide +kernel
theorem dX2_readWindowHead_25 : decode cX2_readWindowHead 25 = .ok (.istore_n 3, 1) := by decide +kernel
theorem dX2_readWindowHead_26 : decode cX2_readWindowHead 26 = .ok (.aload_n 0, 1) := by decide +kernel
theorem dX2_readWindowHead_27 : decode cX2_readWindowHead 27 = .ok (.getfield 35, 3) := by decide +kernel
theorem dX2_readWindowHead_30 : decode cX2_readWindowHead 30 = .ok (.invokevirtual 105, 3) := by decide +kernel
theorem dX2_readWindowHead_33 : decode cX2_readWindowHead 33 = .ok (.istore 4, 2) := by decide +kernel
theorem dX2_readWindowHead_35 : decode cX2_readWindowHead 35 = .ok (.iload_n 2, 1) := by decide +kernel
theorem dX2_readWindowHead_36 : decode cX2_readWindowHead 36 = .ok (.iconst (-1), 1) := by decide +kernel
theorem dX2_readWindowHead_37 : decode cX2_readWindowHead 37 = .ok (.if_icmp .eq 9, 3) := by decide +kernel
theorem dX2_readWindowHead_40 : decode cX2_readWindowHead 40 = .ok (.iload 4, 2) := by decide +kernel
theorem dX2_readWindowHead_42 : decode cX2_readWindowHead 42 = .ok (.iconst (-1), 1) := by decide +kernel
theorem dX2_readWindowHead_43 : decode cX2_readWindowHead 43 = .ok (.if_icmp .ne 6, 3) := by decide +kernel
theorem dX2_readWindowHead_46 : decode cX2_readWindowHead 46 = .ok (.bipush (-2), 2) := by decide +kernel
theorem dX2_readWindowHead_48 : decode cX2_readWindowHead 48 = .ok (.ireturn, 1) := by decide +kernel
theorem dX2_readWindowHead_49 : decode cX2_readWindowHead 49 = .ok (.iload 4, 2) := by decide +kernel
theorem dX2_readWindowHead_51 : decode cX2_readWindowHead 51 = .ok (.iload_n 1, 1) := by decide +kernel
theorem dX2_readWindowHead_52 : decode cX2_readWindowHead 52 = .ok (.aload_n 0, 1) := by decide +kernel
theorem dX2_readWindowHead_53 : decode cX2_readWindowHead 53 = .ok (.getfield 20, 3) := by decide +kernel
theorem dX2_readWindowHead_56 : decode cX2_readWindowHead 56 = .ok (.invokevirtual 92, 3) := by decide +kernel
theorem dX2_readWindowHead_59 : decode cX2_readWindowHead 59 = .ok (.isub, 1) := by decide +kernel
theorem dX2_readWindowHead_60 : decode cX2_readWindowHead 60 = .ok (.if_icmp .le 6, 3) := by decide +kernel
theorem dX2_readWindowHead_63 : decode cX2_readWindowHead 63 = .ok (.bipush (-3), 2) := by decide +kernel
theorem dX2_readWindowHead_65 : decode cX2_readWindowHead 65 = .ok (.ireturn, 1) := by decide +kernel
theorem dX2_readWindowHead_66 : decode cX2_readWindowHead 66 = .ok (.aload_n 0, 1) := by decide +kernel
theorem dX2_readWindowHead_67 : decode cX2_readWindowHead 67 = .ok (.aload_n 0, 1) := by decide +kernel
theorem dX2_readWindowHead_68 : decode cX2_readWindowHead 68 = .ok (.getfield 20, 3) := by decide +kernel
theorem dX2_readWindowHead_71 : decode cX2_readWindowHead 71 = .ok (.invokevirtual 92, 3) := by decide +kernel
theorem dX2_readWindowHead_74 : decode cX2_readWindowHead 74 = .ok (.putfield 61, 3) := by decide +kernel
theorem dX2_readWindowHead_77 : decode cX2_readWindowHead 77 = .ok (.aload_n 0, 1) := by decide +kernel
theorem dX2_readWindowHead_78 : decode cX2_readWindowHead 78 = .ok (.aload_n 0, 1) := by decide +kernel
theorem dX2_readWindowHead_79 : decode cX2_readWindowHead 79 = .ok (.getfield 61, 3) := by decide +kernel
theorem dX2_readWindowHead_82 : decode cX2_readWindowHead 82 = .ok (.iload 4, 2) := by decide +kernel
theorem dX2_readWindowHead_84 : decode cX2_readWindowHead 84 = .ok (.iadd, 1) := by decide +kernel
theorem dX2_readWindowHead_85 : decode cX2_readWindowHead 85 = .ok (.putfield 64, 3) := by decide +kernel
theorem dX2_readWindowHead_88 : decode cX2_readWindowHead 88 = .ok (.aload_n 0, 1) := by decide +kernel
theorem dX2_readWindowHead_89 : decode cX2_readWindowHead 89 = .ok (.iload_n 3, 1) := by decide +kernel
theorem dX2_readWindowHead_90 : decode cX2_readWindowHead 90 = .ok (.iload_n 2, 1) := by decide +kernel
theorem dX2_readWindowHead_91 : decode cX2_readWindowHead 91 = .ok (.invokevirtual 111, 3) := by decide +kernel
theorem dX2_readWindowHead_94 : decode cX2_readWindowHead 94 = .ok (.ifCond .eq 7, 3) := by decide +kernel
theorem dX2_readWindowHead_97 : decode cX2_readWindowHead 97 = .ok (.iconst 0, 1) := by decide +kernel
theorem dX2_readWindowHead_98 : decode cX2_readWindowHead 98 = .ok (.goto 5, 3) := by decide +kernel
theorem dX2_readWindowHead_101 : decode cX2_readWindowHead 101 = .ok (.bipush (-2), 2) := by decide +kernel
theorem dX2_readWindowHead_103 : decode cX2_readWindowHead 103 = .ok (.ireturn, 1) := by decide +kernel
set_option maxRecDepth 20000 in
theorem ggX2_readSegment_X5_nextByte : GoodIn wsX2_readSegment wsX5_nextByte := goodIn_r _ [11, 12, 13, 14, 41, 42, 43, 44, 45] (by decide +kernel) (by decide +kernel)
set_option maxRecDepth 20000 in
theorem gX2_readSegment_X5_nextByte : GoodIn wsX2_readSegment (wsV RX2 99 RX5 yX5_nextByte wsX5_nextByte) := goodIn_app (goodIn_of _ (by decide +kernel)) ggX2_readSegment_X5_nextByte
set_option maxRecDepth 20000 in
theorem ggX2_readSegment_X5_nextInteger : GoodIn wsX2_readSegment wsX5_nextInteger := goodIn_r _ [18, 19, 20, 21, 8, 9, 10, 11, 12, 13, 14, 41, 42, 43, 44, 45] (by decide +kernel) (by decide +kernel)
set_option maxRecDepth 20000 in
theorem gX2_readSegment_X5_nextInteger : GoodIn wsX2_readSegment (wsV RX2 105 RX5 yX5_nextInteger wsX5_nextInteger) := goodIn_app (goodIn_of _ (by decide +kernel)) ggX2_readSegment_X5_nextInteger
set_option maxRecDepth 20000 in
theorem ggX2_readSegment_X6_count : GoodIn wsX2_readSegment wsX6_count := goodIn_r _ [26, 27, 44, 45] (by decide +kernel) (by decide +kernel)
set_option maxRecDepth 20000 in
theorem gX2_readSegment_X6_count : GoodIn wsX2_readSegment (wsV RX2 92 RX6 yX6_count wsX6_count) := goodIn_app (goodIn_of _ (by decide +kernel)) ggX2_readSegment_X6_count
theorem dX2_readSegment_0 : decode cX2_readSegment 0 = .ok (.aload_n 0, 1) := by decide +kernel
theorem dX2_readSegment_1 : decode cX2_readSegment 1 = .ok (.getfield 35, 3) := by decide +kernel
theorem dX2_readSegment_4 : decode cX2_readSegment 4 = .ok (.invokevirtual 99, 3) := by decide +kernel
theorem dX2_readSegment_7 : decode cX2_readSegment 7 = .ok (.istore_n 1, 1) := by decide +kernel
theorem dX2_readSegment_8 : decode cX2_readSegment 8 = .ok (.aload_n 0, 1) := by decide +kernel
theorem dX2_readSegment_9 : decode cX2_readSegment 9 = .ok (.iload_n 1, 1) := by decide +kernel
theorem dX2_readSegment_10 : decode cX2_readSegment 10 = .ok (.iconst 2, 1) := by decide +kernel
theorem dX2_readSegment_11 : decode cX2_readSegment 11 = .ok (.if_icmp .ne 10, 3) := by decide +kernel
theorem dX2_readSegment_14 : decode cX2_readSegment 14 = .ok (.aload_n 0, 1) := by decide +kernel
theorem dX2_readSegment_15 : decode cX2_readSegment 15 = .ok (.getfield 20, 3) := by decide +kernel
theorem dX2_readSegment_18 : decode cX2_readSegment 18 = .ok (.goto 7, 3) := by decide +kernel
theorem dX2_readSegment_21 : decode cX2_readSegment 21 = .ok (.aload_n 0, 1) := by decide +kernel
theorem dX2_readSegment_22 : decode cX2_readSegment 22 = .ok (.getfield 9, 3) := by decide +kernel
