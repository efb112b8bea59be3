set_option maxRecDepth 20000 in
theorem ggX0_init_X4_init : GoodIn wsX0_init wsX4_init := goodIn_r _ [15, 16, 2, 3, 4, 17, 18, 19, 20, 21, 22, 32, 33, 34, 35, 36, 37, 38] (by decide +kernel) (by decide +kernel)
set_option maxRecDepth 20000 in
theorem gX0_init_X4_init_n17 : GoodIn wsX0_init (wsX4_init) := ggX0_init_X4_init
set_option maxRecDepth 20000 in
theorem ggX0_init_X3_init : GoodIn wsX0_init wsX3_init := goodIn_r _ [24, 25, 2, 3, 4, 26, 39, 40, 41, 42] (by decide +kernel) (by decide +kernel)
set_option maxRecDepth 20000 in
theorem gX0_init_X3_init_n24 : GoodIn wsX0_init (wsX3_init) := ggX0_init_X3_init
theorem dX0_init_0 : decode cX0_init 0 = .ok (.aload_n 0, 1) := by decide +kernel
theorem dX0_init_1 : decode cX0_init 1 = .ok (.invokespecial 3, 3) := by decide +kernel
theorem dX0_init_4 : decode cX0_init 4 = .ok (.aload_n 0, 1) := by decide +kernel
theorem dX0_init_5 : decode cX0_init 5 = .ok (.bipush 40, 2) := by decide +kernel
theorem dX0_init_7 : decode cX0_init 7 = .ok (.newarray .int, 2) := by decide +kernel
theorem dX0_init_9 : decode cX0_init 9 = .ok (.putfield 9, 3) := by decide +kernel
theorem dX0_init_12 : decode cX0_init 12 = .ok (.aload_n 0, 1) := by decide +kernel
theorem dX0_init_13 : decode cX0_init 13 = .ok (.new 15, 3) := by decide +kernel
theorem dX0_init_16 : decode cX0_init 16 = .ok (.dup, 1) := by decide +kernel
theorem dX0_init_17 : decode cX0_init 17 = .ok (.invokespecial 17, 3) := by decide +kernel
theorem dX0_init_20 : decode cX0_init 20 = .ok (.putfield 18, 3) := by decide +kernel
theorem dX0_init_23 : decode cX0_init 23 = .ok (.aload_n 0, 1) := by decide +kernel
theorem dX0_init_24 : decode cX0_init 24 = .ok (.new 22, 3) := by decide +kernel
theorem dX0_init_27 : decode cX0_init 27 = .ok (.dup, 1) := by decide +kernel
theorem dX0_init_28 : decode cX0_init 28 = .ok (.invokespecial 24, 3) := by decide +kernel
theorem dX0_init_31 : decode cX0_init 31 = .ok (.putfield 25, 3) := by decide +kernel
theorem dX0_init_34 : decode cX0_init 34 = .ok (.return_, 1) := by decide +kernel
theorem dX0_allRows_0 : decode cX0_allRows 0 = .ok (.aload_n 0, 1) := by decide +kernel
theorem dX0_allRows_1 : decode cX0_allRows 1 = .ok (.getfield 29, 3) := by decide +kernel
theorem dX0_allRows_4 : decode cX0_allRows 4 = .ok (.aload_n 0, 1) := by decide +kernel
theorem dX0_allRows_5 : decode cX0_allRows 5 = .ok (.getfield 33, 3) := by decide +kernel
theorem dX0_allRows_8 : decode cX0_allRows 8 = .ok (.iadd, 1) := by decide +kernel
theorem dX0_allRows_9 : decode cX0_allRows 9 = .ok (.ireturn, 1) := by decide +kernel
set_option maxRecDepth 20000 in
theorem ggX0_hasRoom_X0_allRows : GoodIn wsX0_hasRoom wsX0_allRows := goodIn_r _ [5, 6, 7, 8, 9, 10, 11, 12] (by decide +kernel) (by decide +kernel)
set_option maxRecDepth 20000 in
theorem gX0_hasRoom_X0_allRows : GoodIn wsX0_hasRoom (wsV RX0 36 RX0 yX0_allRows wsX0_allRows) := goodIn_app (goodIn_of _ (by decide +kernel)) ggX0_hasRoom_X0_allRows
theorem dX0_hasRoom_0 : decode cX0_hasRoom 0 = .ok (.iload_n 1, 1) := by decide +kernel
theorem dX0_hasRoom_1 : decode cX0_hasRoom 1 = .ok (.sipush 10000, 3) := by decide +kernel
theorem dX0_hasRoom_4 : decode cX0_hasRoom 4 = .ok (.aload_n 0, 1) := by decide +kernel
theorem dX0_hasRoom_5 : decode cX0_hasRoom 5 = .ok (.invokevirtual 36, 3) := by decide +kernel
theorem dX0_hasRoom_8 : decode cX0_hasRoom 8 = .ok (.isub, 1) := by decide +kernel
theorem dX0_hasRoom_9 : decode cX0_hasRoom 9 = .ok (.if_icmp .gt 7, 3) := by decide +kernel
theorem dX0_hasRoom_12 : decode cX0_hasRoom 12 = .ok (.iconst 1, 1) := by decide +kernel
theorem dX0_hasRoom_13 : decode cX0_hasRoom 13 = .ok (.goto 4, 3) := by decide +kernel
theorem dX0_hasRoom_16 : decode cX0_hasRoom 16 = .ok (.iconst 0, 1) := by decide +kernel
theorem dX0_hasRoom_17 : decode cX0_hasRoom 17 = .ok (.ireturn, 1) := by decide +kernel
set_option maxRecDepth 20000 in
theorem ggX0_trueCount_X6_isValue : GoodIn wsX0_trueCount wsX6_isValue := goodIn_r _ [5, 6, 7, 8, 4, 9] (by decide +kernel) (by decide +kernel)
set_option maxRecDepth 20000 in
theorem gX0_trueCount_X6_isValue_n40 : GoodIn wsX0_trueCount (wsX6_isValue) := ggX0_trueCount_X6_isValue
theorem dX0_trueCount_0 : decode cX0_trueCount 0 = .ok (.iload_n 1, 1) := by decide +kernel
theorem dX0_trueCount_1 : decode cX0_trueCount 1 = .ok (.invokestatic 40, 3) := by decide +kernel
theorem dX0_trueCount_4 : decode cX0_trueCount 4 = .ok (.ifCond .eq 12, 3) := by decide +kernel
theorem dX0_trueCount_7 : decode cX0_trueCount 7 = .ok (.aload_n 0, 1) := by decide +kernel
theorem dX0_trueCount_8 : decode cX0_trueCount 8 = .ok (.getfield 9, 3) := by decide +kernel
theorem dX0_trueCount_11 : decode cX0_trueCount 11 = .ok (.iload_n 1, 1) := by decide +kernel
theorem dX0_trueCount_12 : decode cX0_trueCount 12 = .ok (.iaload, 1) := by decide +kernel
theorem dX0_trueCount_13 : decode cX0_trueCount 13 = .ok (.goto 7, 3) := by decide +kernel
theorem dX0_trueCount_16 : decode cX0_trueCount 16 = .ok (.aload_n 0, 1) := by decide +kernel
theorem dX0_trueCount_17 : decode cX0_trueCount 17 = .ok (.getfield 33, 3) := by decide +kernel
theorem dX0_trueCount_20 : decode cX0_trueCount 20 = .ok (.ireturn, 1) := by decide +kernel
theorem dX0_valuesWithRows_0 : decode cX0_valuesWithRows 0 = .ok (.iconst 0, 1) := by decide +kernel
theorem dX0_valuesWithRows_1 : decode cX0_valuesWithRows 1 = .ok (.istore_n 1, 1) := by decide +kernel
theorem dX0_valuesWithRows_2 : decode cX0_valuesWithRows 2 = .ok (.iconst 0, 1) := by decide +kernel
theorem dX0_valuesWithRows_3 : decode cX0_valuesWithRows 3 = .ok (.istore_n 2, 1) := by decide +kernel
theorem dX0_valuesWithRows_4 : decode cX0_valuesWithRows 4 = .ok (.iload_n 2, 1) := by decide +kernel
theorem dX0_valuesWithRows_5 : decode cX0_valuesWithRows 5 = .ok (.bipush 40, 2) := by decide +kernel
theorem dX0_valuesWithRows_7 : decode cX0_valuesWithRows 7 = .ok (.if_icmp .ge 21, 3) := by decide +kernel
theorem dX0_valuesWithRows_10 : decode cX0_valuesWithRows 10 = .ok (.aload_n 0, 1) := by decide +kernel
theorem dX0_valuesWithRows_11 : decode cX0_valuesWithRows 11 = .ok (.getfield 9, 3) := by decide +kernel
theorem dX0_valuesWithRows_14 : decode cX0_valuesWithRows 14 = .ok (.iload_n 2, 1) := by decide +kernel
theorem dX0_valuesWithRows_15 : decode cX0_valuesWithRows 15 = .ok (.iaload, 1) := by decide +kernel
theorem dX0_valuesWithRows_16 : decode cX0_valuesWithRows 16 = .ok (.ifCond .le 6, 3) := by decide +kernel
theorem dX0_valuesWithRows_19 : decode cX0_valuesWithRows 19 = .ok (.iinc 1 1, 3) := by decide +kernel
theorem dX0_valuesWithRows_22 : decode cX0_valuesWithRows 22 = .ok (.iinc 2 1, 3) := by decide +kernel
theorem dX0_valuesWithRows_25 : decode cX0_valuesWithRows 25 = .ok (.goto (-21), 3) := by decide +kernel
theorem dX0_valuesWithRows_28 : decode cX0_valuesWithRows 28 = .ok (.iload_n 1, 1) := by decide +kernel
theorem dX0_valuesWithRows_29 : decode cX0_valuesWithRows 29 = .ok (.ireturn, 1) := by decide +kernel
set_option maxRecDepth 20000 in
theorem ggX0_enter_X0_change : GoodIn wsX0_enter wsX0_change := goodIn_r _ [6, 7, 8, 9, 10, 11, 12, 13, 14, 15, 16, 17, 18, 19, 20, 21, 22, 23, 24, 25, 26, 27, 28, 29, 30, 31, 32, 33, 34, 35, 36, 37, 38, 39, 40, 63, 64, 65, 66, 67, 68, 69, 70, 71, 72, 73, 74] (by decide +kernel) (by decide +kernel)
set_option maxRecDepth 20000 in
theorem gX0_enter_X0_change : GoodIn wsX0_enter (wsV RX0 44 RX0 yX0_change wsX0_change) := goodIn_app (goodIn_of _ (by decide +kernel)) ggX0_enter_X0_change
set_option maxRecDepth 20000 in
theorem ggX0_enter_X3_take : GoodIn wsX0_enter wsX3_take := goodIn_r _ [45, 46, 47, 48, 49, 44, 50, 51, 52, 53, 54, 55, 56, 57, 58, 59, 60, 61, 62, 75, 76, 77, 78] (by decide +kernel) (by decide +kernel)
set_option maxRecDepth 20000 in
theorem gX0_enter_X3_take : GoodIn wsX0_enter (wsV RX0 48 RX3 yX3_take wsX3_take) := goodIn_app (goodIn_of _ (by decide +kernel)) ggX0_enter_X3_take
theorem dX0_enter_0 : decode cX0_enter 0 = .ok (.aload_n 0, 1) := by decide +kernel
theorem dX0_enter_1 : decode cX0_enter 1 = .ok (.iload_n 1, 1) := by decide +kernel
theorem dX0_enter_2 : decode cX0_enter 2 = .ok (.iload_n 2, 1) := by decide +kernel
theorem dX0_enter_3 : decode cX0_enter 3 = .ok (.invokevirtual 44, 3) := by decide +kernel
theorem dX0_enter_6 : decode cX0_enter 6 = .ok (.aload_n 0, 1) := by decide +kernel
theorem dX0_enter_7 : decode cX0_enter 7 = .ok (.getfield 25, 3) := by decide +kernel
theorem dX0_enter_10 : decode cX0_enter 10 = .ok (.iload_n 1, 1) := by decide +kernel
theorem dX0_enter_11 : decode cX0_enter 11 = .ok (.iload_n 2, 1) := by decide +kernel
theorem dX0_enter_12 : decode cX0_enter 12 = .ok (.invokevirtual 48, 3) := by decide +kernel
theorem dX0_enter_15 : decode cX0_enter 15 = .ok (.return_, 1) := by decide +kernel
set_option maxRecDepth 20000 in
theorem ggX0_change_X6_isValue : GoodIn wsX0_change wsX6_isValue := goodIn_r _ [7, 8, 9, 10, 6, 11] (by decide +kernel) (by decide +kernel)
set_option maxRecDepth 20000 in
theorem gX0_change_X6_isValue_n40 : GoodIn wsX0_change (wsX6_isValue) := ggX0_change_X6_isValue
set_option maxRecDepth 20000 in
theorem ggX0_change_X4_shift : GoodIn wsX0_change wsX4_shift := goodIn_r _ [16, 17, 18, 19, 20, 21, 22, 23, 24, 25, 26, 27, 15, 28, 29, 30, 31, 32, 33, 34, 40, 41, 42, 43, 44, 45, 46] (by decide +kernel) (by decide +kernel)
set_option maxRecDepth 20000 in
theorem gX0_change_X4_shift : GoodIn wsX0_change (wsV RX0 51 RX4 yX4_shift wsX4_shift) := goodIn_app (goodIn_of _ (by decide +kernel)) ggX0_change_X4_shift
theorem dX0_change_0 : decode cX0_change 0 = .ok (.iload_n 1, 1) := by decide +kernel
theorem dX0_change_1 : decode cX0_change 1 = .ok (.invokestatic 40, 3) := by decide +kernel
theorem dX0_change_4 : decode cX0_change 4 = .ok (.ifCond .ne 14, 3) := by decide +kernel
theorem dX0_change_7 : decode cX0_change 7 = .ok (.aload_n 0, 1) := by decide +kernel
theorem dX0_change_8 : decode cX0_change 8 = .ok (.dup, 1) := by decide +kernel
theorem dX0_change_9 : decode cX0_change 9 = .ok (.getfield 33, 3) := by decide +kernel
theorem dX0_change_12 : decode cX0_change 12 = .ok (.iload_n 2, 1) := by decide +kernel
theorem dX0_change_13 : decode cX0_change 13 = .ok (.iadd, 1) := by decide +kernel
theorem dX0_change_14 : decode cX0_change 14 = .ok (.putfield 33, 3) := by decide +kernel
theorem dX0_change_17 : decode cX0_change 17 = .ok (.return_, 1) := by decide +kernel
theorem dX0_change_18 : decode cX0_change 18 = .ok (.aload_n 0, 1) := by decide +kernel
theorem dX0_change_19 : decode cX0_change 19 = .ok (.getfield 9, 3) := by decide +kernel
theorem dX0_change_22 : decode cX0_change 22 = .ok (.iload_n 1, 1) := by decide +kernel
theorem dX0_change_23 : decode cX0_change 23 = .ok (.dup2, 1) := by decide +kernel
theorem dX0_change_24 : decode cX0_change 24 = .ok (.iaload, 1) := by decide +kernel
theorem dX0_change_25 : decode cX0_change 25 = .ok (.iload_n 2, 1) := by decide +kernel
theorem dX0_change_26 : decode cX0_change 26 = .ok (.iadd, 1) := by decide +kernel
theorem dX0_change_27 : decode cX0_change 27 = .ok (.iastore, 1) := by decide +kernel
theorem dX0_change_28 : decode cX0_change 28 = .ok (.aload_n 0, 1) := by decide +kernel
theorem dX0_change_29 : decode cX0_change 29 = .ok (.dup, 1) := by decide +kernel
theorem dX0_change_30 : decode cX0_change 30 = .ok (.getfield 29, 3) := by decide +kernel
theorem dX0_change_33 : decode cX0_change 33 = .ok (.iload_n 2, 1) := by decide +kernel
theorem dX0_change_34 : decode cX0_change 34 = .ok (.iadd, 1) := by decide +kernel
theorem dX0_change_35 : decode cX0_change 35 = .ok (.putfield 29, 3) := by decide +kernel
theorem dX0_change_38 : decode cX0_change 38 = .ok (.aload_n 0, 1) := by decide +kernel
theorem dX0_change_39 : decode cX0_change 39 = .ok (.getfield 18, 3) := by decide +kernel
theorem dX0_change_42 : decode cX0_change 42 = .ok (.iload_n 1, 1) := by decide +kernel
theorem dX0_change_43 : decode cX0_change 43 = .ok (.iload_n 2, 1) := by decide +kernel
theorem dX0_change_44 : decode cX0_change 44 = .ok (.invokevirtual 51, 3) := by decide +kernel
theorem dX0_change_47 : decode cX0_change 47 = .ok (.return_, 1) := by decide +kernel
theorem dX1_init_0 : decode cX1_init 0 = .ok (.aload_n 0, 1) := by decide +kernel
theorem dX1_init_1 : decode cX1_init 1 = .ok (.invokespecial 1, 3) := by decide +kernel
theorem dX1_init_4 : decode cX1_init 4 = .ok (.aload_n 0, 1) := by decide +kernel
theorem dX1_init_5 : decode cX1_init 5 = .ok (.lconst 0, 1) := by decide +kernel
theorem dX1_init_6 : decode cX1_init 6 = .ok (.putfield 7, 3) := by decide +kernel
theorem dX1_init_9 : decode cX1_init 9 = .ok (.aload_n 0, 1) := by decide +kernel
theorem dX1_init_10 : decode cX1_init 10 = .ok (.lconst 1, 1) := by decide +kernel
theorem dX1_init_11 : decode cX1_init 11 = .ok (.putfield 13, 3) := by decide +kernel
theorem dX1_init_14 : decode cX1_init 14 = .ok (.return_, 1) := by decide +kernel
set_option maxRecDepth 20000 in
theorem ggX1_set_X1_commonDivisor : GoodIn wsX1_set wsX1_commonDivisor := goodIn_r _ [6, 7, 8, 9, 10, 11, 12, 13] (by decide +kernel) (by decide +kernel)
set_option maxRecDepth 20000 in
theorem gX1_set_X1_commonDivisor : GoodIn wsX1_set (va_wsS RX1 16 yX1_commonDivisor wsX1_commonDivisor) := goodIn_app (goodIn_of _ (by decide +kernel)) ggX1_set_X1_commonDivisor
theorem dX1_set_0 : decode cX1_set 0 = .ok (.lload_n 1, 1) := by decide +kernel
theorem dX1_set_1 : decode cX1_set 1 = .ok (.lload_n 3, 1) := by decide +kernel
theorem dX1_set_2 : decode cX1_set 2 = .ok (.invokestatic 16, 3) := by decide +kernel
theorem dX1_set_5 : decode cX1_set 5 = .ok (.lstore 5, 2) := by decide +kernel
theorem dX1_set_7 : decode cX1_set 7 = .ok (.aload_n 0, 1) := by decide +kernel
theorem dX1_set_8 : decode cX1_set 8 = .ok (.lload_n 1, 1) := by decide +kernel
theorem dX1_set_9 : decode cX1_set 9 = .ok (.lload 5, 2) := by decide +kernel
theorem dX1_set_11 : decode cX1_set 11 = .ok (.ldiv, 1) := by decide +kernel
theorem dX1_set_12 : decode cX1_set 12 = .ok (.putfield 7, 3) := by decide +kernel
theorem dX1_set_15 : decode cX1_set 15 = .ok (.aload_n 0, 1) := by decide +kernel
theorem dX1_set_16 : decode cX1_set 16 = .ok (.lload_n 3, 1) := by decide +kernel
theorem dX1_set_17 : decode cX1_set 17 = .ok (.lload 5, 2) := by decide +kernel
theorem dX1_set_19 : decode cX1_set 19 = .ok (.ldiv, 1) := by decide +kernel
theorem dX1_set_20 : decode cX1_set 20 = .ok (.putfield 13, 3) := by decide +kernel
theorem dX1_set_23 : decode cX1_set 23 = .ok (.return_, 1) := by decide +kernel
set_option maxRecDepth 20000 in
theorem ggX1_add_X1_commonDivisor : GoodIn wsX1_add wsX1_commonDivisor := goodIn_r _ [6, 7, 8, 9, 10, 11, 12, 13] (by decide +kernel) (by decide +kernel)
set_option maxRecDepth 20000 in
theorem gX1_add_X1_commonDivisor : GoodIn wsX1_add (va_wsS RX1 16 yX1_commonDivisor wsX1_commonDivisor) := goodIn_app (goodIn_of _ (by decide +kernel)) ggX1_add_X1_commonDivisor
set_option maxRecDepth 20000 in
theorem ggX1_add_X1_set : GoodIn wsX1_add wsX1_set := goodIn_r _ [17, 2, 1, 3, 4, 5, 6, 7, 8, 9, 10, 11, 12, 13, 18, 19] (by decide +kernel) (by decide +kernel)
set_option maxRecDepth 20000 in
theorem gX1_add_X1_set : GoodIn wsX1_add (wsV RX1 20 RX1 yX1_set wsX1_set) := goodIn_app (goodIn_of _ (by decide +kernel)) ggX1_add_X1_set
theorem dX1_add_0 : decode cX1_add 0 = .ok (.lload_n 1, 1) := by decide +kernel
theorem dX1_add_1 : decode cX1_add 1 = .ok (.lload_n 3, 1) := by decide +kernel
theorem dX1_add_2 : decode cX1_add 2 = .ok (.invokestatic 16, 3) := by decide +kernel
theorem dX1_add_5 : decode cX1_add 5 = .ok (.lstore 5, 2) := by decide +kernel
theorem dX1_add_7 : decode cX1_add 7 = .ok (.lload_n 1, 1) := by decide +kernel
theorem dX1_add_8 : decode cX1_add 8 = .ok (.lload 5, 2) := by decide +kernel
theorem dX1_add_10 : decode cX1_add 10 = .ok (.ldiv, 1) := by decide +kernel
theorem dX1_add_11 : decode cX1_add 11 = .ok (.lstore 7, 2) := by decide +kernel
theorem dX1_add_13 : decode cX1_add 13 = .ok (.lload_n 3, 1) := by decide +kernel
theorem dX1_add_14 : decode cX1_add 14 = .ok (.lload 5, 2) := by decide +kernel
theorem dX1_add_16 : decode cX1_add 16 = .ok (.ldiv, 1) := by decide +kernel
theorem dX1_add_17 : decode cX1_add 17 = .ok (.lstore 9, 2) := by decide +kernel
theorem dX1_add_19 : decode cX1_add 19 = .ok (.aload_n 0, 1) := by decide +kernel
theorem dX1_add_20 : decode cX1_add 20 = .ok (.getfield 13, 3) := by decide +kernel
theorem dX1_add_23 : decode cX1_add 23 = .ok (.lload 9, 2) := by decide +kernel
theorem dX1_add_25 : decode cX1_add 25 = .ok (.invokestatic 16, 3) := by decide +kernel
theorem dX1_add_28 : decode cX1_add 28 = .ok (.lstore 11, 2) := by decide +kernel
theorem dX1_add_30 : decode cX1_add 30 = .ok (.lload 9, 2) := by decide +kernel
theorem dX1_add_32 : decode cX1_add 32 = .ok (.lload 11, 2) := by decide +kernel
theorem dX1_add_34 : decode cX1_add 34 = .ok (.ldiv, 1) := by decide +kernel
theorem dX1_add_35 : decode cX1_add 35 = .ok (.lstore 13, 2) := by decide +kernel
theorem dX1_add_37 : decode cX1_add 37 = .ok (.aload_n 0, 1) := by decide +kernel
theorem dX1_add_38 : decode cX1_add 38 = .ok (.aload_n 0, 1) := by decide +kernel
theorem dX1_add_39 : decode cX1_add 39 = .ok (.getfield 7, 3) := by decide +kernel
theorem dX1_add_42 : decode cX1_add 42 = .ok (.lload 13, 2) := by decide +kernel
theorem dX1_add_44 : decode cX1_add 44 = .ok (.lmul, 1) := by decide +kernel
theorem dX1_add_45 : decode cX1_add 45 = .ok (.lload 7, 2) := by decide +kernel
theorem dX1_add_47 : decode cX1_add 47 = .ok (.aload_n 0, 1) := by decide +kernel
theorem dX1_add_48 : decode cX1_add 48 = .ok (.getfield 13, 3) := by decide +kernel
theorem dX1_add_51 : decode cX1_add 51 = .ok (.lload 11, 2) := by decide +kernel
theorem dX1_add_53 : decode cX1_add 53 = .ok (.ldiv, 1) := by decide +kernel
theorem dX1_add_54 : decode cX1_add 54 = .ok (.lmul, 1) := by decide +kernel
theorem dX1_add_55 : decode cX1_add 55 = .ok (.ladd, 1) := by decide +kernel
theorem dX1_add_56 : decode cX1_add 56 = .ok (.aload_n 0, 1) := by decide +kernel
theorem dX1_add_57 : decode cX1_add 57 = .ok (.getfield 13, 3) := by decide +kernel
theorem dX1_add_60 : decode cX1_add 60 = .ok (.lload 13, 2) := by decide +kernel
theorem dX1_add_62 : decode cX1_add 62 = .ok (.lmul, 1) := by decide +kernel
theorem dX1_add_63 : decode cX1_add 63 = .ok (.invokevirtual 20, 3) := by decide +kernel
theorem dX1_add_66 : decode cX1_add 66 = .ok (.return_, 1) := by decide +kernel
theorem dX1_sign_0 : decode cX1_sign 0 = .ok (.aload_n 0, 1) := by decide +kernel
theorem dX1_sign_1 : decode cX1_sign 1 = .ok (.getfield 7, 3) := by decide +kernel
theorem dX1_sign_4 : decode cX1_sign 4 = .ok (.lconst 0, 1) := by decide +kernel
theorem dX1_sign_5 : decode cX1_sign 5 = .ok (.lcmp, 1) := by decide +kernel
theorem dX1_sign_6 : decode cX1_sign 6 = .ok (.ifCond .le 7, 3) := by decide +kernel
theorem dX1_sign_9 : decode cX1_sign 9 = .ok (.iconst 1, 1) := by decide +kernel
theorem dX1_sign_10 : decode cX1_sign 10 = .ok (.goto 17, 3) := by decide +kernel
theorem dX1_sign_13 : decode cX1_sign 13 = .ok (.aload_n 0, 1) := by decide +kernel
theorem dX1_sign_14 : decode cX1_sign 14 = .ok (.getfield 7, 3) := by decide +kernel
theorem dX1_sign_17 : decode cX1_sign 17 = .ok (.lconst 0, 1) := by decide +kernel
theorem dX1_sign_18 : decode cX1_sign 18 = .ok (.lcmp, 1) := by decide +kernel
theorem dX1_sign_19 : decode cX1_sign 19 = .ok (.ifCond .ge 7, 3) := by decide +kernel
theorem dX1_sign_22 : decode cX1_sign 22 = .ok (.iconst (-1), 1) := by decide +kernel
theorem dX1_sign_23 : decode cX1_sign 23 = .ok (.goto 4, 3) := by decide +kernel
theorem dX1_sign_26 : decode cX1_sign 26 = .ok (.iconst 0, 1) := by decide +kernel
theorem dX1_sign_27 : decode cX1_sign 27 = .ok (.ireturn, 1) := by decide +kernel
theorem dX1_commonDivisor_0 : decode cX1_commonDivisor 0 = .ok (.lload_n 0, 1) := by decide +kernel
theorem dX1_commonDivisor_1 : decode cX1_commonDivisor 1 = .ok (.invokestatic 24, 3) := by decide +kernel
theorem dX1_commonDivisor_4 : decode cX1_commonDivisor 4 = .ok (.lstore 4, 2) := by decide +kernel
theorem dX1_commonDivisor_6 : decode cX1_commonDivisor 6 = .ok (.lload_n 2, 1) := by decide +kernel
theorem dX1_commonDivisor_7 : decode cX1_commonDivisor 7 = .ok (.invokestatic 24, 3) := by decide +kernel
theorem dX1_commonDivisor_10 : decode cX1_commonDivisor 10 = .ok (.lstore 6, 2) := by decide +kernel
theorem dX1_commonDivisor_12 : decode cX1_commonDivisor 12 = .ok (.iconst 0, 1) := by decide +kernel
theorem dX1_commonDivisor_13 : decode cX1_commonDivisor 13 = .ok (.istore 8, 2) := by decide +kernel
theorem dX1_commonDivisor_15 : decode cX1_commonDivisor 15 = .ok (.iload 8, 2) := by decide +kernel
theorem dX1_commonDivisor_17 : decode cX1_commonDivisor 17 = .ok (.sipush 200, 3) := by decide +kernel
theorem dX1_commonDivisor_20 : decode cX1_commonDivisor 20 = .ok (.if_icmp .ge 31, 3) := by decide +kernel
theorem dX1_commonDivisor_23 : decode cX1_commonDivisor 23 = .ok (.lload 6, 2) := by decide +kernel
theorem dX1_commonDivisor_25 : decode cX1_commonDivisor 25 = .ok (.lconst 0, 1) := by decide +kernel
theorem dX1_commonDivisor_26 : decode cX1_commonDivisor 26 = .ok (.lcmp, 1) := by decide +kernel
theorem dX1_commonDivisor_27 : decode cX1_commonDivisor 27 = .ok (.ifCond .eq 24, 3) := by decide +kernel
theorem dX1_commonDivisor_30 : decode cX1_commonDivisor 30 = .ok (.lload 4, 2) := by decide +kernel
theorem dX1_commonDivisor_32 : decode cX1_commonDivisor 32 = .ok (.lload 6, 2) := by decide +kernel
theorem dX1_commonDivisor_34 : decode cX1_commonDivisor 34 = .ok (.lrem, 1) := by decide +kernel
theorem dX1_commonDivisor_35 : decode cX1_commonDivisor 35 = .ok (.lstore 9, 2) := by decide +kernel
theorem dX1_commonDivisor_37 : decode cX1_commonDivisor 37 = .ok (.lload 6, 2) := by decide +kernel
theorem dX1_commonDivisor_39 : decode cX1_commonDivisor 39 = .ok (.lstore 4, 2) := by decide +kernel
theorem dX1_commonDivisor_41 : decode cX1_commonDivisor 41 = .ok (.lload 9, 2) := by decide +kernel
theorem dX1_commonDivisor_43 : decode cX1_commonDivisor 43 = .ok (.lstore 6, 2) := by decide +kernel
theorem dX1_commonDivisor_45 : decode cX1_commonDivisor 45 = .ok (.iinc 8 1, 3) := by decide +kernel
theorem dX1_commonDivisor_48 : decode cX1_commonDivisor 48 = .ok (.goto (-33), 3) := by decide +kernel
theorem dX1_commonDivisor_51 : decode cX1_commonDivisor 51 = .ok (.lconst 1, 1) := by decide +kernel
theorem dX1_commonDivisor_52 : decode cX1_commonDivisor 52 = .ok (.lload 4, 2) := by decide +kernel
theorem dX1_commonDivisor_54 : decode cX1_commonDivisor 54 = .ok (.invokestatic 30, 3) := by decide +kernel
theorem dX1_commonDivisor_57 : decode cX1_commonDivisor 57 = .ok (.lreturn, 1) := by decide +kernel
theorem dX2_init_0 : decode cX2_init 0 = .ok (.aload_n 0, 1) := by decide +kernel
theorem dX2_init_1 : decode cX2_init 1 = .ok (.invokespecial 3, 3) := by decide +kernel
theorem dX2_init_4 : decode cX2_init 4 = .ok (.aload_n 0, 1) := by decide +kernel
theorem dX2_init_5 : decode cX2_init 5 = .ok (.bipush 12, 2) := by decide +kernel
theorem dX2_init_7 : decode cX2_init 7 = .ok (.newarray .int, 2) := by decide +kernel
theorem dX2_init_9 : decode cX2_init 9 = .ok (.putfield 9, 3) := by decide +kernel
theorem dX2_init_12 : decode cX2_init 12 = .ok (.aload_n 0, 1) := by decide +kernel
theorem dX2_init_13 : decode cX2_init 13 = .ok (.bipush 40, 2) := by decide +kernel
theorem dX2_init_15 : decode cX2_init 15 = .ok (.newarray .int, 2) := by decide +kernel
theorem dX2_init_17 : decode cX2_init 17 = .ok (.putfield 15, 3) := by decide +kernel
theorem dX2_init_20 : decode cX2_init 20 = .ok (.aload_n 0, 1) := by decide +kernel
theorem dX2_init_21 : decode cX2_init 21 = .ok (.sipush 533, 3) := by decide +kernel
theorem dX2_init_24 : decode cX2_init 24 = .ok (.newarray .int, 2) := by decide +kernel
theorem dX2_init_26 : decode cX2_init 26 = .ok (.putfield 18, 3) := by decide +kernel
theorem dX2_init_29 : decode cX2_init 29 = .ok (.return_, 1) := by decide +kernel
theorem dX2_lookAt_0 : decode cX2_lookAt 0 = .ok (.iconst 0, 1) := by decide +kernel
theorem dX2_lookAt_1 : decode cX2_lookAt 1 = .ok (.istore_n 3, 1) := by decide +kernel
theorem dX2_lookAt_2 : decode cX2_lookAt 2 = .ok (.iload_n 3, 1) := by decide +kernel
theorem dX2_lookAt_3 : decode cX2_lookAt 3 = .ok (.bipush 40, 2) := by decide +kernel
theorem dX2_lookAt_5 : decode cX2_lookAt 5 = .ok (.if_icmp .ge 28, 3) := by decide +kernel
theorem dX2_lookAt_8 : decode cX2_lookAt 8 = .ok (.aload_n 0, 1) := by decide +kernel
theorem dX2_lookAt_9 : decode cX2_lookAt 9 = .ok (.getfield 15, 3) := by decide +kernel
theorem dX2_lookAt_12 : decode cX2_lookAt 12 = .ok (.iload_n 3, 1) := by decide +kernel
theorem dX2_lookAt_13 : decode cX2_lookAt 13 = .ok (.aload_n 2, 1) := by decide +kernel
theorem dX2_lookAt_14 : decode cX2_lookAt 14 = .ok (.iload_n 3, 1) := by decide +kernel
theorem dX2_lookAt_15 : decode cX2_lookAt 15 = .ok (.baload, 1) := by decide +kernel
theorem dX2_lookAt_16 : decode cX2_lookAt 16 = .ok (.ifCond .eq 7, 3) := by decide +kernel
theorem dX2_lookAt_19 : decode cX2_lookAt 19 = .ok (.iconst (-1), 1) := by decide +kernel
theorem dX2_lookAt_20 : decode cX2_lookAt 20 = .ok (.goto 6, 3) := by decide +kernel
theorem dX2_lookAt_23 : decode cX2_lookAt 23 = .ok (.aload_n 1, 1) := by decide +kernel
theorem dX2_lookAt_24 : decode cX2_lookAt 24 = .ok (.iload_n 3, 1) := by decide +kernel
theorem dX2_lookAt_25 : decode cX2_lookAt 25 = .ok (.iaload, 1) := by decide +kernel
theorem dX2_lookAt_26 : decode cX2_lookAt 26 = .ok (.iastore, 1) := by decide +kernel
theorem dX2_lookAt_27 : decode cX2_lookAt 27 = .ok (.iinc 3 1, 3) := by decide +kernel
theorem dX2_lookAt_30 : decode cX2_lookAt 30 = .ok (.goto (-28), 3) := by decide +kernel
theorem dX2_lookAt_33 : decode cX2_lookAt 33 = .ok (.return_, 1) := by decide +kernel
set_option maxRecDepth 20000 in
theorem ggX2_plan_X2_leastLimit : GoodIn wsX2_plan wsX2_leastLimit := goodIn_r _ [6, 7, 8, 9, 5, 10, 11, 12, 13, 14, 15, 16, 17, 18, 19, 20, 21, 22, 23, 24, 25, 26, 27, 28, 29, 50, 51, 52, 53, 54] (by decide +kernel) (by decide +kernel)
set_option maxRecDepth 20000 in
theorem gX2_plan_X2_leastLimit : GoodIn wsX2_plan (wsV RX2 21 RX2 yX2_leastLimit wsX2_leastLimit) := goodIn_app (goodIn_of _ (by decide +kernel)) ggX2_plan_X2_leastLimit
set_option maxRecDepth 20000 in
theorem ggX2_plan_X2_sumUp : GoodIn wsX2_plan wsX2_sumUp := goodIn_r _ [33, 34, 15, 35, 36, 37, 38, 39, 40, 5, 41, 11, 12, 13, 14, 16, 17, 18, 19, 20, 21, 22, 23, 24, 25, 26, 27, 28, 29, 42, 43, 44, 45, 50, 51, 52, 53, 54] (by decide +kernel) (by decide +kernel)
set_option maxRecDepth 20000 in
theorem gX2_plan_X2_sumUp : GoodIn wsX2_plan (wsV RX2 25 RX2 yX2_sumUp wsX2_sumUp) := goodIn_app (goodIn_of _ (by decide +kernel)) ggX2_plan_X2_sumUp
set_option maxRecDepth 20000 in
theorem ggX2_plan_X2_firstEnd : GoodIn wsX2_plan wsX2_firstEnd := goodIn_r _ [49, 34, 11, 12, 13, 5, 14, 15, 16, 17, 18, 19, 20, 21, 22, 23, 24, 25, 26, 27, 28, 29, 39, 40, 41, 50, 51, 52, 53, 54] (by decide +kernel) (by decide +kernel)
set_option maxRecDepth 20000 in
theorem gX2_plan_X2_firstEnd : GoodIn wsX2_plan (wsV RX2 29 RX2 yX2_firstEnd wsX2_firstEnd) := goodIn_app (goodIn_of _ (by decide +kernel)) ggX2_plan_X2_firstEnd
theorem dX2_plan_0 : decode cX2_plan 0 = .ok (.aload_n 0, 1) := by decide +kernel
theorem dX2_plan_1 : decode cX2_plan 1 = .ok (.iload_n 1, 1) := by decide +kernel
theorem dX2_plan_2 : decode cX2_plan 2 = .ok (.invokevirtual 21, 3) := by decide +kernel
theorem dX2_plan_5 : decode cX2_plan 5 = .ok (.istore_n 2, 1) := by decide +kernel
theorem dX2_plan_6 : decode cX2_plan 6 = .ok (.aload_n 0, 1) := by decide +kernel
theorem dX2_plan_7 : decode cX2_plan 7 = .ok (.iload_n 1, 1) := by decide +kernel
theorem dX2_plan_8 : decode cX2_plan 8 = .ok (.iload_n 2, 1) := by decide +kernel
theorem dX2_plan_9 : decode cX2_plan 9 = .ok (.invokevirtual 25, 3) := by decide +kernel
theorem dX2_plan_12 : decode cX2_plan 12 = .ok (.iconst 0, 1) := by decide +kernel
theorem dX2_plan_13 : decode cX2_plan 13 = .ok (.istore_n 3, 1) := by decide +kernel
theorem dX2_plan_14 : decode cX2_plan 14 = .ok (.iload_n 1, 1) := by decide +kernel
theorem dX2_plan_15 : decode cX2_plan 15 = .ok (.istore 4, 2) := by decide +kernel
theorem dX2_plan_17 : decode cX2_plan 17 = .ok (.iload 4, 2) := by decide +kernel
theorem dX2_plan_19 : decode cX2_plan 19 = .ok (.iconst 1, 1) := by decide +kernel
theorem dX2_plan_20 : decode cX2_plan 20 = .ok (.if_icmp .lt 35, 3) := by decide +kernel
theorem dX2_plan_23 : decode cX2_plan 23 = .ok (.aload_n 0, 1) := by decide +kernel
theorem dX2_plan_24 : decode cX2_plan 24 = .ok (.iload 4, 2) := by decide +kernel
theorem dX2_plan_26 : decode cX2_plan 26 = .ok (.iload_n 3, 1) := by decide +kernel
theorem dX2_plan_27 : decode cX2_plan 27 = .ok (.iload_n 2, 1) := by decide +kernel
theorem dX2_plan_28 : decode cX2_plan 28 = .ok (.invokevirtual 29, 3) := by decide +kernel
theorem dX2_plan_31 : decode cX2_plan 31 = .ok (.istore 5, 2) := by decide +kernel
theorem dX2_plan_33 : decode cX2_plan 33 = .ok (.aload_n 0, 1) := by decide +kernel
theorem dX2_plan_34 : decode cX2_plan 34 = .ok (.getfield 9, 3) := by decide +kernel
theorem dX2_plan_37 : decode cX2_plan 37 = .ok (.iload_n 1, 1) := by decide +kernel
theorem dX2_plan_38 : decode cX2_plan 38 = .ok (.iload 4, 2) := by decide +kernel
theorem dX2_plan_40 : decode cX2_plan 40 = .ok (.isub, 1) := by decide +kernel
theorem dX2_plan_41 : decode cX2_plan 41 = .ok (.iload 5, 2) := by decide +kernel
theorem dX2_plan_43 : decode cX2_plan 43 = .ok (.iastore, 1) := by decide +kernel
theorem dX2_plan_44 : decode cX2_plan 44 = .ok (.iload 5, 2) := by decide +kernel
theorem dX2_plan_46 : decode cX2_plan 46 = .ok (.iconst 1, 1) := by decide +kernel
theorem dX2_plan_47 : decode cX2_plan 47 = .ok (.iadd, 1) := by decide +kernel
theorem dX2_plan_48 : decode cX2_plan 48 = .ok (.istore_n 3, 1) := by decide +kernel
theorem dX2_plan_49 : decode cX2_plan 49 = .ok (.iinc 4 (-1), 3) := by decide +kernel
theorem dX2_plan_52 : decode cX2_plan 52 = .ok (.goto (-35), 3) := by decide +kernel
theorem dX2_plan_55 : decode cX2_plan 55 = .ok (.iload_n 2, 1) := by decide +kernel
theorem dX2_plan_56 : decode cX2_plan 56 = .ok (.ireturn, 1) := by decide +kernel
theorem dX2_beginPiece_0 : decode cX2_beginPiece 0 = .ok (.aload_n 0, 1) := by decide +kernel
theorem dX2_beginPiece_1 : decode cX2_beginPiece 1 = .ok (.ldc 33, 2) := by decide +kernel
theorem dX2_beginPiece_3 : decode cX2_beginPiece 3 = .ok (.putfield 34, 3) := by decide +kernel
theorem dX2_beginPiece_6 : decode cX2_beginPiece 6 = .ok (.aload_n 0, 1) := by decide +kernel
theorem dX2_beginPiece_7 : decode cX2_beginPiece 7 = .ok (.iconst (-1), 1) := by decide +kernel
theorem dX2_beginPiece_8 : decode cX2_beginPiece 8 = .ok (.putfield 38, 3) := by decide +kernel
theorem dX2_beginPiece_11 : decode cX2_beginPiece 11 = .ok (.return_, 1) := by decide +kernel
theorem dX2_errorWith_0 : decode cX2_errorWith 0 = .ok (.aload_n 0, 1) := by decide +kernel
theorem dX2_errorWith_1 : decode cX2_errorWith 1 = .ok (.getfield 15, 3) := by decide +kernel
theorem dX2_errorWith_4 : decode cX2_errorWith 4 = .ok (.iload_n 1, 1) := by decide +kernel
theorem dX2_errorWith_5 : decode cX2_errorWith 5 = .ok (.iaload, 1) := by decide +kernel
theorem dX2_errorWith_6 : decode cX2_errorWith 6 = .ok (.iconst (-1), 1) := by decide +kernel
theorem dX2_errorWith_7 : decode cX2_errorWith 7 = .ok (.if_icmp .eq 37, 3) := by decide +kernel
theorem dX2_errorWith_10 : decode cX2_errorWith 10 = .ok (.aload_n 0, 1) := by decide +kernel
theorem dX2_errorWith_11 : decode cX2_errorWith 11 = .ok (.aload_n 0, 1) := by decide +kernel
theorem dX2_errorWith_12 : decode cX2_errorWith 12 = .ok (.getfield 34, 3) := by decide +kernel
theorem dX2_errorWith_15 : decode cX2_errorWith 15 = .ok (.aload_n 0, 1) := by decide +kernel
theorem dX2_errorWith_16 : decode cX2_errorWith 16 = .ok (.getfield 15, 3) := by decide +kernel
theorem dX2_errorWith_19 : decode cX2_errorWith 19 = .ok (.iload_n 1, 1) := by decide +kernel
theorem dX2_errorWith_20 : decode cX2_errorWith 20 = .ok (.iaload, 1) := by decide +kernel
theorem dX2_errorWith_21 : decode cX2_errorWith 21 = .ok (.invokestatic 41, 3) := by decide +kernel
theorem dX2_errorWith_24 : decode cX2_errorWith 24 = .ok (.putfield 34, 3) := by decide +kernel
theorem dX2_errorWith_27 : decode cX2_errorWith 27 = .ok (.aload_n 0, 1) := by decide +kernel
theorem dX2_errorWith_28 : decode cX2_errorWith 28 = .ok (.aload_n 0, 1) := by decide +kernel
theorem dX2_errorWith_29 : decode cX2_errorWith 29 = .ok (.getfield 38, 3) := by decide +kernel
theorem dX2_errorWith_32 : decode cX2_errorWith 32 = .ok (.aload_n 0, 1) := by decide +kernel
theorem dX2_errorWith_33 : decode cX2_errorWith 33 = .ok (.getfield 15, 3) := by decide +kernel
theorem dX2_errorWith_36 : decode cX2_errorWith 36 = .ok (.iload_n 1, 1) := by decide +kernel
theorem dX2_errorWith_37 : decode cX2_errorWith 37 = .ok (.iaload, 1) := by decide +kernel
theorem dX2_errorWith_38 : decode cX2_errorWith 38 = .ok (.invokestatic 47, 3) := by decide +kernel
theorem dX2_errorWith_41 : decode cX2_errorWith 41 = .ok (.putfield 38, 3) := by decide +kernel
theorem dX2_errorWith_44 : decode cX2_errorWith 44 = .ok (.iconst 0, 1) := by decide +kernel
theorem dX2_errorWith_45 : decode cX2_errorWith 45 = .ok (.aload_n 0, 1) := by decide +kernel
theorem dX2_errorWith_46 : decode cX2_errorWith 46 = .ok (.getfield 38, 3) := by decide +kernel
theorem dX2_errorWith_49 : decode cX2_errorWith 49 = .ok (.aload_n 0, 1) := by decide +kernel
theorem dX2_errorWith_50 : decode cX2_errorWith 50 = .ok (.getfield 34, 3) := by decide +kernel
theorem dX2_errorWith_53 : decode cX2_errorWith 53 = .ok (.isub, 1) := by decide +kernel
theorem dX2_errorWith_54 : decode cX2_errorWith 54 = .ok (.invokestatic 47, 3) := by decide +kernel
theorem dX2_errorWith_57 : decode cX2_errorWith 57 = .ok (.ireturn, 1) := by decide +kernel
set_option maxRecDepth 20000 in
theorem ggX2_leastLimit_X2_fewestWithin : GoodIn wsX2_leastLimit wsX2_fewestWithin := goodIn_r _ [5, 6, 7, 8, 4, 9, 10, 11, 12, 13, 14, 15, 16, 17, 18, 19, 20, 21, 22, 23, 24, 25, 26, 27, 28, 29] (by decide +kernel) (by decide +kernel)
set_option maxRecDepth 20000 in
theorem gX2_leastLimit_X2_fewestWithin : GoodIn wsX2_leastLimit (wsV RX2 50 RX2 yX2_fewestWithin wsX2_fewestWithin) := goodIn_app (goodIn_of _ (by decide +kernel)) ggX2_leastLimit_X2_fewestWithin
theorem dX2_leastLimit_0 : decode cX2_leastLimit 0 = .ok (.iconst 0, 1) := by decide +kernel
theorem dX2_leastLimit_1 : decode cX2_leastLimit 1 = .ok (.istore_n 2, 1) := by decide +kernel
theorem dX2_leastLimit_2 : decode cX2_leastLimit 2 = .ok (.sipush 10000, 3) := by decide +kernel
theorem dX2_leastLimit_5 : decode cX2_leastLimit 5 = .ok (.istore_n 3, 1) := by decide +kernel
theorem dX2_leastLimit_6 : decode cX2_leastLimit 6 = .ok (.iconst 0, 1) := by decide +kernel
theorem dX2_leastLimit_7 : decode cX2_leastLimit 7 = .ok (.istore 4, 2) := by decide +kernel
theorem dX2_leastLimit_9 : decode cX2_leastLimit 9 = .ok (.iload 4, 2) := by decide +kernel
theorem dX2_leastLimit_11 : decode cX2_leastLimit 11 = .ok (.bipush 32, 2) := by decide +kernel
theorem dX2_leastLimit_13 : decode cX2_leastLimit 13 = .ok (.if_icmp .ge 42, 3) := by decide +kernel
theorem dX2_leastLimit_16 : decode cX2_leastLimit 16 = .ok (.iload_n 2, 1) := by decide +kernel
theorem dX2_leastLimit_17 : decode cX2_leastLimit 17 = .ok (.iload_n 3, 1) := by decide +kernel
theorem dX2_leastLimit_18 : decode cX2_leastLimit 18 = .ok (.if_icmp .ge 37, 3) := by decide +kernel
theorem dX2_leastLimit_21 : decode cX2_leastLimit 21 = .ok (.iload_n 2, 1) := by decide +kernel
theorem dX2_leastLimit_22 : decode cX2_leastLimit 22 = .ok (.iload_n 3, 1) := by decide +kernel
theorem dX2_leastLimit_23 : decode cX2_leastLimit 23 = .ok (.iadd, 1) := by decide +kernel
theorem dX2_leastLimit_24 : decode cX2_leastLimit 24 = .ok (.iconst 2, 1) := by decide +kernel
theorem dX2_leastLimit_25 : decode cX2_leastLimit 25 = .ok (.idiv, 1) := by decide +kernel
theorem dX2_leastLimit_26 : decode cX2_leastLimit 26 = .ok (.istore 5, 2) := by decide +kernel
theorem dX2_leastLimit_28 : decode cX2_leastLimit 28 = .ok (.aload_n 0, 1) := by decide +kernel
theorem dX2_leastLimit_29 : decode cX2_leastLimit 29 = .ok (.iload 5, 2) := by decide +kernel
theorem dX2_leastLimit_31 : decode cX2_leastLimit 31 = .ok (.invokevirtual 50, 3) := by decide +kernel
theorem dX2_leastLimit_34 : decode cX2_leastLimit 34 = .ok (.iload_n 1, 1) := by decide +kernel
theorem dX2_leastLimit_35 : decode cX2_leastLimit 35 = .ok (.if_icmp .gt 9, 3) := by decide +kernel
theorem dX2_leastLimit_38 : decode cX2_leastLimit 38 = .ok (.iload 5, 2) := by decide +kernel
theorem dX2_leastLimit_40 : decode cX2_leastLimit 40 = .ok (.istore_n 3, 1) := by decide +kernel
theorem dX2_leastLimit_41 : decode cX2_leastLimit 41 = .ok (.goto 8, 3) := by decide +kernel
theorem dX2_leastLimit_44 : decode cX2_leastLimit 44 = .ok (.iload 5, 2) := by decide +kernel
theorem dX2_leastLimit_46 : decode cX2_leastLimit 46 = .ok (.iconst 1, 1) := by decide +kernel
theorem dX2_leastLimit_47 : decode cX2_leastLimit 47 = .ok (.iadd, 1) := by decide +kernel
theorem dX2_leastLimit_48 : decode cX2_leastLimit 48 = .ok (.istore_n 2, 1) := by decide +kernel
theorem dX2_leastLimit_49 : decode cX2_leastLimit 49 = .ok (.iinc 4 1, 3) := by decide +kernel
theorem dX2_leastLimit_52 : decode cX2_leastLimit 52 = .ok (.goto (-43), 3) := by decide +kernel
theorem dX2_leastLimit_55 : decode cX2_leastLimit 55 = .ok (.iload_n 3, 1) := by decide +kernel
theorem dX2_leastLimit_56 : decode cX2_leastLimit 56 = .ok (.ireturn, 1) := by decide +kernel
set_option maxRecDepth 20000 in
theorem ggX2_fewestWithin_X2_beginPiece : GoodIn wsX2_fewestWithin wsX2_beginPiece := goodIn_r _ [5, 6, 7, 8, 21, 22, 23, 24, 25] (by decide +kernel) (by decide +kernel)
set_option maxRecDepth 20000 in
theorem gX2_fewestWithin_X2_beginPiece : GoodIn wsX2_fewestWithin (wsV RX2 53 RX2 yX2_beginPiece wsX2_beginPiece) := goodIn_app (goodIn_of _ (by decide +kernel)) ggX2_fewestWithin_X2_beginPiece
set_option maxRecDepth 20000 in
theorem ggX2_fewestWithin_X2_errorWith : GoodIn wsX2_fewestWithin wsX2_errorWith := goodIn_r _ [12, 13, 7, 14, 15, 16, 17, 8, 18, 19, 20, 21, 22, 23, 24, 25] (by decide +kernel) (by decide +kernel)
set_option maxRecDepth 20000 in
theorem gX2_fewestWithin_X2_errorWith : GoodIn wsX2_fewestWithin (wsV RX2 56 RX2 yX2_errorWith wsX2_errorWith) := goodIn_app (goodIn_of _ (by decide +kernel)) ggX2_fewestWithin_X2_errorWith
theorem dX2_fewestWithin_0 : decode cX2_fewestWithin 0 = .ok (.iconst 1, 1) := by decide +kernel
theorem dX2_fewestWithin_1 : decode cX2_fewestWithin 1 = .ok (.istore_n 2, 1) := by decide +kernel
theorem dX2_fewestWithin_2 : decode cX2_fewestWithin 2 = .ok (.aload_n 0, 1) := by decide +kernel
theorem dX2_fewestWithin_3 : decode cX2_fewestWithin 3 = .ok (.invokevirtual 53, 3) := by decide +kernel
theorem dX2_fewestWithin_6 : decode cX2_fewestWithin 6 = .ok (.iconst 0, 1) := by decide +kernel
theorem dX2_fewestWithin_7 : decode cX2_fewestWithin 7 = .ok (.istore_n 3, 1) := by decide +kernel
theorem dX2_fewestWithin_8 : decode cX2_fewestWithin 8 = .ok (.iload_n 3, 1) := by decide +kernel
theorem dX2_fewestWithin_9 : decode cX2_fewestWithin 9 = .ok (.bipush 40, 2) := by decide +kernel
theorem dX2_fewestWithin_11 : decode cX2_fewestWithin 11 = .ok (.if_icmp .ge 31, 3) := by decide +kernel
theorem dX2_fewestWithin_14 : decode cX2_fewestWithin 14 = .ok (.aload_n 0, 1) := by decide +kernel
theorem dX2_fewestWithin_15 : decode cX2_fewestWithin 15 = .ok (.iload_n 3, 1) := by decide +kernel
theorem dX2_fewestWithin_16 : decode cX2_fewestWithin 16 = .ok (.invokevirtual 56, 3) := by decide +kernel
theorem dX2_fewestWithin_19 : decode cX2_fewestWithin 19 = .ok (.iload_n 1, 1) := by decide +kernel
theorem dX2_fewestWithin_20 : decode cX2_fewestWithin 20 = .ok (.if_icmp .le 16, 3) := by decide +kernel
theorem dX2_fewestWithin_23 : decode cX2_fewestWithin 23 = .ok (.iinc 2 1, 3) := by decide +kernel
theorem dX2_fewestWithin_26 : decode cX2_fewestWithin 26 = .ok (.aload_n 0, 1) := by decide +kernel
theorem dX2_fewestWithin_27 : decode cX2_fewestWithin 27 = .ok (.invokevirtual 53, 3) := by decide +kernel
theorem dX2_fewestWithin_30 : decode cX2_fewestWithin 30 = .ok (.aload_n 0, 1) := by decide +kernel
theorem dX2_fewestWithin_31 : decode cX2_fewestWithin 31 = .ok (.iload_n 3, 1) := by decide +kernel
theorem dX2_fewestWithin_32 : decode cX2_fewestWithin 32 = .ok (.invokevirtual 56, 3) := by decide +kernel
theorem dX2_fewestWithin_35 : decode cX2_fewestWithin 35 = .ok (.pop, 1) := by decide +kernel
theorem dX2_fewestWithin_36 : decode cX2_fewestWithin 36 = .ok (.iinc 3 1, 3) := by decide +kernel
theorem dX2_fewestWithin_39 : decode cX2_fewestWithin 39 = .ok (.goto (-31), 3) := by decide +kernel
theorem dX2_fewestWithin_42 : decode cX2_fewestWithin 42 = .ok (.iload_n 2, 1) := by decide +kernel
theorem dX2_fewestWithin_43 : decode cX2_fewestWithin 43 = .ok (.ireturn, 1) := by decide +kernel
set_option maxRecDepth 20000 in
theorem ggX2_sumUp_J7_fill_53178 : GoodIn wsX2_sumUp wsJ7_fill_53178 := goodIn_r _ [6] (by decide +kernel) (by decide +kernel)
set_option maxRecDepth 20000 in
theorem gX2_sumUp_J7_fill_53178 : GoodIn wsX2_sumUp (va_wsS RX2 59 yJ7_fill_53178 wsJ7_fill_53178) := goodIn_app (goodIn_of _ (by decide +kernel)) ggX2_sumUp_J7_fill_53178
set_option maxRecDepth 20000 in
theorem ggX2_sumUp_X2_at : GoodIn wsX2_sumUp wsX2_at := goodIn_r _ [10] (by decide +kernel) (by decide +kernel)
set_option maxRecDepth 20000 in
theorem gX2_sumUp_X2_at : GoodIn wsX2_sumUp (va_wsS RX2 65 yX2_at wsX2_at) := goodIn_app (goodIn_of _ (by decide +kernel)) ggX2_sumUp_X2_at
set_option maxRecDepth 20000 in
theorem ggX2_sumUp_X2_beginPiece : GoodIn wsX2_sumUp wsX2_beginPiece := goodIn_r _ [14, 2, 15, 16, 33, 34, 35, 36, 37] (by decide +kernel) (by decide +kernel)
set_option maxRecDepth 20000 in
theorem gX2_sumUp_X2_beginPiece : GoodIn wsX2_sumUp (wsV RX2 53 RX2 yX2_beginPiece wsX2_beginPiece) := goodIn_app (goodIn_of _ (by decide +kernel)) ggX2_sumUp_X2_beginPiece
set_option maxRecDepth 20000 in
theorem ggX2_sumUp_X2_errorWith : GoodIn wsX2_sumUp wsX2_errorWith := goodIn_r _ [20, 21, 15, 22, 23, 24, 25, 16, 26, 27, 28, 33, 34, 35, 36, 37] (by decide +kernel) (by decide +kernel)
set_option maxRecDepth 20000 in
theorem gX2_sumUp_X2_errorWith : GoodIn wsX2_sumUp (wsV RX2 56 RX2 yX2_errorWith wsX2_errorWith) := goodIn_app (goodIn_of _ (by decide +kernel)) ggX2_sumUp_X2_errorWith
set_option maxRecDepth 20000 in
theorem ggX2_sumUp_X2_offerPiece : GoodIn wsX2_sumUp wsX2_offerPiece := goodIn_r _ [32, 1, 7, 8, 9, 10, 33, 34, 35, 36, 37] (by decide +kernel) (by decide +kernel)
set_option maxRecDepth 20000 in
theorem gX2_sumUp_X2_offerPiece : GoodIn wsX2_sumUp (wsV RX2 68 RX2 yX2_offerPiece wsX2_offerPiece) := goodIn_app (goodIn_of _ (by decide +kernel)) ggX2_sumUp_X2_offerPiece
theorem dX2_sumUp_0 : decode cX2_sumUp 0 = .ok (.aload_n 0, 1) := by decide +kernel
theorem dX2_sumUp_1 : decode cX2_sumUp 1 = .ok (.getfield 18, 3) := by decide +kernel
theorem dX2_sumUp_4 : decode cX2_sumUp 4 = .ok (.ldc 33, 2) := by decide +kernel
theorem dX2_sumUp_6 : decode cX2_sumUp 6 = .ok (.invokestatic 59, 3) := by decide +kernel
theorem dX2_sumUp_9 : decode cX2_sumUp 9 = .ok (.aload_n 0, 1) := by decide +kernel
theorem dX2_sumUp_10 : decode cX2_sumUp 10 = .ok (.getfield 18, 3) := by decide +kernel
theorem dX2_sumUp_13 : decode cX2_sumUp 13 = .ok (.iconst 0, 1) := by decide +kernel
theorem dX2_sumUp_14 : decode cX2_sumUp 14 = .ok (.bipush 40, 2) := by decide +kernel
theorem dX2_sumUp_16 : decode cX2_sumUp 16 = .ok (.invokestatic 65, 3) := by decide +kernel
theorem dX2_sumUp_19 : decode cX2_sumUp 19 = .ok (.iconst 0, 1) := by decide +kernel
theorem dX2_sumUp_20 : decode cX2_sumUp 20 = .ok (.iastore, 1) := by decide +kernel
theorem dX2_sumUp_21 : decode cX2_sumUp 21 = .ok (.bipush 39, 2) := by decide +kernel
theorem dX2_sumUp_23 : decode cX2_sumUp 23 = .ok (.istore_n 3, 1) := by decide +kernel
theorem dX2_sumUp_24 : decode cX2_sumUp 24 = .ok (.iload_n 3, 1) := by decide +kernel
theorem dX2_sumUp_25 : decode cX2_sumUp 25 = .ok (.ifCond .lt 56, 3) := by decide +kernel
theorem dX2_sumUp_28 : decode cX2_sumUp 28 = .ok (.aload_n 0, 1) := by decide +kernel
theorem dX2_sumUp_29 : decode cX2_sumUp 29 = .ok (.invokevirtual 53, 3) := by decide +kernel
theorem dX2_sumUp_32 : decode cX2_sumUp 32 = .ok (.iload_n 3, 1) := by decide +kernel
theorem dX2_sumUp_33 : decode cX2_sumUp 33 = .ok (.istore 4, 2) := by decide +kernel
theorem dX2_sumUp_35 : decode cX2_sumUp 35 = .ok (.iload 4, 2) := by decide +kernel
theorem dX2_sumUp_37 : decode cX2_sumUp 37 = .ok (.bipush 40, 2) := by decide +kernel
theorem dX2_sumUp_39 : decode cX2_sumUp 39 = .ok (.if_icmp .ge 36, 3) := by decide +kernel
theorem dX2_sumUp_42 : decode cX2_sumUp 42 = .ok (.aload_n 0, 1) := by decide +kernel
theorem dX2_sumUp_43 : decode cX2_sumUp 43 = .ok (.iload 4, 2) := by decide +kernel
theorem dX2_sumUp_45 : decode cX2_sumUp 45 = .ok (.invokevirtual 56, 3) := by decide +kernel
theorem dX2_sumUp_48 : decode cX2_sumUp 48 = .ok (.istore 5, 2) := by decide +kernel
theorem dX2_sumUp_50 : decode cX2_sumUp 50 = .ok (.iload 5, 2) := by decide +kernel
theorem dX2_sumUp_52 : decode cX2_sumUp 52 = .ok (.iload_n 2, 1) := by decide +kernel
theorem dX2_sumUp_53 : decode cX2_sumUp 53 = .ok (.if_icmp .le 6, 3) := by decide +kernel
theorem dX2_sumUp_56 : decode cX2_sumUp 56 = .ok (.goto 19, 3) := by decide +kernel
theorem dX2_sumUp_59 : decode cX2_sumUp 59 = .ok (.aload_n 0, 1) := by decide +kernel
theorem dX2_sumUp_60 : decode cX2_sumUp 60 = .ok (.iload_n 1, 1) := by decide +kernel
theorem dX2_sumUp_61 : decode cX2_sumUp 61 = .ok (.iload_n 3, 1) := by decide +kernel
theorem dX2_sumUp_62 : decode cX2_sumUp 62 = .ok (.iload 4, 2) := by decide +kernel
theorem dX2_sumUp_64 : decode cX2_sumUp 64 = .ok (.iload 5, 2) := by decide +kernel
theorem dX2_sumUp_66 : decode cX2_sumUp 66 = .ok (.invokevirtual 68, 3) := by decide +kernel
theorem dX2_sumUp_69 : decode cX2_sumUp 69 = .ok (.iinc 4 1, 3) := by decide +kernel
theorem dX2_sumUp_72 : decode cX2_sumUp 72 = .ok (.goto (-37), 3) := by decide +kernel
theorem dX2_sumUp_75 : decode cX2_sumUp 75 = .ok (.iinc 3 (-1), 3) := by decide +kernel
theorem dX2_sumUp_78 : decode cX2_sumUp 78 = .ok (.goto (-54), 3) := by decide +kernel
theorem dX2_sumUp_81 : decode cX2_sumUp 81 = .ok (.return_, 1) := by decide +kernel
set_option maxRecDepth 20000 in
theorem ggX2_offerPiece_X2_at : GoodIn wsX2_offerPiece wsX2_at := goodIn_r _ [5] (by decide +kernel) (by decide +kernel)
set_option maxRecDepth 20000 in
theorem gX2_offerPiece_X2_at : GoodIn wsX2_offerPiece (va_wsS RX2 65 yX2_at wsX2_at) := goodIn_app (goodIn_of _ (by decide +kernel)) ggX2_offerPiece_X2_at
theorem dX2_offerPiece_0 : decode cX2_offerPiece 0 = .ok (.iconst 1, 1) := by decide +kernel
theorem dX2_offerPiece_1 : decode cX2_offerPiece 1 = .ok (.istore 5, 2) := by decide +kernel
theorem dX2_offerPiece_3 : decode cX2_offerPiece 3 = .ok (.iload 5, 2) := by decide +kernel
theorem dX2_offerPiece_5 : decode cX2_offerPiece 5 = .ok (.iload_n 1, 1) := by decide +kernel
theorem dX2_offerPiece_6 : decode cX2_offerPiece 6 = .ok (.if_icmp .gt 58, 3) := by decide +kernel
theorem dX2_offerPiece_9 : decode cX2_offerPiece 9 = .ok (.iload 4, 2) := by decide +kernel
theorem dX2_offerPiece_11 : decode cX2_offerPiece 11 = .ok (.aload_n 0, 1) := by decide +kernel
theorem dX2_offerPiece_12 : decode cX2_offerPiece 12 = .ok (.getfield 18, 3) := by decide +kernel
theorem dX2_offerPiece_15 : decode cX2_offerPiece 15 = .ok (.iload 5, 2) := by decide +kernel
theorem dX2_offerPiece_17 : decode cX2_offerPiece 17 = .ok (.iconst 1, 1) := by decide +kernel
theorem dX2_offerPiece_18 : decode cX2_offerPiece 18 = .ok (.isub, 1) := by decide +kernel
theorem dX2_offerPiece_19 : decode cX2_offerPiece 19 = .ok (.iload_n 3, 1) := by decide +kernel
theorem dX2_offerPiece_20 : decode cX2_offerPiece 20 = .ok (.iconst 1, 1) := by decide +kernel
theorem dX2_offerPiece_21 : decode cX2_offerPiece 21 = .ok (.iadd, 1) := by decide +kernel
theorem dX2_offerPiece_22 : decode cX2_offerPiece 22 = .ok (.invokestatic 65, 3) := by decide +kernel
theorem dX2_offerPiece_25 : decode cX2_offerPiece 25 = .ok (.iaload, 1) := by decide +kernel
theorem dX2_offerPiece_26 : decode cX2_offerPiece 26 = .ok (.iadd, 1) := by decide +kernel
theorem dX2_offerPiece_27 : decode cX2_offerPiece 27 = .ok (.istore 6, 2) := by decide +kernel
theorem dX2_offerPiece_29 : decode cX2_offerPiece 29 = .ok (.iload 6, 2) := by decide +kernel
theorem dX2_offerPiece_31 : decode cX2_offerPiece 31 = .ok (.aload_n 0, 1) := by decide +kernel
theorem dX2_offerPiece_32 : decode cX2_offerPiece 32 = .ok (.getfield 18, 3) := by decide +kernel
theorem dX2_offerPiece_35 : decode cX2_offerPiece 35 = .ok (.iload 5, 2) := by decide +kernel
theorem dX2_offerPiece_37 : decode cX2_offerPiece 37 = .ok (.iload_n 2, 1) := by decide +kernel
theorem dX2_offerPiece_38 : decode cX2_offerPiece 38 = .ok (.invokestatic 65, 3) := by decide +kernel
theorem dX2_offerPiece_41 : decode cX2_offerPiece 41 = .ok (.iaload, 1) := by decide +kernel
theorem dX2_offerPiece_42 : decode cX2_offerPiece 42 = .ok (.if_icmp .ge 16, 3) := by decide +kernel
theorem dX2_offerPiece_45 : decode cX2_offerPiece 45 = .ok (.aload_n 0, 1) := by decide +kernel
theorem dX2_offerPiece_46 : decode cX2_offerPiece 46 = .ok (.getfield 18, 3) := by decide +kernel
theorem dX2_offerPiece_49 : decode cX2_offerPiece 49 = .ok (.iload 5, 2) := by decide +kernel
theorem dX2_offerPiece_51 : decode cX2_offerPiece 51 = .ok (.iload_n 2, 1) := by decide +kernel
theorem dX2_offerPiece_52 : decode cX2_offerPiece 52 = .ok (.invokestatic 65, 3) := by decide +kernel
theorem dX2_offerPiece_55 : decode cX2_offerPiece 55 = .ok (.iload 6, 2) := by decide +kernel
theorem dX2_offerPiece_57 : decode cX2_offerPiece 57 = .ok (.iastore, 1) := by decide +kernel
theorem dX2_offerPiece_58 : decode cX2_offerPiece 58 = .ok (.iinc 5 1, 3) := by decide +kernel
theorem dX2_offerPiece_61 : decode cX2_offerPiece 61 = .ok (.goto (-58), 3) := by decide +kernel
theorem dX2_offerPiece_64 : decode cX2_offerPiece 64 = .ok (.return_, 1) := by decide +kernel
set_option maxRecDepth 20000 in
theorem ggX2_firstEnd_X2_beginPiece : GoodIn wsX2_firstEnd wsX2_beginPiece := goodIn_r _ [6, 7, 8, 9, 25, 26, 27, 28, 29] (by decide +kernel) (by decide +kernel)
set_option maxRecDepth 20000 in
theorem gX2_firstEnd_X2_beginPiece : GoodIn wsX2_firstEnd (wsV RX2 53 RX2 yX2_beginPiece wsX2_beginPiece) := goodIn_app (goodIn_of _ (by decide +kernel)) ggX2_firstEnd_X2_beginPiece
set_option maxRecDepth 20000 in
theorem ggX2_firstEnd_X2_errorWith : GoodIn wsX2_firstEnd wsX2_errorWith := goodIn_r _ [13, 14, 8, 15, 16, 17, 18, 9, 19, 20, 21, 25, 26, 27, 28, 29] (by decide +kernel) (by decide +kernel)
set_option maxRecDepth 20000 in
theorem gX2_firstEnd_X2_errorWith : GoodIn wsX2_firstEnd (wsV RX2 56 RX2 yX2_errorWith wsX2_errorWith) := goodIn_app (goodIn_of _ (by decide +kernel)) ggX2_firstEnd_X2_errorWith
set_option maxRecDepth 20000 in
theorem ggX2_firstEnd_X2_at : GoodIn wsX2_firstEnd wsX2_at := goodIn_r _ [24] (by decide +kernel) (by decide +kernel)
set_option maxRecDepth 20000 in
theorem gX2_firstEnd_X2_at : GoodIn wsX2_firstEnd (va_wsS RX2 65 yX2_at wsX2_at) := goodIn_app (goodIn_of _ (by decide +kernel)) ggX2_firstEnd_X2_at
theorem dX2_firstEnd_0 : decode cX2_firstEnd 0 = .ok (.aload_n 0, 1) := by decide +kernel
theorem dX2_firstEnd_1 : decode cX2_firstEnd 1 = .ok (.invokevirtual 53, 3) := by decide +kernel
theorem dX2_firstEnd_4 : decode cX2_firstEnd 4 = .ok (.iload_n 2, 1) := by decide +kernel
theorem dX2_firstEnd_5 : decode cX2_firstEnd 5 = .ok (.istore 4, 2) := by decide +kernel
theorem dX2_firstEnd_7 : decode cX2_firstEnd 7 = .ok (.iload 4, 2) := by decide +kernel
theorem dX2_firstEnd_9 : decode cX2_firstEnd 9 = .ok (.bipush 40, 2) := by decide +kernel
theorem dX2_firstEnd_11 : decode cX2_firstEnd 11 = .ok (.if_icmp .ge 60, 3) := by decide +kernel
theorem dX2_firstEnd_14 : decode cX2_firstEnd 14 = .ok (.aload_n 0, 1) := by decide +kernel
theorem dX2_firstEnd_15 : decode cX2_firstEnd 15 = .ok (.iload 4, 2) := by decide +kernel
theorem dX2_firstEnd_17 : decode cX2_firstEnd 17 = .ok (.invokevirtual 56, 3) := by decide +kernel
theorem dX2_firstEnd_20 : decode cX2_firstEnd 20 = .ok (.istore 5, 2) := by decide +kernel
theorem dX2_firstEnd_22 : decode cX2_firstEnd 22 = .ok (.iload 5, 2) := by decide +kernel
theorem dX2_firstEnd_24 : decode cX2_firstEnd 24 = .ok (.iload_n 3, 1) := by decide +kernel
theorem dX2_firstEnd_25 : decode cX2_firstEnd 25 = .ok (.if_icmp .le 6, 3) := by decide +kernel
theorem dX2_firstEnd_28 : decode cX2_firstEnd 28 = .ok (.goto 43, 3) := by decide +kernel
theorem dX2_firstEnd_31 : decode cX2_firstEnd 31 = .ok (.iload 5, 2) := by decide +kernel
theorem dX2_firstEnd_33 : decode cX2_firstEnd 33 = .ok (.aload_n 0, 1) := by decide +kernel
theorem dX2_firstEnd_34 : decode cX2_firstEnd 34 = .ok (.getfield 18, 3) := by decide +kernel
theorem dX2_firstEnd_37 : decode cX2_firstEnd 37 = .ok (.iload_n 1, 1) := by decide +kernel
theorem dX2_firstEnd_38 : decode cX2_firstEnd 38 = .ok (.iconst 1, 1) := by decide +kernel
theorem dX2_firstEnd_39 : decode cX2_firstEnd 39 = .ok (.isub, 1) := by decide +kernel
theorem dX2_firstEnd_40 : decode cX2_firstEnd 40 = .ok (.iload 4, 2) := by decide +kernel
theorem dX2_firstEnd_42 : decode cX2_firstEnd 42 = .ok (.iconst 1, 1) := by decide +kernel
theorem dX2_firstEnd_43 : decode cX2_firstEnd 43 = .ok (.iadd, 1) := by decide +kernel
theorem dX2_firstEnd_44 : decode cX2_firstEnd 44 = .ok (.invokestatic 65, 3) := by decide +kernel
theorem dX2_firstEnd_47 : decode cX2_firstEnd 47 = .ok (.iaload, 1) := by decide +kernel
theorem dX2_firstEnd_48 : decode cX2_firstEnd 48 = .ok (.iadd, 1) := by decide +kernel
theorem dX2_firstEnd_49 : decode cX2_firstEnd 49 = .ok (.aload_n 0, 1) := by decide +kernel
theorem dX2_firstEnd_50 : decode cX2_firstEnd 50 = .ok (.getfield 18, 3) := by decide +kernel
theorem dX2_firstEnd_53 : decode cX2_firstEnd 53 = .ok (.iload_n 1, 1) := by decide +kernel
theorem dX2_firstEnd_54 : decode cX2_firstEnd 54 = .ok (.iload_n 2, 1) := by decide +kernel
theorem dX2_firstEnd_55 : decode cX2_firstEnd 55 = .ok (.invokestatic 65, 3) := by decide +kernel
theorem dX2_firstEnd_58 : decode cX2_firstEnd 58 = .ok (.iaload, 1) := by decide +kernel
theorem dX2_firstEnd_59 : decode cX2_firstEnd 59 = .ok (.if_icmp .ne 6, 3) := by decide +kernel
theorem dX2_firstEnd_62 : decode cX2_firstEnd 62 = .ok (.iload 4, 2) := by decide +kernel
theorem dX2_firstEnd_64 : decode cX2_firstEnd 64 = .ok (.ireturn, 1) := by decide +kernel
theorem dX2_firstEnd_65 : decode cX2_firstEnd 65 = .ok (.iinc 4 1, 3) := by decide +kernel
theorem dX2_firstEnd_68 : decode cX2_firstEnd 68 = .ok (.goto (-61), 3) := by decide +kernel
theorem dX2_firstEnd_71 : decode cX2_firstEnd 71 = .ok (.bipush 39, 2) := by decide +kernel
theorem dX2_firstEnd_73 : decode cX2_firstEnd 73 = .ok (.ireturn, 1) := by decide +kernel
theorem dX2_at_0 : decode cX2_at 0 = .ok (.iload_n 0, 1) := by decide +kernel
theorem dX2_at_1 : decode cX2_at 1 = .ok (.bipush 41, 2) := by decide +kernel
theorem dX2_at_3 : decode cX2_at 3 = .ok (.imul, 1) := by decide +kernel
theorem dX2_at_4 : decode cX2_at 4 = .ok (.iload_n 1, 1) := by decide +kernel
theorem dX2_at_5 : decode cX2_at 5 = .ok (.iadd, 1) := by decide +kernel
theorem dX2_at_6 : decode cX2_at 6 = .ok (.ireturn, 1) := by decide +kernel
theorem dX3_init_0 : decode cX3_init 0 = .ok (.aload_n 0, 1) := by decide +kernel
theorem dX3_init_1 : decode cX3_init 1 = .ok (.invokespecial 3, 3) := by decide +kernel
theorem dX3_init_4 : decode cX3_init 4 = .ok (.aload_n 0, 1) := by decide +kernel
theorem dX3_init_5 : decode cX3_init 5 = .ok (.bipush 16, 2) := by decide +kernel
theorem dX3_init_7 : decode cX3_init 7 = .ok (.newarray .int, 2) := by decide +kernel
theorem dX3_init_9 : decode cX3_init 9 = .ok (.putfield 9, 3) := by decide +kernel
theorem dX3_init_12 : decode cX3_init 12 = .ok (.return_, 1) := by decide +kernel
theorem dX3_begin_0 : decode cX3_begin 0 = .ok (.aload_n 0, 1) := by decide +kernel
theorem dX3_begin_1 : decode cX3_begin 1 = .ok (.iload_n 1, 1) := by decide +kernel
theorem dX3_begin_2 : decode cX3_begin 2 = .ok (.putfield 15, 3) := by decide +kernel
theorem dX3_begin_5 : decode cX3_begin 5 = .ok (.aload_n 0, 1) := by decide +kernel
theorem dX3_begin_6 : decode cX3_begin 6 = .ok (.iload_n 2, 1) := by decide +kernel
theorem dX3_begin_7 : decode cX3_begin 7 = .ok (.putfield 19, 3) := by decide +kernel
theorem dX3_begin_10 : decode cX3_begin 10 = .ok (.aload_n 0, 1) := by decide +kernel
theorem dX3_begin_11 : decode cX3_begin 11 = .ok (.iconst 0, 1) := by decide +kernel
theorem dX3_begin_12 : decode cX3_begin 12 = .ok (.putfield 22, 3) := by decide +kernel
theorem dX3_begin_15 : decode cX3_begin 15 = .ok (.return_, 1) := by decide +kernel
theorem dX3_held_0 : decode cX3_held 0 = .ok (.aload_n 0, 1) := by decide +kernel
theorem dX3_held_1 : decode cX3_held 1 = .ok (.getfield 22, 3) := by decide +kernel
theorem dX3_held_4 : decode cX3_held 4 = .ok (.aload_n 0, 1) := by decide +kernel
theorem dX3_held_5 : decode cX3_held 5 = .ok (.getfield 15, 3) := by decide +kernel
theorem dX3_held_8 : decode cX3_held 8 = .ok (.invokestatic 25, 3) := by decide +kernel
theorem dX3_held_11 : decode cX3_held 11 = .ok (.ireturn, 1) := by decide +kernel
set_option maxRecDepth 20000 in
theorem ggX3_take_X3_takeOne : GoodIn wsX3_take wsX3_takeOne := goodIn_r _ [6, 7, 8, 1, 9, 10, 11, 12, 5, 13, 14, 15, 16, 17, 18, 19, 20, 21, 22] (by decide +kernel) (by decide +kernel)
set_option maxRecDepth 20000 in
theorem gX3_take_X3_takeOne : GoodIn wsX3_take (wsV RX3 31 RX3 yX3_takeOne wsX3_takeOne) := goodIn_app (goodIn_of _ (by decide +kernel)) ggX3_take_X3_takeOne
theorem dX3_take_0 : decode cX3_take 0 = .ok (.aload_n 0, 1) := by decide +kernel
theorem dX3_take_1 : decode cX3_take 1 = .ok (.getfield 15, 3) := by decide +kernel
theorem dX3_take_4 : decode cX3_take 4 = .ok (.ifCond .ne 4, 3) := by decide +kernel
theorem dX3_take_7 : decode cX3_take 7 = .ok (.return_, 1) := by decide +kernel
theorem dX3_take_8 : decode cX3_take 8 = .ok (.iconst 0, 1) := by decide +kernel
theorem dX3_take_9 : decode cX3_take 9 = .ok (.istore_n 3, 1) := by decide +kernel
theorem dX3_take_10 : decode cX3_take 10 = .ok (.iload_n 3, 1) := by decide +kernel
theorem dX3_take_11 : decode cX3_take 11 = .ok (.iload_n 2, 1) := by decide +kernel
theorem dX3_take_12 : decode cX3_take 12 = .ok (.if_icmp .ge 14, 3) := by decide +kernel
theorem dX3_take_15 : decode cX3_take 15 = .ok (.aload_n 0, 1) := by decide +kernel
theorem dX3_take_16 : decode cX3_take 16 = .ok (.iload_n 1, 1) := by decide +kernel
theorem dX3_take_17 : decode cX3_take 17 = .ok (.invokevirtual 31, 3) := by decide +kernel
theorem dX3_take_20 : decode cX3_take 20 = .ok (.iinc 3 1, 3) := by decide +kernel
theorem dX3_take_23 : decode cX3_take 23 = .ok (.goto (-13), 3) := by decide +kernel
theorem dX3_take_26 : decode cX3_take 26 = .ok (.return_, 1) := by decide +kernel
set_option maxRecDepth 20000 in
theorem ggX3_takeOne_X3_nextLot : GoodIn wsX3_takeOne wsX3_nextLot := goodIn_r _ [9, 10, 11, 12, 13, 1, 14, 15, 16, 17, 18] (by decide +kernel) (by decide +kernel)
set_option maxRecDepth 20000 in
theorem gX3_takeOne_X3_nextLot : GoodIn wsX3_takeOne (wsV RX3 36 RX3 yX3_nextLot wsX3_nextLot) := goodIn_app (goodIn_of _ (by decide +kernel)) ggX3_takeOne_X3_nextLot
theorem dX3_takeOne_0 : decode cX3_takeOne 0 = .ok (.aload_n 0, 1) := by decide +kernel
theorem dX3_takeOne_1 : decode cX3_takeOne 1 = .ok (.getfield 22, 3) := by decide +kernel
theorem dX3_takeOne_4 : decode cX3_takeOne 4 = .ok (.ldc 35, 2) := by decide +kernel
theorem dX3_takeOne_6 : decode cX3_takeOne 6 = .ok (.if_icmp .ge 13, 3) := by decide +kernel
theorem dX3_takeOne_9 : decode cX3_takeOne 9 = .ok (.aload_n 0, 1) := by decide +kernel
theorem dX3_takeOne_10 : decode cX3_takeOne 10 = .ok (.dup, 1) := by decide +kernel
theorem dX3_takeOne_11 : decode cX3_takeOne 11 = .ok (.getfield 22, 3) := by decide +kernel
theorem dX3_takeOne_14 : decode cX3_takeOne 14 = .ok (.iconst 1, 1) := by decide +kernel
theorem dX3_takeOne_15 : decode cX3_takeOne 15 = .ok (.iadd, 1) := by decide +kernel
theorem dX3_takeOne_16 : decode cX3_takeOne 16 = .ok (.putfield 22, 3) := by decide +kernel
theorem dX3_takeOne_19 : decode cX3_takeOne 19 = .ok (.aload_n 0, 1) := by decide +kernel
theorem dX3_takeOne_20 : decode cX3_takeOne 20 = .ok (.getfield 22, 3) := by decide +kernel
theorem dX3_takeOne_23 : decode cX3_takeOne 23 = .ok (.aload_n 0, 1) := by decide +kernel
theorem dX3_takeOne_24 : decode cX3_takeOne 24 = .ok (.getfield 15, 3) := by decide +kernel
theorem dX3_takeOne_27 : decode cX3_takeOne 27 = .ok (.if_icmp .gt 12, 3) := by decide +kernel
theorem dX3_takeOne_30 : decode cX3_takeOne 30 = .ok (.aload_n 0, 1) := by decide +kernel
theorem dX3_takeOne_31 : decode cX3_takeOne 31 = .ok (.getfield 22, 3) := by decide +kernel
theorem dX3_takeOne_34 : decode cX3_takeOne 34 = .ok (.iconst 1, 1) := by decide +kernel
theorem dX3_takeOne_35 : decode cX3_takeOne 35 = .ok (.isub, 1) := by decide +kernel
theorem dX3_takeOne_36 : decode cX3_takeOne 36 = .ok (.goto 7, 3) := by decide +kernel
theorem dX3_takeOne_39 : decode cX3_takeOne 39 = .ok (.aload_n 0, 1) := by decide +kernel
theorem dX3_takeOne_40 : decode cX3_takeOne 40 = .ok (.invokevirtual 36, 3) := by decide +kernel
theorem dX3_takeOne_43 : decode cX3_takeOne 43 = .ok (.istore_n 2, 1) := by decide +kernel
theorem dX3_takeOne_44 : decode cX3_takeOne 44 = .ok (.iload_n 2, 1) := by decide +kernel
theorem dX3_takeOne_45 : decode cX3_takeOne 45 = .ok (.ifCond .lt 24, 3) := by decide +kernel
theorem dX3_takeOne_48 : decode cX3_takeOne 48 = .ok (.iload_n 2, 1) := by decide +kernel
theorem dX3_takeOne_49 : decode cX3_takeOne 49 = .ok (.aload_n 0, 1) := by decide +kernel
theorem dX3_takeOne_50 : decode cX3_takeOne 50 = .ok (.getfield 15, 3) := by decide +kernel
theorem dX3_takeOne_53 : decode cX3_takeOne 53 = .ok (.if_icmp .ge 16, 3) := by decide +kernel
theorem dX3_takeOne_56 : decode cX3_takeOne 56 = .ok (.iload_n 2, 1) := by decide +kernel
theorem dX3_takeOne_57 : decode cX3_takeOne 57 = .ok (.bipush 16, 2) := by decide +kernel
theorem dX3_takeOne_59 : decode cX3_takeOne 59 = .ok (.if_icmp .ge 10, 3) := by decide +kernel
theorem dX3_takeOne_62 : decode cX3_takeOne 62 = .ok (.aload_n 0, 1) := by decide +kernel
theorem dX3_takeOne_63 : decode cX3_takeOne 63 = .ok (.getfield 9, 3) := by decide +kernel
theorem dX3_takeOne_66 : decode cX3_takeOne 66 = .ok (.iload_n 2, 1) := by decide +kernel
theorem dX3_takeOne_67 : decode cX3_takeOne 67 = .ok (.iload_n 1, 1) := by decide +kernel
theorem dX3_takeOne_68 : decode cX3_takeOne 68 = .ok (.iastore, 1) := by decide +kernel
theorem dX3_takeOne_69 : decode cX3_takeOne 69 = .ok (.return_, 1) := by decide +kernel
theorem dX3_nextLot_0 : decode cX3_nextLot 0 = .ok (.aload_n 0, 1) := by decide +kernel
theorem dX3_nextLot_1 : decode cX3_nextLot 1 = .ok (.ldc2_w 40, 3) := by decide +kernel
theorem dX3_nextLot_4 : decode cX3_nextLot 4 = .ok (.aload_n 0, 1) := by decide +kernel
theorem dX3_nextLot_5 : decode cX3_nextLot 5 = .ok (.getfield 19, 3) := by decide +kernel
theorem dX3_nextLot_8 : decode cX3_nextLot 8 = .ok (.i2l, 1) := by decide +kernel
theorem dX3_nextLot_9 : decode cX3_nextLot 9 = .ok (.lmul, 1) := by decide +kernel
theorem dX3_nextLot_10 : decode cX3_nextLot 10 = .ok (.ldc2_w 42, 3) := by decide +kernel
theorem dX3_nextLot_13 : decode cX3_nextLot 13 = .ok (.ladd, 1) := by decide +kernel
theorem dX3_nextLot_14 : decode cX3_nextLot 14 = .ok (.ldc2_w 44, 3) := by decide +kernel
theorem dX3_nextLot_17 : decode cX3_nextLot 17 = .ok (.land, 1) := by decide +kernel
theorem dX3_nextLot_18 : decode cX3_nextLot 18 = .ok (.l2i, 1) := by decide +kernel
theorem dX3_nextLot_19 : decode cX3_nextLot 19 = .ok (.putfield 19, 3) := by decide +kernel
theorem dX3_nextLot_22 : decode cX3_nextLot 22 = .ok (.aload_n 0, 1) := by decide +kernel
theorem dX3_nextLot_23 : decode cX3_nextLot 23 = .ok (.getfield 22, 3) := by decide +kernel
theorem dX3_nextLot_26 : decode cX3_nextLot 26 = .ok (.ifCond .le 18, 3) := by decide +kernel
theorem dX3_nextLot_29 : decode cX3_nextLot 29 = .ok (.aload_n 0, 1) := by decide +kernel
theorem dX3_nextLot_30 : decode cX3_nextLot 30 = .ok (.getfield 19, 3) := by decide +kernel
theorem dX3_nextLot_33 : decode cX3_nextLot 33 = .ok (.ldc 46, 2) := by decide +kernel
theorem dX3_nextLot_35 : decode cX3_nextLot 35 = .ok (.idiv, 1) := by decide +kernel
theorem dX3_nextLot_36 : decode cX3_nextLot 36 = .ok (.aload_n 0, 1) := by decide +kernel
theorem dX3_nextLot_37 : decode cX3_nextLot 37 = .ok (.getfield 22, 3) := by decide +kernel
theorem dX3_nextLot_40 : decode cX3_nextLot 40 = .ok (.irem, 1) := by decide +kernel
theorem dX3_nextLot_41 : decode cX3_nextLot 41 = .ok (.goto 4, 3) := by decide +kernel
theorem dX3_nextLot_44 : decode cX3_nextLot 44 = .ok (.iconst (-1), 1) := by decide +kernel
theorem dX3_nextLot_45 : decode cX3_nextLot 45 = .ok (.ireturn, 1) := by decide +kernel
theorem dX4_init_0 : decode cX4_init 0 = .ok (.aload_n 0, 1) := by decide +kernel
theorem dX4_init_1 : decode cX4_init 1 = .ok (.invokespecial 3, 3) := by decide +kernel
theorem dX4_init_4 : decode cX4_init 4 = .ok (.aload_n 0, 1) := by decide +kernel
theorem dX4_init_5 : decode cX4_init 5 = .ok (.bipush 24, 2) := by decide +kernel
theorem dX4_init_7 : decode cX4_init 7 = .ok (.newarray .int, 2) := by decide +kernel
theorem dX4_init_9 : decode cX4_init 9 = .ok (.putfield 9, 3) := by decide +kernel
theorem dX4_init_12 : decode cX4_init 12 = .ok (.aload_n 0, 1) := by decide +kernel
theorem dX4_init_13 : decode cX4_init 13 = .ok (.bipush 24, 2) := by decide +kernel
theorem dX4_init_15 : decode cX4_init 15 = .ok (.newarray .int, 2) := by decide +kernel
theorem dX4_init_17 : decode cX4_init 17 = .ok (.putfield 15, 3) := by decide +kernel
theorem dX4_init_20 : decode cX4_init 20 = .ok (.aload_n 0, 1) := by decide +kernel
theorem dX4_init_21 : decode cX4_init 21 = .ok (.bipush 24, 2) := by decide +kernel
theorem dX4_init_23 : decode cX4_init 23 = .ok (.newarray .int, 2) := by decide +kernel
theorem dX4_init_25 : decode cX4_init 25 = .ok (.putfield 18, 3) := by decide +kernel
theorem dX4_init_28 : decode cX4_init 28 = .ok (.aload_n 0, 1) := by decide +kernel
theorem dX4_init_29 : decode cX4_init 29 = .ok (.bipush 40, 2) := by decide +kernel
theorem dX4_init_31 : decode cX4_init 31 = .ok (.newarray .boolean, 2) := by decide +kernel
theorem dX4_init_33 : decode cX4_init 33 = .ok (.putfield 21, 3) := by decide +kernel
theorem dX4_init_36 : decode cX4_init 36 = .ok (.aload_n 0, 1) := by decide +kernel
theorem dX4_init_37 : decode cX4_init 37 = .ok (.bipush 40, 2) := by decide +kernel
theorem dX4_init_39 : decode cX4_init 39 = .ok (.newarray .int, 2) := by decide +kernel
theorem dX4_init_41 : decode cX4_init 41 = .ok (.putfield 25, 3) := by decide +kernel
theorem dX4_init_44 : decode cX4_init 44 = .ok (.return_, 1) := by decide +kernel
theorem dX4_isThere_0 : decode cX4_isThere 0 = .ok (.aload_n 0, 1) := by decide +kernel
theorem dX4_isThere_1 : decode cX4_isThere 1 = .ok (.getfield 28, 3) := by decide +kernel
theorem dX4_isThere_4 : decode cX4_isThere 4 = .ok (.ifCond .le 7, 3) := by decide +kernel
theorem dX4_isThere_7 : decode cX4_isThere 7 = .ok (.iconst 1, 1) := by decide +kernel
theorem dX4_isThere_8 : decode cX4_isThere 8 = .ok (.goto 4, 3) := by decide +kernel
theorem dX4_isThere_11 : decode cX4_isThere 11 = .ok (.iconst 0, 1) := by decide +kernel
theorem dX4_isThere_12 : decode cX4_isThere 12 = .ok (.ireturn, 1) := by decide +kernel
set_option maxRecDepth 20000 in
theorem ggX4_chooseHeavy_X4_greatestPlain : GoodIn wsX4_chooseHeavy wsX4_greatestPlain := goodIn_r _ [7, 1, 8, 9, 10, 11, 12, 13, 14] (by decide +kernel) (by decide +kernel)
set_option maxRecDepth 20000 in
theorem gX4_chooseHeavy_X4_greatestPlain : GoodIn wsX4_chooseHeavy (wsV RX4 32 RX4 yX4_greatestPlain wsX4_greatestPlain) := goodIn_app (goodIn_of _ (by decide +kernel)) ggX4_chooseHeavy_X4_greatestPlain
theorem dX4_chooseHeavy_0 : decode cX4_chooseHeavy 0 = .ok (.iconst 0, 1) := by decide +kernel
theorem dX4_chooseHeavy_1 : decode cX4_chooseHeavy 1 = .ok (.istore 5, 2) := by decide +kernel
theorem dX4_chooseHeavy_3 : decode cX4_chooseHeavy 3 = .ok (.iload 5, 2) := by decide +kernel
theorem dX4_chooseHeavy_5 : decode cX4_chooseHeavy 5 = .ok (.bipush 40, 2) := by decide +kernel
theorem dX4_chooseHeavy_7 : decode cX4_chooseHeavy 7 = .ok (.if_icmp .ge 25, 3) := by decide +kernel
theorem dX4_chooseHeavy_10 : decode cX4_chooseHeavy 10 = .ok (.aload_n 0, 1) := by decide +kernel
theorem dX4_chooseHeavy_11 : decode cX4_chooseHeavy 11 = .ok (.getfield 21, 3) := by decide +kernel
theorem dX4_chooseHeavy_14 : decode cX4_chooseHeavy 14 = .ok (.iload 5, 2) := by decide +kernel
theorem dX4_chooseHeavy_16 : decode cX4_chooseHeavy 16 = .ok (.iconst 0, 1) := by decide +kernel
theorem dX4_chooseHeavy_17 : decode cX4_chooseHeavy 17 = .ok (.bastore, 1) := by decide +kernel
theorem dX4_chooseHeavy_18 : decode cX4_chooseHeavy 18 = .ok (.aload_n 0, 1) := by decide +kernel
theorem dX4_chooseHeavy_19 : decode cX4_chooseHeavy 19 = .ok (.getfield 25, 3) := by decide +kernel
theorem dX4_chooseHeavy_22 : decode cX4_chooseHeavy 22 = .ok (.iload 5, 2) := by decide +kernel
theorem dX4_chooseHeavy_24 : decode cX4_chooseHeavy 24 = .ok (.iconst 0, 1) := by decide +kernel
theorem dX4_chooseHeavy_25 : decode cX4_chooseHeavy 25 = .ok (.iastore, 1) := by decide +kernel
theorem dX4_chooseHeavy_26 : decode cX4_chooseHeavy 26 = .ok (.iinc 5 1, 3) := by decide +kernel
theorem dX4_chooseHeavy_29 : decode cX4_chooseHeavy 29 = .ok (.goto (-26), 3) := by decide +kernel
theorem dX4_chooseHeavy_32 : decode cX4_chooseHeavy 32 = .ok (.iconst 0, 1) := by decide +kernel
theorem dX4_chooseHeavy_33 : decode cX4_chooseHeavy 33 = .ok (.istore 5, 2) := by decide +kernel
theorem dX4_chooseHeavy_35 : decode cX4_chooseHeavy 35 = .ok (.iload 5, 2) := by decide +kernel
theorem dX4_chooseHeavy_37 : decode cX4_chooseHeavy 37 = .ok (.bipush 8, 2) := by decide +kernel
theorem dX4_chooseHeavy_39 : decode cX4_chooseHeavy 39 = .ok (.if_icmp .ge 60, 3) := by decide +kernel
theorem dX4_chooseHeavy_42 : decode cX4_chooseHeavy 42 = .ok (.aload_n 0, 1) := by decide +kernel
theorem dX4_chooseHeavy_43 : decode cX4_chooseHeavy 43 = .ok (.aload_n 1, 1) := by decide +kernel
theorem dX4_chooseHeavy_44 : decode cX4_chooseHeavy 44 = .ok (.invokevirtual 32, 3) := by decide +kernel
theorem dX4_chooseHeavy_47 : decode cX4_chooseHeavy 47 = .ok (.istore 6, 2) := by decide +kernel
theorem dX4_chooseHeavy_49 : decode cX4_chooseHeavy 49 = .ok (.iload 6, 2) := by decide +kernel
theorem dX4_chooseHeavy_51 : decode cX4_chooseHeavy 51 = .ok (.iconst (-1), 1) := by decide +kernel
theorem dX4_chooseHeavy_52 : decode cX4_chooseHeavy 52 = .ok (.if_icmp .eq 21, 3) := by decide +kernel
theorem dX4_chooseHeavy_55 : decode cX4_chooseHeavy 55 = .ok (.aload_n 1, 1) := by decide +kernel
theorem dX4_chooseHeavy_56 : decode cX4_chooseHeavy 56 = .ok (.iload 6, 2) := by decide +kernel
theorem dX4_chooseHeavy_58 : decode cX4_chooseHeavy 58 = .ok (.iaload, 1) := by decide +kernel
theorem dX4_chooseHeavy_59 : decode cX4_chooseHeavy 59 = .ok (.i2l, 1) := by decide +kernel
theorem dX4_chooseHeavy_60 : decode cX4_chooseHeavy 60 = .ok (.iload 4, 2) := by decide +kernel
theorem dX4_chooseHeavy_62 : decode cX4_chooseHeavy 62 = .ok (.i2l, 1) := by decide +kernel
theorem dX4_chooseHeavy_63 : decode cX4_chooseHeavy 63 = .ok (.lmul, 1) := by decide +kernel
theorem dX4_chooseHeavy_64 : decode cX4_chooseHeavy 64 = .ok (.iload_n 2, 1) := by decide +kernel
theorem dX4_chooseHeavy_65 : decode cX4_chooseHeavy 65 = .ok (.i2l, 1) := by decide +kernel
theorem dX4_chooseHeavy_66 : decode cX4_chooseHeavy 66 = .ok (.iload_n 3, 1) := by decide +kernel
theorem dX4_chooseHeavy_67 : decode cX4_chooseHeavy 67 = .ok (.i2l, 1) := by decide +kernel
theorem dX4_chooseHeavy_68 : decode cX4_chooseHeavy 68 = .ok (.lmul, 1) := by decide +kernel
theorem dX4_chooseHeavy_69 : decode cX4_chooseHeavy 69 = .ok (.lcmp, 1) := by decide +kernel
theorem dX4_chooseHeavy_70 : decode cX4_chooseHeavy 70 = .ok (.ifCond .ge 4, 3) := by decide +kernel
theorem dX4_chooseHeavy_73 : decode cX4_chooseHeavy 73 = .ok (.return_, 1) := by decide +kernel
theorem dX4_chooseHeavy_74 : decode cX4_chooseHeavy 74 = .ok (.aload_n 0, 1) := by decide +kernel
theorem dX4_chooseHeavy_75 : decode cX4_chooseHeavy 75 = .ok (.getfield 21, 3) := by decide +kernel
theorem dX4_chooseHeavy_78 : decode cX4_chooseHeavy 78 = .ok (.iload 6, 2) := by decide +kernel
theorem dX4_chooseHeavy_80 : decode cX4_chooseHeavy 80 = .ok (.iconst 1, 1) := by decide +kernel
theorem dX4_chooseHeavy_81 : decode cX4_chooseHeavy 81 = .ok (.bastore, 1) := by decide +kernel
theorem dX4_chooseHeavy_82 : decode cX4_chooseHeavy 82 = .ok (.aload_n 0, 1) := by decide +kernel
theorem dX4_chooseHeavy_83 : decode cX4_chooseHeavy 83 = .ok (.getfield 25, 3) := by decide +kernel
theorem dX4_chooseHeavy_86 : decode cX4_chooseHeavy 86 = .ok (.iload 6, 2) := by decide +kernel
theorem dX4_chooseHeavy_88 : decode cX4_chooseHeavy 88 = .ok (.aload_n 1, 1) := by decide +kernel
theorem dX4_chooseHeavy_89 : decode cX4_chooseHeavy 89 = .ok (.iload 6, 2) := by decide +kernel
theorem dX4_chooseHeavy_91 : decode cX4_chooseHeavy 91 = .ok (.iaload, 1) := by decide +kernel
theorem dX4_chooseHeavy_92 : decode cX4_chooseHeavy 92 = .ok (.iastore, 1) := by decide +kernel
theorem dX4_chooseHeavy_93 : decode cX4_chooseHeavy 93 = .ok (.iinc 5 1, 3) := by decide +kernel
theorem dX4_chooseHeavy_96 : decode cX4_chooseHeavy 96 = .ok (.goto (-61), 3) := by decide +kernel
theorem dX4_chooseHeavy_99 : decode cX4_chooseHeavy 99 = .ok (.return_, 1) := by decide +kernel
theorem dX4_greatestPlain_0 : decode cX4_greatestPlain 0 = .ok (.iconst 0, 1) := by decide +kernel
theorem dX4_greatestPlain_1 : decode cX4_greatestPlain 1 = .ok (.istore_n 2, 1) := by decide +kernel
theorem dX4_greatestPlain_2 : decode cX4_greatestPlain 2 = .ok (.iconst (-1), 1) := by decide +kernel
theorem dX4_greatestPlain_3 : decode cX4_greatestPlain 3 = .ok (.istore_n 3, 1) := by decide +kernel
theorem dX4_greatestPlain_4 : decode cX4_greatestPlain 4 = .ok (.iconst 0, 1) := by decide +kernel
theorem dX4_greatestPlain_5 : decode cX4_greatestPlain 5 = .ok (.istore 4, 2) := by decide +kernel
theorem dX4_greatestPlain_7 : decode cX4_greatestPlain 7 = .ok (.iload 4, 2) := by decide +kernel
theorem dX4_greatestPlain_9 : decode cX4_greatestPlain 9 = .ok (.bipush 40, 2) := by decide +kernel
theorem dX4_greatestPlain_11 : decode cX4_greatestPlain 11 = .ok (.if_icmp .ge 35, 3) := by decide +kernel
theorem dX4_greatestPlain_14 : decode cX4_greatestPlain 14 = .ok (.aload_n 0, 1) := by decide +kernel
theorem dX4_greatestPlain_15 : decode cX4_greatestPlain 15 = .ok (.getfield 21, 3) := by decide +kernel
theorem dX4_greatestPlain_18 : decode cX4_greatestPlain 18 = .ok (.iload 4, 2) := by decide +kernel
theorem dX4_greatestPlain_20 : decode cX4_greatestPlain 20 = .ok (.baload, 1) := by decide +kernel
theorem dX4_greatestPlain_21 : decode cX4_greatestPlain 21 = .ok (.ifCond .ne 19, 3) := by decide +kernel
theorem dX4_greatestPlain_24 : decode cX4_greatestPlain 24 = .ok (.aload_n 1, 1) := by decide +kernel
theorem dX4_greatestPlain_25 : decode cX4_greatestPlain 25 = .ok (.iload 4, 2) := by decide +kernel
theorem dX4_greatestPlain_27 : decode cX4_greatestPlain 27 = .ok (.iaload, 1) := by decide +kernel
theorem dX4_greatestPlain_28 : decode cX4_greatestPlain 28 = .ok (.iload_n 2, 1) := by decide +kernel
theorem dX4_greatestPlain_29 : decode cX4_greatestPlain 29 = .ok (.if_icmp .le 11, 3) := by decide +kernel
theorem dX4_greatestPlain_32 : decode cX4_greatestPlain 32 = .ok (.aload_n 1, 1) := by decide +kernel
theorem dX4_greatestPlain_33 : decode cX4_greatestPlain 33 = .ok (.iload 4, 2) := by decide +kernel
theorem dX4_greatestPlain_35 : decode cX4_greatestPlain 35 = .ok (.iaload, 1) := by decide +kernel
theorem dX4_greatestPlain_36 : decode cX4_greatestPlain 36 = .ok (.istore_n 2, 1) := by decide +kernel
theorem dX4_greatestPlain_37 : decode cX4_greatestPlain 37 = .ok (.iload 4, 2) := by decide +kernel
theorem dX4_greatestPlain_39 : decode cX4_greatestPlain 39 = .ok (.istore_n 3, 1) := by decide +kernel
theorem dX4_greatestPlain_40 : decode cX4_greatestPlain 40 = .ok (.iinc 4 1, 3) := by decide +kernel
theorem dX4_greatestPlain_43 : decode cX4_greatestPlain 43 = .ok (.goto (-36), 3) := by decide +kernel
theorem dX4_greatestPlain_46 : decode cX4_greatestPlain 46 = .ok (.iload_n 3, 1) := by decide +kernel
theorem dX4_greatestPlain_47 : decode cX4_greatestPlain 47 = .ok (.ireturn, 1) := by decide +kernel
set_option maxRecDepth 20000 in
theorem ggX4_begin_X4_firstOf : GoodIn wsX4_begin wsX4_firstOf := goodIn_r _ [11, 3, 12, 13, 14, 15, 16, 17, 18] (by decide +kernel) (by decide +kernel)
set_option maxRecDepth 20000 in
theorem gX4_begin_X4_firstOf : GoodIn wsX4_begin (wsV RX4 39 RX4 yX4_firstOf wsX4_firstOf) := goodIn_app (goodIn_of _ (by decide +kernel)) ggX4_begin_X4_firstOf
theorem dX4_begin_0 : decode cX4_begin 0 = .ok (.aload_n 0, 1) := by decide +kernel
theorem dX4_begin_1 : decode cX4_begin 1 = .ok (.iload_n 2, 1) := by decide +kernel
theorem dX4_begin_2 : decode cX4_begin 2 = .ok (.putfield 28, 3) := by decide +kernel
theorem dX4_begin_5 : decode cX4_begin 5 = .ok (.aload_n 0, 1) := by decide +kernel
theorem dX4_begin_6 : decode cX4_begin 6 = .ok (.iconst 0, 1) := by decide +kernel
theorem dX4_begin_7 : decode cX4_begin 7 = .ok (.putfield 36, 3) := by decide +kernel
theorem dX4_begin_10 : decode cX4_begin 10 = .ok (.iconst 0, 1) := by decide +kernel
theorem dX4_begin_11 : decode cX4_begin 11 = .ok (.istore 4, 2) := by decide +kernel
theorem dX4_begin_13 : decode cX4_begin 13 = .ok (.iload 4, 2) := by decide +kernel
theorem dX4_begin_15 : decode cX4_begin 15 = .ok (.iload_n 2, 1) := by decide +kernel
theorem dX4_begin_16 : decode cX4_begin 16 = .ok (.if_icmp .ge 87, 3) := by decide +kernel
theorem dX4_begin_19 : decode cX4_begin 19 = .ok (.aload_n 0, 1) := by decide +kernel
theorem dX4_begin_20 : decode cX4_begin 20 = .ok (.getfield 9, 3) := by decide +kernel
theorem dX4_begin_23 : decode cX4_begin 23 = .ok (.iload 4, 2) := by decide +kernel
theorem dX4_begin_25 : decode cX4_begin 25 = .ok (.aload_n 1, 1) := by decide +kernel
theorem dX4_begin_26 : decode cX4_begin 26 = .ok (.iload 4, 2) := by decide +kernel
theorem dX4_begin_28 : decode cX4_begin 28 = .ok (.iaload, 1) := by decide +kernel
theorem dX4_begin_29 : decode cX4_begin 29 = .ok (.iastore, 1) := by decide +kernel
theorem dX4_begin_30 : decode cX4_begin 30 = .ok (.aload_n 0, 1) := by decide +kernel
theorem dX4_begin_31 : decode cX4_begin 31 = .ok (.getfield 15, 3) := by decide +kernel
theorem dX4_begin_34 : decode cX4_begin 34 = .ok (.iload 4, 2) := by decide +kernel
theorem dX4_begin_36 : decode cX4_begin 36 = .ok (.iconst 0, 1) := by decide +kernel
theorem dX4_begin_37 : decode cX4_begin 37 = .ok (.iastore, 1) := by decide +kernel
theorem dX4_begin_38 : decode cX4_begin 38 = .ok (.aload_n 0, 1) := by decide +kernel
theorem dX4_begin_39 : decode cX4_begin 39 = .ok (.getfield 18, 3) := by decide +kernel
theorem dX4_begin_42 : decode cX4_begin 42 = .ok (.iload 4, 2) := by decide +kernel
theorem dX4_begin_44 : decode cX4_begin 44 = .ok (.iconst 0, 1) := by decide +kernel
theorem dX4_begin_45 : decode cX4_begin 45 = .ok (.iastore, 1) := by decide +kernel
theorem dX4_begin_46 : decode cX4_begin 46 = .ok (.aload_n 0, 1) := by decide +kernel
theorem dX4_begin_47 : decode cX4_begin 47 = .ok (.iload 4, 2) := by decide +kernel
theorem dX4_begin_49 : decode cX4_begin 49 = .ok (.invokevirtual 39, 3) := by decide +kernel
theorem dX4_begin_52 : decode cX4_begin 52 = .ok (.istore 5, 2) := by decide +kernel
theorem dX4_begin_54 : decode cX4_begin 54 = .ok (.iload 5, 2) := by decide +kernel
theorem dX4_begin_56 : decode cX4_begin 56 = .ok (.aload_n 1, 1) := by decide +kernel
theorem dX4_begin_57 : decode cX4_begin 57 = .ok (.iload 4, 2) := by decide +kernel
theorem dX4_begin_59 : decode cX4_begin 59 = .ok (.iaload, 1) := by decide +kernel
theorem dX4_begin_60 : decode cX4_begin 60 = .ok (.if_icmp .gt 37, 3) := by decide +kernel
theorem dX4_begin_63 : decode cX4_begin 63 = .ok (.aload_n 0, 1) := by decide +kernel
theorem dX4_begin_64 : decode cX4_begin 64 = .ok (.getfield 15, 3) := by decide +kernel
theorem dX4_begin_67 : decode cX4_begin 67 = .ok (.iload 4, 2) := by decide +kernel
theorem dX4_begin_69 : decode cX4_begin 69 = .ok (.dup2, 1) := by decide +kernel
theorem dX4_begin_70 : decode cX4_begin 70 = .ok (.iaload, 1) := by decide +kernel
theorem dX4_begin_71 : decode cX4_begin 71 = .ok (.aload_n 0, 1) := by decide +kernel
theorem dX4_begin_72 : decode cX4_begin 72 = .ok (.getfield 21, 3) := by decide +kernel
theorem dX4_begin_75 : decode cX4_begin 75 = .ok (.iload 5, 2) := by decide +kernel
theorem dX4_begin_77 : decode cX4_begin 77 = .ok (.baload, 1) := by decide +kernel
theorem dX4_begin_78 : decode cX4_begin 78 = .ok (.ifCond .eq 7, 3) := by decide +kernel
theorem dX4_begin_81 : decode cX4_begin 81 = .ok (.iconst 0, 1) := by decide +kernel
theorem dX4_begin_82 : decode cX4_begin 82 = .ok (.goto 7, 3) := by decide +kernel
theorem dX4_begin_85 : decode cX4_begin 85 = .ok (.aload_n 3, 1) := by decide +kernel
theorem dX4_begin_86 : decode cX4_begin 86 = .ok (.iload 5, 2) := by decide +kernel
theorem dX4_begin_88 : decode cX4_begin 88 = .ok (.iaload, 1) := by decide +kernel
theorem dX4_begin_89 : decode cX4_begin 89 = .ok (.iadd, 1) := by decide +kernel
theorem dX4_begin_90 : decode cX4_begin 90 = .ok (.iastore, 1) := by decide +kernel
theorem dX4_begin_91 : decode cX4_begin 91 = .ok (.iinc 5 1, 3) := by decide +kernel
theorem dX4_begin_94 : decode cX4_begin 94 = .ok (.goto (-40), 3) := by decide +kernel
theorem dX4_begin_97 : decode cX4_begin 97 = .ok (.iinc 4 1, 3) := by decide +kernel
theorem dX4_begin_100 : decode cX4_begin 100 = .ok (.goto (-87), 3) := by decide +kernel
theorem dX4_begin_103 : decode cX4_begin 103 = .ok (.return_, 1) := by decide +kernel
theorem dX4_copyOf_0 : decode cX4_copyOf 0 = .ok (.aload_n 0, 1) := by decide +kernel
theorem dX4_copyOf_1 : decode cX4_copyOf 1 = .ok (.aload_n 1, 1) := by decide +kernel
theorem dX4_copyOf_2 : decode cX4_copyOf 2 = .ok (.getfield 28, 3) := by decide +kernel
theorem dX4_copyOf_5 : decode cX4_copyOf 5 = .ok (.putfield 28, 3) := by decide +kernel
theorem dX4_copyOf_8 : decode cX4_copyOf 8 = .ok (.aload_n 0, 1) := by decide +kernel
theorem dX4_copyOf_9 : decode cX4_copyOf 9 = .ok (.aload_n 1, 1) := by decide +kernel
theorem dX4_copyOf_10 : decode cX4_copyOf 10 = .ok (.getfield 36, 3) := by decide +kernel
theorem dX4_copyOf_13 : decode cX4_copyOf 13 = .ok (.putfield 36, 3) := by decide +kernel
theorem dX4_copyOf_16 : decode cX4_copyOf 16 = .ok (.aload_n 1, 1) := by decide +kernel
theorem dX4_copyOf_17 : decode cX4_copyOf 17 = .ok (.getfield 9, 3) := by decide +kernel
theorem dX4_copyOf_20 : decode cX4_copyOf 20 = .ok (.iconst 0, 1) := by decide +kernel
theorem dX4_copyOf_21 : decode cX4_copyOf 21 = .ok (.aload_n 0, 1) := by decide +kernel
theorem dX4_copyOf_22 : decode cX4_copyOf 22 = .ok (.getfield 9, 3) := by decide +kernel
theorem dX4_copyOf_25 : decode cX4_copyOf 25 = .ok (.iconst 0, 1) := by decide +kernel
theorem dX4_copyOf_26 : decode cX4_copyOf 26 = .ok (.bipush 24, 2) := by decide +kernel
theorem dX4_copyOf_28 : decode cX4_copyOf 28 = .ok (.invokestatic 43, 3) := by decide +kernel
theorem dX4_copyOf_31 : decode cX4_copyOf 31 = .ok (.aload_n 1, 1) := by decide +kernel
theorem dX4_copyOf_32 : decode cX4_copyOf 32 = .ok (.getfield 15, 3) := by decide +kernel
theorem dX4_copyOf_35 : decode cX4_copyOf 35 = .ok (.iconst 0, 1) := by decide +kernel
theorem dX4_copyOf_36 : decode cX4_copyOf 36 = .ok (.aload_n 0, 1) := by decide +kernel
theorem dX4_copyOf_37 : decode cX4_copyOf 37 = .ok (.getfield 15, 3) := by decide +kernel
theorem dX4_copyOf_40 : decode cX4_copyOf 40 = .ok (.iconst 0, 1) := by decide +kernel
theorem dX4_copyOf_41 : decode cX4_copyOf 41 = .ok (.bipush 24, 2) := by decide +kernel
theorem dX4_copyOf_43 : decode cX4_copyOf 43 = .ok (.invokestatic 43, 3) := by decide +kernel
theorem dX4_copyOf_46 : decode cX4_copyOf 46 = .ok (.aload_n 1, 1) := by decide +kernel
theorem dX4_copyOf_47 : decode cX4_copyOf 47 = .ok (.getfield 18, 3) := by decide +kernel
theorem dX4_copyOf_50 : decode cX4_copyOf 50 = .ok (.iconst 0, 1) := by decide +kernel
theorem dX4_copyOf_51 : decode cX4_copyOf 51 = .ok (.aload_n 0, 1) := by decide +kernel
theorem dX4_copyOf_52 : decode cX4_copyOf 52 = .ok (.getfield 18, 3) := by decide +kernel
theorem dX4_copyOf_55 : decode cX4_copyOf 55 = .ok (.iconst 0, 1) := by decide +kernel
theorem dX4_copyOf_56 : decode cX4_copyOf 56 = .ok (.bipush 24, 2) := by decide +kernel
theorem dX4_copyOf_58 : decode cX4_copyOf 58 = .ok (.invokestatic 43, 3) := by decide +kernel
theorem dX4_copyOf_61 : decode cX4_copyOf 61 = .ok (.aload_n 1, 1) := by decide +kernel
theorem dX4_copyOf_62 : decode cX4_copyOf 62 = .ok (.getfield 25, 3) := by decide +kernel
theorem dX4_copyOf_65 : decode cX4_copyOf 65 = .ok (.iconst 0, 1) := by decide +kernel
theorem dX4_copyOf_66 : decode cX4_copyOf 66 = .ok (.aload_n 0, 1) := by decide +kernel
theorem dX4_copyOf_67 : decode cX4_copyOf 67 = .ok (.getfield 25, 3) := by decide +kernel
theorem dX4_copyOf_70 : decode cX4_copyOf 70 = .ok (.iconst 0, 1) := by decide +kernel
theorem dX4_copyOf_71 : decode cX4_copyOf 71 = .ok (.bipush 40, 2) := by decide +kernel
theorem dX4_copyOf_73 : decode cX4_copyOf 73 = .ok (.invokestatic 43, 3) := by decide +kernel
theorem dX4_copyOf_76 : decode cX4_copyOf 76 = .ok (.iconst 0, 1) := by decide +kernel
theorem dX4_copyOf_77 : decode cX4_copyOf 77 = .ok (.istore_n 2, 1) := by decide +kernel
theorem dX4_copyOf_78 : decode cX4_copyOf 78 = .ok (.iload_n 2, 1) := by decide +kernel
theorem dX4_copyOf_79 : decode cX4_copyOf 79 = .ok (.bipush 40, 2) := by decide +kernel
theorem dX4_copyOf_81 : decode cX4_copyOf 81 = .ok (.if_icmp .ge 21, 3) := by decide +kernel
theorem dX4_copyOf_84 : decode cX4_copyOf 84 = .ok (.aload_n 0, 1) := by decide +kernel
theorem dX4_copyOf_85 : decode cX4_copyOf 85 = .ok (.getfield 21, 3) := by decide +kernel
theorem dX4_copyOf_88 : decode cX4_copyOf 88 = .ok (.iload_n 2, 1) := by decide +kernel
theorem dX4_copyOf_89 : decode cX4_copyOf 89 = .ok (.aload_n 1, 1) := by decide +kernel
theorem dX4_copyOf_90 : decode cX4_copyOf 90 = .ok (.getfield 21, 3) := by decide +kernel
theorem dX4_copyOf_93 : decode cX4_copyOf 93 = .ok (.iload_n 2, 1) := by decide +kernel
theorem dX4_copyOf_94 : decode cX4_copyOf 94 = .ok (.baload, 1) := by decide +kernel
theorem dX4_copyOf_95 : decode cX4_copyOf 95 = .ok (.bastore, 1) := by decide +kernel
theorem dX4_copyOf_96 : decode cX4_copyOf 96 = .ok (.iinc 2 1, 3) := by decide +kernel
theorem dX4_copyOf_99 : decode cX4_copyOf 99 = .ok (.goto (-21), 3) := by decide +kernel
theorem dX4_copyOf_102 : decode cX4_copyOf 102 = .ok (.return_, 1) := by decide +kernel
set_option maxRecDepth 20000 in
theorem ggX4_shift_X4_isThere : GoodIn wsX4_shift wsX4_isThere := goodIn_r _ [13, 14, 20, 21, 22, 23, 24, 25, 26] (by decide +kernel) (by decide +kernel)
set_option maxRecDepth 20000 in
theorem gX4_shift_X4_isThere : GoodIn wsX4_shift (wsV RX4 49 RX4 yX4_isThere wsX4_isThere) := goodIn_app (goodIn_of _ (by decide +kernel)) ggX4_shift_X4_isThere
set_option maxRecDepth 20000 in
theorem ggX4_shift_X4_spanOf : GoodIn wsX4_shift wsX4_spanOf := goodIn_r _ [18, 14, 19, 20, 21, 22, 23, 24, 25, 26] (by decide +kernel) (by decide +kernel)
set_option maxRecDepth 20000 in
theorem gX4_shift_X4_spanOf : GoodIn wsX4_shift (wsV RX4 58 RX4 yX4_spanOf wsX4_spanOf) := goodIn_app (goodIn_of _ (by decide +kernel)) ggX4_shift_X4_spanOf
theorem dX4_shift_0 : decode cX4_shift 0 = .ok (.aload_n 0, 1) := by decide +kernel
theorem dX4_shift_1 : decode cX4_shift 1 = .ok (.invokevirtual 49, 3) := by decide +kernel
theorem dX4_shift_4 : decode cX4_shift 4 = .ok (.ifCond .ne 4, 3) := by decide +kernel
theorem dX4_shift_7 : decode cX4_shift 7 = .ok (.return_, 1) := by decide +kernel
theorem dX4_shift_8 : decode cX4_shift 8 = .ok (.aload_n 0, 1) := by decide +kernel
theorem dX4_shift_9 : decode cX4_shift 9 = .ok (.dup, 1) := by decide +kernel
theorem dX4_shift_10 : decode cX4_shift 10 = .ok (.getfield 36, 3) := by decide +kernel
theorem dX4_shift_13 : decode cX4_shift 13 = .ok (.iload_n 2, 1) := by decide +kernel
theorem dX4_shift_14 : decode cX4_shift 14 = .ok (.invokestatic 53, 3) := by decide +kernel
theorem dX4_shift_17 : decode cX4_shift 17 = .ok (.iadd, 1) := by decide +kernel
theorem dX4_shift_18 : decode cX4_shift 18 = .ok (.putfield 36, 3) := by decide +kernel
theorem dX4_shift_21 : decode cX4_shift 21 = .ok (.aload_n 0, 1) := by decide +kernel
theorem dX4_shift_22 : decode cX4_shift 22 = .ok (.getfield 21, 3) := by decide +kernel
theorem dX4_shift_25 : decode cX4_shift 25 = .ok (.iload_n 1, 1) := by decide +kernel
theorem dX4_shift_26 : decode cX4_shift 26 = .ok (.baload, 1) := by decide +kernel
theorem dX4_shift_27 : decode cX4_shift 27 = .ok (.ifCond .eq 16, 3) := by decide +kernel
theorem dX4_shift_30 : decode cX4_shift 30 = .ok (.aload_n 0, 1) := by decide +kernel
theorem dX4_shift_31 : decode cX4_shift 31 = .ok (.getfield 25, 3) := by decide +kernel
theorem dX4_shift_34 : decode cX4_shift 34 = .ok (.iload_n 1, 1) := by decide +kernel
theorem dX4_shift_35 : decode cX4_shift 35 = .ok (.dup2, 1) := by decide +kernel
theorem dX4_shift_36 : decode cX4_shift 36 = .ok (.iaload, 1) := by decide +kernel
theorem dX4_shift_37 : decode cX4_shift 37 = .ok (.iload_n 2, 1) := by decide +kernel
theorem dX4_shift_38 : decode cX4_shift 38 = .ok (.iadd, 1) := by decide +kernel
theorem dX4_shift_39 : decode cX4_shift 39 = .ok (.iastore, 1) := by decide +kernel
theorem dX4_shift_40 : decode cX4_shift 40 = .ok (.goto 17, 3) := by decide +kernel
theorem dX4_shift_43 : decode cX4_shift 43 = .ok (.aload_n 0, 1) := by decide +kernel
theorem dX4_shift_44 : decode cX4_shift 44 = .ok (.getfield 15, 3) := by decide +kernel
theorem dX4_shift_47 : decode cX4_shift 47 = .ok (.aload_n 0, 1) := by decide +kernel
theorem dX4_shift_48 : decode cX4_shift 48 = .ok (.iload_n 1, 1) := by decide +kernel
theorem dX4_shift_49 : decode cX4_shift 49 = .ok (.invokevirtual 58, 3) := by decide +kernel
theorem dX4_shift_52 : decode cX4_shift 52 = .ok (.dup2, 1) := by decide +kernel
theorem dX4_shift_53 : decode cX4_shift 53 = .ok (.iaload, 1) := by decide +kernel
theorem dX4_shift_54 : decode cX4_shift 54 = .ok (.iload_n 2, 1) := by decide +kernel
theorem dX4_shift_55 : decode cX4_shift 55 = .ok (.iadd, 1) := by decide +kernel
theorem dX4_shift_56 : decode cX4_shift 56 = .ok (.iastore, 1) := by decide +kernel
theorem dX4_shift_57 : decode cX4_shift 57 = .ok (.return_, 1) := by decide +kernel
theorem dX4_spanOf_0 : decode cX4_spanOf 0 = .ok (.iconst 0, 1) := by decide +kernel
theorem dX4_spanOf_1 : decode cX4_spanOf 1 = .ok (.istore_n 2, 1) := by decide +kernel
theorem dX4_spanOf_2 : decode cX4_spanOf 2 = .ok (.iload_n 2, 1) := by decide +kernel
theorem dX4_spanOf_3 : decode cX4_spanOf 3 = .ok (.aload_n 0, 1) := by decide +kernel
theorem dX4_spanOf_4 : decode cX4_spanOf 4 = .ok (.getfield 28, 3) := by decide +kernel
theorem dX4_spanOf_7 : decode cX4_spanOf 7 = .ok (.iconst 1, 1) := by decide +kernel
theorem dX4_spanOf_8 : decode cX4_spanOf 8 = .ok (.isub, 1) := by decide +kernel
theorem dX4_spanOf_9 : decode cX4_spanOf 9 = .ok (.if_icmp .ge 19, 3) := by decide +kernel
theorem dX4_spanOf_12 : decode cX4_spanOf 12 = .ok (.aload_n 0, 1) := by decide +kernel
theorem dX4_spanOf_13 : decode cX4_spanOf 13 = .ok (.getfield 9, 3) := by decide +kernel
theorem dX4_spanOf_16 : decode cX4_spanOf 16 = .ok (.iload_n 2, 1) := by decide +kernel
theorem dX4_spanOf_17 : decode cX4_spanOf 17 = .ok (.iaload, 1) := by decide +kernel
theorem dX4_spanOf_18 : decode cX4_spanOf 18 = .ok (.iload_n 1, 1) := by decide +kernel
theorem dX4_spanOf_19 : decode cX4_spanOf 19 = .ok (.if_icmp .ge 9, 3) := by decide +kernel
theorem dX4_spanOf_22 : decode cX4_spanOf 22 = .ok (.iinc 2 1, 3) := by decide +kernel
theorem dX4_spanOf_25 : decode cX4_spanOf 25 = .ok (.goto (-23), 3) := by decide +kernel
theorem dX4_spanOf_28 : decode cX4_spanOf 28 = .ok (.iload_n 2, 1) := by decide +kernel
theorem dX4_spanOf_29 : decode cX4_spanOf 29 = .ok (.ireturn, 1) := by decide +kernel
set_option maxRecDepth 20000 in
theorem ggX4_endsAt_X4_spanOf : GoodIn wsX4_endsAt wsX4_spanOf := goodIn_r _ [6, 7, 1, 8, 9, 10, 11, 12, 13, 14] (by decide +kernel) (by decide +kernel)
set_option maxRecDepth 20000 in
theorem gX4_endsAt_X4_spanOf : GoodIn wsX4_endsAt (wsV RX4 58 RX4 yX4_spanOf wsX4_spanOf) := goodIn_app (goodIn_of _ (by decide +kernel)) ggX4_endsAt_X4_spanOf
theorem dX4_endsAt_0 : decode cX4_endsAt 0 = .ok (.aload_n 0, 1) := by decide +kernel
theorem dX4_endsAt_1 : decode cX4_endsAt 1 = .ok (.getfield 9, 3) := by decide +kernel
theorem dX4_endsAt_4 : decode cX4_endsAt 4 = .ok (.aload_n 0, 1) := by decide +kernel
theorem dX4_endsAt_5 : decode cX4_endsAt 5 = .ok (.iload_n 1, 1) := by decide +kernel
theorem dX4_endsAt_6 : decode cX4_endsAt 6 = .ok (.invokevirtual 58, 3) := by decide +kernel
theorem dX4_endsAt_9 : decode cX4_endsAt 9 = .ok (.iaload, 1) := by decide +kernel
theorem dX4_endsAt_10 : decode cX4_endsAt 10 = .ok (.iload_n 1, 1) := by decide +kernel
theorem dX4_endsAt_11 : decode cX4_endsAt 11 = .ok (.if_icmp .ne 7, 3) := by decide +kernel
theorem dX4_endsAt_14 : decode cX4_endsAt 14 = .ok (.iconst 1, 1) := by decide +kernel
theorem dX4_endsAt_15 : decode cX4_endsAt 15 = .ok (.goto 4, 3) := by decide +kernel
theorem dX4_endsAt_18 : decode cX4_endsAt 18 = .ok (.iconst 0, 1) := by decide +kernel
theorem dX4_endsAt_19 : decode cX4_endsAt 19 = .ok (.ireturn, 1) := by decide +kernel
theorem dX4_firstOf_0 : decode cX4_firstOf 0 = .ok (.iload_n 1, 1) := by decide +kernel
theorem dX4_firstOf_1 : decode cX4_firstOf 1 = .ok (.ifCond .le 16, 3) := by decide +kernel
theorem dX4_firstOf_4 : decode cX4_firstOf 4 = .ok (.aload_n 0, 1) := by decide +kernel
theorem dX4_firstOf_5 : decode cX4_firstOf 5 = .ok (.getfield 9, 3) := by decide +kernel
theorem dX4_firstOf_8 : decode cX4_firstOf 8 = .ok (.iload_n 1, 1) := by decide +kernel
theorem dX4_firstOf_9 : decode cX4_firstOf 9 = .ok (.iconst 1, 1) := by decide +kernel
theorem dX4_firstOf_10 : decode cX4_firstOf 10 = .ok (.isub, 1) := by decide +kernel
theorem dX4_firstOf_11 : decode cX4_firstOf 11 = .ok (.iaload, 1) := by decide +kernel
theorem dX4_firstOf_12 : decode cX4_firstOf 12 = .ok (.iconst 1, 1) := by decide +kernel
theorem dX4_firstOf_13 : decode cX4_firstOf 13 = .ok (.iadd, 1) := by decide +kernel
theorem dX4_firstOf_14 : decode cX4_firstOf 14 = .ok (.goto 4, 3) := by decide +kernel
theorem dX4_firstOf_17 : decode cX4_firstOf 17 = .ok (.iconst 0, 1) := by decide +kernel
theorem dX4_firstOf_18 : decode cX4_firstOf 18 = .ok (.ireturn, 1) := by decide +kernel
set_option maxRecDepth 20000 in
theorem ggX4_longOf_X4_firstOf : GoodIn wsX4_longOf wsX4_firstOf := goodIn_r _ [6, 1, 16, 17, 18, 19, 20, 21, 22] (by decide +kernel) (by decide +kernel)
set_option maxRecDepth 20000 in
theorem gX4_longOf_X4_firstOf : GoodIn wsX4_longOf (wsV RX4 39 RX4 yX4_firstOf wsX4_firstOf) := goodIn_app (goodIn_of _ (by decide +kernel)) ggX4_longOf_X4_firstOf
set_option maxRecDepth 20000 in
theorem ggX4_longOf_X4_plainBetween : GoodIn wsX4_longOf wsX4_plainBetween := goodIn_r _ [10, 11, 12, 13, 14, 15, 16, 17, 18, 19, 20, 21, 22] (by decide +kernel) (by decide +kernel)
set_option maxRecDepth 20000 in
theorem gX4_longOf_X4_plainBetween : GoodIn wsX4_longOf (wsV RX4 61 RX4 yX4_plainBetween wsX4_plainBetween) := goodIn_app (goodIn_of _ (by decide +kernel)) ggX4_longOf_X4_plainBetween
theorem dX4_longOf_0 : decode cX4_longOf 0 = .ok (.aload_n 0, 1) := by decide +kernel
theorem dX4_longOf_1 : decode cX4_longOf 1 = .ok (.aload_n 0, 1) := by decide +kernel
theorem dX4_longOf_2 : decode cX4_longOf 2 = .ok (.iload_n 1, 1) := by decide +kernel
theorem dX4_longOf_3 : decode cX4_longOf 3 = .ok (.invokevirtual 39, 3) := by decide +kernel
theorem dX4_longOf_6 : decode cX4_longOf 6 = .ok (.aload_n 0, 1) := by decide +kernel
theorem dX4_longOf_7 : decode cX4_longOf 7 = .ok (.getfield 9, 3) := by decide +kernel
theorem dX4_longOf_10 : decode cX4_longOf 10 = .ok (.iload_n 1, 1) := by decide +kernel
theorem dX4_longOf_11 : decode cX4_longOf 11 = .ok (.iaload, 1) := by decide +kernel
theorem dX4_longOf_12 : decode cX4_longOf 12 = .ok (.invokevirtual 61, 3) := by decide +kernel
theorem dX4_longOf_15 : decode cX4_longOf 15 = .ok (.ireturn, 1) := by decide +kernel
theorem dX4_plainBetween_0 : decode cX4_plainBetween 0 = .ok (.iconst 0, 1) := by decide +kernel
theorem dX4_plainBetween_1 : decode cX4_plainBetween 1 = .ok (.istore_n 3, 1) := by decide +kernel
theorem dX4_plainBetween_2 : decode cX4_plainBetween 2 = .ok (.iload_n 1, 1) := by decide +kernel
theorem dX4_plainBetween_3 : decode cX4_plainBetween 3 = .ok (.iconst 0, 1) := by decide +kernel
theorem dX4_plainBetween_4 : decode cX4_plainBetween 4 = .ok (.invokestatic 65, 3) := by decide +kernel
theorem dX4_plainBetween_7 : decode cX4_plainBetween 7 = .ok (.istore 4, 2) := by decide +kernel
theorem dX4_plainBetween_9 : decode cX4_plainBetween 9 = .ok (.iload 4, 2) := by decide +kernel
theorem dX4_plainBetween_11 : decode cX4_plainBetween 11 = .ok (.iload_n 2, 1) := by decide +kernel
theorem dX4_plainBetween_12 : decode cX4_plainBetween 12 = .ok (.if_icmp .gt 29, 3) := by decide +kernel
theorem dX4_plainBetween_15 : decode cX4_plainBetween 15 = .ok (.iload 4, 2) := by decide +kernel
theorem dX4_plainBetween_17 : decode cX4_plainBetween 17 = .ok (.bipush 40, 2) := by decide +kernel
theorem dX4_plainBetween_19 : decode cX4_plainBetween 19 = .ok (.if_icmp .ge 22, 3) := by decide +kernel
theorem dX4_plainBetween_22 : decode cX4_plainBetween 22 = .ok (.aload_n 0, 1) := by decide +kernel
theorem dX4_plainBetween_23 : decode cX4_plainBetween 23 = .ok (.getfield 21, 3) := by decide +kernel
theorem dX4_plainBetween_26 : decode cX4_plainBetween 26 = .ok (.iload 4, 2) := by decide +kernel
theorem dX4_plainBetween_28 : decode cX4_plainBetween 28 = .ok (.baload, 1) := by decide +kernel
theorem dX4_plainBetween_29 : decode cX4_plainBetween 29 = .ok (.ifCond .ne 6, 3) := by decide +kernel
theorem dX4_plainBetween_32 : decode cX4_plainBetween 32 = .ok (.iinc 3 1, 3) := by decide +kernel
theorem dX4_plainBetween_35 : decode cX4_plainBetween 35 = .ok (.iinc 4 1, 3) := by decide +kernel
theorem dX4_plainBetween_38 : decode cX4_plainBetween 38 = .ok (.goto (-29), 3) := by decide +kernel
theorem dX4_plainBetween_41 : decode cX4_plainBetween 41 = .ok (.iload_n 3, 1) := by decide +kernel
theorem dX4_plainBetween_42 : decode cX4_plainBetween 42 = .ok (.ireturn, 1) := by decide +kernel
set_option maxRecDepth 20000 in
theorem ggX4_heavyMany_X4_plainBetween : GoodIn wsX4_heavyMany wsX4_plainBetween := goodIn_r _ [5, 6, 7, 8, 9, 10, 11, 12, 13, 14, 15, 16, 17] (by decide +kernel) (by decide +kernel)
set_option maxRecDepth 20000 in
theorem gX4_heavyMany_X4_plainBetween : GoodIn wsX4_heavyMany (wsV RX4 61 RX4 yX4_plainBetween wsX4_plainBetween) := goodIn_app (goodIn_of _ (by decide +kernel)) ggX4_heavyMany_X4_plainBetween
theorem dX4_heavyMany_0 : decode cX4_heavyMany 0 = .ok (.bipush 40, 2) := by decide +kernel
theorem dX4_heavyMany_2 : decode cX4_heavyMany 2 = .ok (.aload_n 0, 1) := by decide +kernel
theorem dX4_heavyMany_3 : decode cX4_heavyMany 3 = .ok (.iconst 0, 1) := by decide +kernel
theorem dX4_heavyMany_4 : decode cX4_heavyMany 4 = .ok (.bipush 39, 2) := by decide +kernel
theorem dX4_heavyMany_6 : decode cX4_heavyMany 6 = .ok (.invokevirtual 61, 3) := by decide +kernel
theorem dX4_heavyMany_9 : decode cX4_heavyMany 9 = .ok (.isub, 1) := by decide +kernel
theorem dX4_heavyMany_10 : decode cX4_heavyMany 10 = .ok (.ireturn, 1) := by decide +kernel
theorem dX4_allCounts_0 : decode cX4_allCounts 0 = .ok (.iconst 0, 1) := by decide +kernel
theorem dX4_allCounts_1 : decode cX4_allCounts 1 = .ok (.istore_n 1, 1) := by decide +kernel
theorem dX4_allCounts_2 : decode cX4_allCounts 2 = .ok (.iconst 0, 1) := by decide +kernel
theorem dX4_allCounts_3 : decode cX4_allCounts 3 = .ok (.istore_n 2, 1) := by decide +kernel
theorem dX4_allCounts_4 : decode cX4_allCounts 4 = .ok (.iload_n 2, 1) := by decide +kernel
theorem dX4_allCounts_5 : decode cX4_allCounts 5 = .ok (.aload_n 0, 1) := by decide +kernel
theorem dX4_allCounts_6 : decode cX4_allCounts 6 = .ok (.getfield 28, 3) := by decide +kernel
theorem dX4_allCounts_9 : decode cX4_allCounts 9 = .ok (.if_icmp .ge 18, 3) := by decide +kernel
theorem dX4_allCounts_12 : decode cX4_allCounts 12 = .ok (.iload_n 1, 1) := by decide +kernel
theorem dX4_allCounts_13 : decode cX4_allCounts 13 = .ok (.aload_n 0, 1) := by decide +kernel
theorem dX4_allCounts_14 : decode cX4_allCounts 14 = .ok (.getfield 15, 3) := by decide +kernel
theorem dX4_allCounts_17 : decode cX4_allCounts 17 = .ok (.iload_n 2, 1) := by decide +kernel
theorem dX4_allCounts_18 : decode cX4_allCounts 18 = .ok (.iaload, 1) := by decide +kernel
theorem dX4_allCounts_19 : decode cX4_allCounts 19 = .ok (.iadd, 1) := by decide +kernel
theorem dX4_allCounts_20 : decode cX4_allCounts 20 = .ok (.istore_n 1, 1) := by decide +kernel
theorem dX4_allCounts_21 : decode cX4_allCounts 21 = .ok (.iinc 2 1, 3) := by decide +kernel
theorem dX4_allCounts_24 : decode cX4_allCounts 24 = .ok (.goto (-20), 3) := by decide +kernel
theorem dX4_allCounts_27 : decode cX4_allCounts 27 = .ok (.iload_n 1, 1) := by decide +kernel
theorem dX4_allCounts_28 : decode cX4_allCounts 28 = .ok (.ireturn, 1) := by decide +kernel
theorem dX4_allDoubts_0 : decode cX4_allDoubts 0 = .ok (.iconst 0, 1) := by decide +kernel
theorem dX4_allDoubts_1 : decode cX4_allDoubts 1 = .ok (.istore_n 1, 1) := by decide +kernel
theorem dX4_allDoubts_2 : decode cX4_allDoubts 2 = .ok (.iconst 0, 1) := by decide +kernel
theorem dX4_allDoubts_3 : decode cX4_allDoubts 3 = .ok (.istore_n 2, 1) := by decide +kernel
theorem dX4_allDoubts_4 : decode cX4_allDoubts 4 = .ok (.iload_n 2, 1) := by decide +kernel
theorem dX4_allDoubts_5 : decode cX4_allDoubts 5 = .ok (.aload_n 0, 1) := by decide +kernel
theorem dX4_allDoubts_6 : decode cX4_allDoubts 6 = .ok (.getfield 28, 3) := by decide +kernel
theorem dX4_allDoubts_9 : decode cX4_allDoubts 9 = .ok (.if_icmp .ge 18, 3) := by decide +kernel
theorem dX4_allDoubts_12 : decode cX4_allDoubts 12 = .ok (.iload_n 1, 1) := by decide +kernel
theorem dX4_allDoubts_13 : decode cX4_allDoubts 13 = .ok (.aload_n 0, 1) := by decide +kernel
theorem dX4_allDoubts_14 : decode cX4_allDoubts 14 = .ok (.getfield 18, 3) := by decide +kernel
theorem dX4_allDoubts_17 : decode cX4_allDoubts 17 = .ok (.iload_n 2, 1) := by decide +kernel
theorem dX4_allDoubts_18 : decode cX4_allDoubts 18 = .ok (.iaload, 1) := by decide +kernel
theorem dX4_allDoubts_19 : decode cX4_allDoubts 19 = .ok (.iadd, 1) := by decide +kernel
theorem dX4_allDoubts_20 : decode cX4_allDoubts 20 = .ok (.istore_n 1, 1) := by decide +kernel
theorem dX4_allDoubts_21 : decode cX4_allDoubts 21 = .ok (.iinc 2 1, 3) := by decide +kernel
theorem dX4_allDoubts_24 : decode cX4_allDoubts 24 = .ok (.goto (-20), 3) := by decide +kernel
theorem dX4_allDoubts_27 : decode cX4_allDoubts 27 = .ok (.iload_n 1, 1) := by decide +kernel
theorem dX4_allDoubts_28 : decode cX4_allDoubts 28 = .ok (.ireturn, 1) := by decide +kernel
set_option maxRecDepth 20000 in
theorem ggX4_weight_X4_allCounts : GoodIn wsX4_weight wsX4_allCounts := goodIn_r _ [5, 6, 7, 23, 24, 25, 26, 27, 28, 29] (by decide +kernel) (by decide +kernel)
set_option maxRecDepth 20000 in
theorem gX4_weight_X4_allCounts : GoodIn wsX4_weight (wsV RX4 68 RX4 yX4_allCounts wsX4_allCounts) := goodIn_app (goodIn_of _ (by decide +kernel)) ggX4_weight_X4_allCounts
set_option maxRecDepth 20000 in
theorem ggX4_weight_X4_allDoubts : GoodIn wsX4_weight wsX4_allDoubts := goodIn_r _ [11, 6, 12, 23, 24, 25, 26, 27, 28, 29] (by decide +kernel) (by decide +kernel)
set_option maxRecDepth 20000 in
theorem gX4_weight_X4_allDoubts : GoodIn wsX4_weight (wsV RX4 72 RX4 yX4_allDoubts wsX4_allDoubts) := goodIn_app (goodIn_of _ (by decide +kernel)) ggX4_weight_X4_allDoubts
set_option maxRecDepth 20000 in
theorem ggX4_weight_X4_heavyBetween : GoodIn wsX4_weight wsX4_heavyBetween := goodIn_r _ [16, 17, 18, 19, 20, 21, 22, 23, 24, 25, 26, 27, 28, 29] (by decide +kernel) (by decide +kernel)
set_option maxRecDepth 20000 in
theorem gX4_weight_X4_heavyBetween : GoodIn wsX4_weight (wsV RX4 75 RX4 yX4_heavyBetween wsX4_heavyBetween) := goodIn_app (goodIn_of _ (by decide +kernel)) ggX4_weight_X4_heavyBetween
theorem dX4_weight_0 : decode cX4_weight 0 = .ok (.aload_n 0, 1) := by decide +kernel
theorem dX4_weight_1 : decode cX4_weight 1 = .ok (.invokevirtual 68, 3) := by decide +kernel
theorem dX4_weight_4 : decode cX4_weight 4 = .ok (.aload_n 0, 1) := by decide +kernel
theorem dX4_weight_5 : decode cX4_weight 5 = .ok (.invokevirtual 72, 3) := by decide +kernel
theorem dX4_weight_8 : decode cX4_weight 8 = .ok (.iadd, 1) := by decide +kernel
theorem dX4_weight_9 : decode cX4_weight 9 = .ok (.aload_n 0, 1) := by decide +kernel
theorem dX4_weight_10 : decode cX4_weight 10 = .ok (.iconst 0, 1) := by decide +kernel
theorem dX4_weight_11 : decode cX4_weight 11 = .ok (.bipush 39, 2) := by decide +kernel
theorem dX4_weight_13 : decode cX4_weight 13 = .ok (.invokevirtual 75, 3) := by decide +kernel
theorem dX4_weight_16 : decode cX4_weight 16 = .ok (.iadd, 1) := by decide +kernel
theorem dX4_weight_17 : decode cX4_weight 17 = .ok (.ireturn, 1) := by decide +kernel
theorem dX4_heavyBetween_0 : decode cX4_heavyBetween 0 = .ok (.iconst 0, 1) := by decide +kernel
theorem dX4_heavyBetween_1 : decode cX4_heavyBetween 1 = .ok (.istore_n 3, 1) := by decide +kernel
theorem dX4_heavyBetween_2 : decode cX4_heavyBetween 2 = .ok (.iload_n 1, 1) := by decide +kernel
theorem dX4_heavyBetween_3 : decode cX4_heavyBetween 3 = .ok (.iconst 0, 1) := by decide +kernel
theorem dX4_heavyBetween_4 : decode cX4_heavyBetween 4 = .ok (.invokestatic 65, 3) := by decide +kernel
theorem dX4_heavyBetween_7 : decode cX4_heavyBetween 7 = .ok (.istore 4, 2) := by decide +kernel
theorem dX4_heavyBetween_9 : decode cX4_heavyBetween 9 = .ok (.iload 4, 2) := by decide +kernel
theorem dX4_heavyBetween_11 : decode cX4_heavyBetween 11 = .ok (.iload_n 2, 1) := by decide +kernel
theorem dX4_heavyBetween_12 : decode cX4_heavyBetween 12 = .ok (.if_icmp .gt 40, 3) := by decide +kernel
theorem dX4_heavyBetween_15 : decode cX4_heavyBetween 15 = .ok (.iload 4, 2) := by decide +kernel
theorem dX4_heavyBetween_17 : decode cX4_heavyBetween 17 = .ok (.bipush 40, 2) := by decide +kernel
theorem dX4_heavyBetween_19 : decode cX4_heavyBetween 19 = .ok (.if_icmp .ge 33, 3) := by decide +kernel
theorem dX4_heavyBetween_22 : decode cX4_heavyBetween 22 = .ok (.iload_n 3, 1) := by decide +kernel
theorem dX4_heavyBetween_23 : decode cX4_heavyBetween 23 = .ok (.aload_n 0, 1) := by decide +kernel
theorem dX4_heavyBetween_24 : decode cX4_heavyBetween 24 = .ok (.getfield 21, 3) := by decide +kernel
theorem dX4_heavyBetween_27 : decode cX4_heavyBetween 27 = .ok (.iload 4, 2) := by decide +kernel
theorem dX4_heavyBetween_29 : decode cX4_heavyBetween 29 = .ok (.baload, 1) := by decide +kernel
theorem dX4_heavyBetween_30 : decode cX4_heavyBetween 30 = .ok (.ifCond .eq 13, 3) := by decide +kernel
theorem dX4_heavyBetween_33 : decode cX4_heavyBetween 33 = .ok (.aload_n 0, 1) := by decide +kernel
theorem dX4_heavyBetween_34 : decode cX4_heavyBetween 34 = .ok (.getfield 25, 3) := by decide +kernel
theorem dX4_heavyBetween_37 : decode cX4_heavyBetween 37 = .ok (.iload 4, 2) := by decide +kernel
theorem dX4_heavyBetween_39 : decode cX4_heavyBetween 39 = .ok (.iaload, 1) := by decide +kernel
theorem dX4_heavyBetween_40 : decode cX4_heavyBetween 40 = .ok (.goto 4, 3) := by decide +kernel
theorem dX4_heavyBetween_43 : decode cX4_heavyBetween 43 = .ok (.iconst 0, 1) := by decide +kernel
theorem dX4_heavyBetween_44 : decode cX4_heavyBetween 44 = .ok (.iadd, 1) := by decide +kernel
theorem dX4_heavyBetween_45 : decode cX4_heavyBetween 45 = .ok (.istore_n 3, 1) := by decide +kernel
theorem dX4_heavyBetween_46 : decode cX4_heavyBetween 46 = .ok (.iinc 4 1, 3) := by decide +kernel
theorem dX4_heavyBetween_49 : decode cX4_heavyBetween 49 = .ok (.goto (-40), 3) := by decide +kernel
theorem dX4_heavyBetween_52 : decode cX4_heavyBetween 52 = .ok (.iload_n 3, 1) := by decide +kernel
theorem dX4_heavyBetween_53 : decode cX4_heavyBetween 53 = .ok (.ireturn, 1) := by decide +kernel
set_option maxRecDepth 20000 in
theorem ggX4_cut_X4_firstOf : GoodIn wsX4_cut wsX4_firstOf := goodIn_r _ [9, 2, 45, 46, 47, 48, 49, 50, 51] (by decide +kernel) (by decide +kernel)
set_option maxRecDepth 20000 in
theorem gX4_cut_X4_firstOf : GoodIn wsX4_cut (wsV RX4 39 RX4 yX4_firstOf wsX4_firstOf) := goodIn_app (goodIn_of _ (by decide +kernel)) ggX4_cut_X4_firstOf
set_option maxRecDepth 20000 in
theorem ggX4_cut_X4_plainBetween : GoodIn wsX4_cut wsX4_plainBetween := goodIn_r _ [13, 14, 15, 16, 17, 18, 45, 46, 47, 48, 49, 50, 51] (by decide +kernel) (by decide +kernel)
set_option maxRecDepth 20000 in
theorem gX4_cut_X4_plainBetween : GoodIn wsX4_cut (wsV RX4 61 RX4 yX4_plainBetween wsX4_plainBetween) := goodIn_app (goodIn_of _ (by decide +kernel)) ggX4_cut_X4_plainBetween
set_option maxRecDepth 20000 in
theorem ggX4_cut_X4_doublePlace : GoodIn wsX4_cut wsX4_doublePlace := goodIn_r _ [22, 1, 2, 23, 24, 25, 26, 3, 4, 45, 46, 47, 48, 49, 50, 51] (by decide +kernel) (by decide +kernel)
set_option maxRecDepth 20000 in
theorem gX4_cut_X4_doublePlace : GoodIn wsX4_cut (wsV RX4 78 RX4 yX4_doublePlace wsX4_doublePlace) := goodIn_app (goodIn_of _ (by decide +kernel)) ggX4_cut_X4_doublePlace
set_option maxRecDepth 20000 in
theorem ggX4_cut_X4_setPiece : GoodIn wsX4_cut wsX4_setPiece := goodIn_r _ [30, 3, 4, 45, 46, 47, 48, 49, 50, 51] (by decide +kernel) (by decide +kernel)
set_option maxRecDepth 20000 in
theorem gX4_cut_X4_setPiece : GoodIn wsX4_cut (wsV RX4 82 RX4 yX4_setPiece wsX4_setPiece) := goodIn_app (goodIn_of _ (by decide +kernel)) ggX4_cut_X4_setPiece
set_option maxRecDepth 20000 in
theorem ggX4_cut_J9_floorDiv_f86c9 : GoodIn wsX4_cut wsJ9_floorDiv_f86c9 := goodIn_r _ [34] (by decide +kernel) (by decide +kernel)
set_option maxRecDepth 20000 in
theorem gX4_cut_J9_floorDiv_f86c9 : GoodIn wsX4_cut (va_wsS RX4 86 yJ9_floorDiv_f86c9 wsJ9_floorDiv_f86c9) := goodIn_app (goodIn_of _ (by decide +kernel)) ggX4_cut_J9_floorDiv_f86c9
set_option maxRecDepth 20000 in
theorem ggX4_cut_X4_pieceDoubt : GoodIn wsX4_cut wsX4_pieceDoubt := goodIn_r _ [37, 14, 15, 16, 17, 38, 39, 8, 40, 41, 42, 43, 44] (by decide +kernel) (by decide +kernel)
set_option maxRecDepth 20000 in
theorem gX4_cut_X4_pieceDoubt : GoodIn wsX4_cut (va_wsS RX4 90 yX4_pieceDoubt wsX4_pieceDoubt) := goodIn_app (goodIn_of _ (by decide +kernel)) ggX4_cut_X4_pieceDoubt
theorem dX4_cut_0 : decode cX4_cut 0 = .ok (.iload_n 1, 1) := by decide +kernel
theorem dX4_cut_1 : decode cX4_cut 1 = .ok (.ifCond .lt 20, 3) := by decide +kernel
theorem dX4_cut_4 : decode cX4_cut 4 = .ok (.iload_n 1, 1) := by decide +kernel
theorem dX4_cut_5 : decode cX4_cut 5 = .ok (.aload_n 0, 1) := by decide +kernel
theorem dX4_cut_6 : decode cX4_cut 6 = .ok (.getfield 28, 3) := by decide +kernel
theorem dX4_cut_9 : decode cX4_cut 9 = .ok (.if_icmp .ge 12, 3) := by decide +kernel
theorem dX4_cut_12 : decode cX4_cut 12 = .ok (.aload_n 0, 1) := by decide +kernel
theorem dX4_cut_13 : decode cX4_cut 13 = .ok (.getfield 28, 3) := by decide +kernel
theorem dX4_cut_16 : decode cX4_cut 16 = .ok (.bipush 24, 2) := by decide +kernel
theorem dX4_cut_18 : decode cX4_cut 18 = .ok (.if_icmp .lt 4, 3) := by decide +kernel
theorem dX4_cut_21 : decode cX4_cut 21 = .ok (.return_, 1) := by decide +kernel
theorem dX4_cut_22 : decode cX4_cut 22 = .ok (.aload_n 0, 1) := by decide +kernel
theorem dX4_cut_23 : decode cX4_cut 23 = .ok (.aload_n 0, 1) := by decide +kernel
theorem dX4_cut_24 : decode cX4_cut 24 = .ok (.iload_n 1, 1) := by decide +kernel
theorem dX4_cut_25 : decode cX4_cut 25 = .ok (.invokevirtual 39, 3) := by decide +kernel
theorem dX4_cut_28 : decode cX4_cut 28 = .ok (.iload_n 2, 1) := by decide +kernel
theorem dX4_cut_29 : decode cX4_cut 29 = .ok (.invokevirtual 61, 3) := by decide +kernel
theorem dX4_cut_32 : decode cX4_cut 32 = .ok (.istore_n 3, 1) := by decide +kernel
theorem dX4_cut_33 : decode cX4_cut 33 = .ok (.aload_n 0, 1) := by decide +kernel
theorem dX4_cut_34 : decode cX4_cut 34 = .ok (.iload_n 2, 1) := by decide +kernel
theorem dX4_cut_35 : decode cX4_cut 35 = .ok (.iconst 1, 1) := by decide +kernel
theorem dX4_cut_36 : decode cX4_cut 36 = .ok (.iadd, 1) := by decide +kernel
theorem dX4_cut_37 : decode cX4_cut 37 = .ok (.aload_n 0, 1) := by decide +kernel
theorem dX4_cut_38 : decode cX4_cut 38 = .ok (.getfield 9, 3) := by decide +kernel
theorem dX4_cut_41 : decode cX4_cut 41 = .ok (.iload_n 1, 1) := by decide +kernel
theorem dX4_cut_42 : decode cX4_cut 42 = .ok (.iaload, 1) := by decide +kernel
theorem dX4_cut_43 : decode cX4_cut 43 = .ok (.invokevirtual 61, 3) := by decide +kernel
theorem dX4_cut_46 : decode cX4_cut 46 = .ok (.istore 4, 2) := by decide +kernel
theorem dX4_cut_48 : decode cX4_cut 48 = .ok (.aload_n 0, 1) := by decide +kernel
theorem dX4_cut_49 : decode cX4_cut 49 = .ok (.getfield 15, 3) := by decide +kernel
theorem dX4_cut_52 : decode cX4_cut 52 = .ok (.iload_n 1, 1) := by decide +kernel
theorem dX4_cut_53 : decode cX4_cut 53 = .ok (.iaload, 1) := by decide +kernel
theorem dX4_cut_54 : decode cX4_cut 54 = .ok (.istore 5, 2) := by decide +kernel
theorem dX4_cut_56 : decode cX4_cut 56 = .ok (.aload_n 0, 1) := by decide +kernel
theorem dX4_cut_57 : decode cX4_cut 57 = .ok (.getfield 18, 3) := by decide +kernel
theorem dX4_cut_60 : decode cX4_cut 60 = .ok (.iload_n 1, 1) := by decide +kernel
theorem dX4_cut_61 : decode cX4_cut 61 = .ok (.iaload, 1) := by decide +kernel
theorem dX4_cut_62 : decode cX4_cut 62 = .ok (.istore 6, 2) := by decide +kernel
theorem dX4_cut_64 : decode cX4_cut 64 = .ok (.aload_n 0, 1) := by decide +kernel
theorem dX4_cut_65 : decode cX4_cut 65 = .ok (.iload_n 1, 1) := by decide +kernel
theorem dX4_cut_66 : decode cX4_cut 66 = .ok (.invokevirtual 78, 3) := by decide +kernel
theorem dX4_cut_69 : decode cX4_cut 69 = .ok (.aload_n 0, 1) := by decide +kernel
theorem dX4_cut_70 : decode cX4_cut 70 = .ok (.getfield 9, 3) := by decide +kernel
theorem dX4_cut_73 : decode cX4_cut 73 = .ok (.iload_n 1, 1) := by decide +kernel
theorem dX4_cut_74 : decode cX4_cut 74 = .ok (.iload_n 2, 1) := by decide +kernel
theorem dX4_cut_75 : decode cX4_cut 75 = .ok (.iastore, 1) := by decide +kernel
theorem dX4_cut_76 : decode cX4_cut 76 = .ok (.iload_n 3, 1) := by decide +kernel
theorem dX4_cut_77 : decode cX4_cut 77 = .ok (.ifCond .ne 13, 3) := by decide +kernel
theorem dX4_cut_80 : decode cX4_cut 80 = .ok (.aload_n 0, 1) := by decide +kernel
theorem dX4_cut_81 : decode cX4_cut 81 = .ok (.iload_n 1, 1) := by decide +kernel
theorem dX4_cut_82 : decode cX4_cut 82 = .ok (.iconst 0, 1) := by decide +kernel
theorem dX4_cut_83 : decode cX4_cut 83 = .ok (.iconst 0, 1) := by decide +kernel
theorem dX4_cut_84 : decode cX4_cut 84 = .ok (.invokevirtual 82, 3) := by decide +kernel
theorem dX4_cut_87 : decode cX4_cut 87 = .ok (.goto 77, 3) := by decide +kernel
theorem dX4_cut_90 : decode cX4_cut 90 = .ok (.iload 4, 2) := by decide +kernel
theorem dX4_cut_92 : decode cX4_cut 92 = .ok (.ifCond .ne 15, 3) := by decide +kernel
theorem dX4_cut_95 : decode cX4_cut 95 = .ok (.aload_n 0, 1) := by decide +kernel
theorem dX4_cut_96 : decode cX4_cut 96 = .ok (.iload_n 1, 1) := by decide +kernel
theorem dX4_cut_97 : decode cX4_cut 97 = .ok (.iconst 1, 1) := by decide +kernel
theorem dX4_cut_98 : decode cX4_cut 98 = .ok (.iadd, 1) := by decide +kernel
theorem dX4_cut_99 : decode cX4_cut 99 = .ok (.iconst 0, 1) := by decide +kernel
theorem dX4_cut_100 : decode cX4_cut 100 = .ok (.iconst 0, 1) := by decide +kernel
theorem dX4_cut_101 : decode cX4_cut 101 = .ok (.invokevirtual 82, 3) := by decide +kernel
theorem dX4_cut_104 : decode cX4_cut 104 = .ok (.goto 60, 3) := by decide +kernel
theorem dX4_cut_107 : decode cX4_cut 107 = .ok (.iload 5, 2) := by decide +kernel
theorem dX4_cut_109 : decode cX4_cut 109 = .ok (.i2l, 1) := by decide +kernel
theorem dX4_cut_110 : decode cX4_cut 110 = .ok (.iload_n 3, 1) := by decide +kernel
theorem dX4_cut_111 : decode cX4_cut 111 = .ok (.i2l, 1) := by decide +kernel
theorem dX4_cut_112 : decode cX4_cut 112 = .ok (.lmul, 1) := by decide +kernel
theorem dX4_cut_113 : decode cX4_cut 113 = .ok (.iload_n 3, 1) := by decide +kernel
theorem dX4_cut_114 : decode cX4_cut 114 = .ok (.iload 4, 2) := by decide +kernel
theorem dX4_cut_116 : decode cX4_cut 116 = .ok (.iadd, 1) := by decide +kernel
theorem dX4_cut_117 : decode cX4_cut 117 = .ok (.i2l, 1) := by decide +kernel
theorem dX4_cut_118 : decode cX4_cut 118 = .ok (.invokestatic 86, 3) := by decide +kernel
theorem dX4_cut_121 : decode cX4_cut 121 = .ok (.l2i, 1) := by decide +kernel
theorem dX4_cut_122 : decode cX4_cut 122 = .ok (.istore 7, 2) := by decide +kernel
theorem dX4_cut_124 : decode cX4_cut 124 = .ok (.aload_n 0, 1) := by decide +kernel
theorem dX4_cut_125 : decode cX4_cut 125 = .ok (.iload_n 1, 1) := by decide +kernel
theorem dX4_cut_126 : decode cX4_cut 126 = .ok (.iload 7, 2) := by decide +kernel
theorem dX4_cut_128 : decode cX4_cut 128 = .ok (.iload 7, 2) := by decide +kernel
theorem dX4_cut_130 : decode cX4_cut 130 = .ok (.iload 5, 2) := by decide +kernel
theorem dX4_cut_132 : decode cX4_cut 132 = .ok (.iload 6, 2) := by decide +kernel
theorem dX4_cut_134 : decode cX4_cut 134 = .ok (.invokestatic 90, 3) := by decide +kernel
theorem dX4_cut_137 : decode cX4_cut 137 = .ok (.invokevirtual 82, 3) := by decide +kernel
theorem dX4_cut_140 : decode cX4_cut 140 = .ok (.aload_n 0, 1) := by decide +kernel
theorem dX4_cut_141 : decode cX4_cut 141 = .ok (.iload_n 1, 1) := by decide +kernel
theorem dX4_cut_142 : decode cX4_cut 142 = .ok (.iconst 1, 1) := by decide +kernel
theorem dX4_cut_143 : decode cX4_cut 143 = .ok (.iadd, 1) := by decide +kernel
theorem dX4_cut_144 : decode cX4_cut 144 = .ok (.iload 5, 2) := by decide +kernel
theorem dX4_cut_146 : decode cX4_cut 146 = .ok (.iload 7, 2) := by decide +kernel
theorem dX4_cut_148 : decode cX4_cut 148 = .ok (.isub, 1) := by decide +kernel
theorem dX4_cut_149 : decode cX4_cut 149 = .ok (.iload 5, 2) := by decide +kernel
theorem dX4_cut_151 : decode cX4_cut 151 = .ok (.iload 7, 2) := by decide +kernel
theorem dX4_cut_153 : decode cX4_cut 153 = .ok (.isub, 1) := by decide +kernel
theorem dX4_cut_154 : decode cX4_cut 154 = .ok (.iload 5, 2) := by decide +kernel
theorem dX4_cut_156 : decode cX4_cut 156 = .ok (.iload 6, 2) := by decide +kernel
theorem dX4_cut_158 : decode cX4_cut 158 = .ok (.invokestatic 90, 3) := by decide +kernel
theorem dX4_cut_161 : decode cX4_cut 161 = .ok (.invokevirtual 82, 3) := by decide +kernel
theorem dX4_cut_164 : decode cX4_cut 164 = .ok (.return_, 1) := by decide +kernel
theorem dX4_doublePlace_0 : decode cX4_doublePlace 0 = .ok (.aload_n 0, 1) := by decide +kernel
theorem dX4_doublePlace_1 : decode cX4_doublePlace 1 = .ok (.getfield 28, 3) := by decide +kernel
theorem dX4_doublePlace_4 : decode cX4_doublePlace 4 = .ok (.iload_n 1, 1) := by decide +kernel
theorem dX4_doublePlace_5 : decode cX4_doublePlace 5 = .ok (.isub, 1) := by decide +kernel
theorem dX4_doublePlace_6 : decode cX4_doublePlace 6 = .ok (.istore_n 2, 1) := by decide +kernel
theorem dX4_doublePlace_7 : decode cX4_doublePlace 7 = .ok (.aload_n 0, 1) := by decide +kernel
theorem dX4_doublePlace_8 : decode cX4_doublePlace 8 = .ok (.getfield 9, 3) := by decide +kernel
theorem dX4_doublePlace_11 : decode cX4_doublePlace 11 = .ok (.iload_n 1, 1) := by decide +kernel
theorem dX4_doublePlace_12 : decode cX4_doublePlace 12 = .ok (.aload_n 0, 1) := by decide +kernel
theorem dX4_doublePlace_13 : decode cX4_doublePlace 13 = .ok (.getfield 9, 3) := by decide +kernel
theorem dX4_doublePlace_16 : decode cX4_doublePlace 16 = .ok (.iload_n 1, 1) := by decide +kernel
theorem dX4_doublePlace_17 : decode cX4_doublePlace 17 = .ok (.iconst 1, 1) := by decide +kernel
theorem dX4_doublePlace_18 : decode cX4_doublePlace 18 = .ok (.iadd, 1) := by decide +kernel
theorem dX4_doublePlace_19 : decode cX4_doublePlace 19 = .ok (.iload_n 2, 1) := by decide +kernel
theorem dX4_doublePlace_20 : decode cX4_doublePlace 20 = .ok (.invokestatic 43, 3) := by decide +kernel
theorem dX4_doublePlace_23 : decode cX4_doublePlace 23 = .ok (.aload_n 0, 1) := by decide +kernel
theorem dX4_doublePlace_24 : decode cX4_doublePlace 24 = .ok (.getfield 15, 3) := by decide +kernel
theorem dX4_doublePlace_27 : decode cX4_doublePlace 27 = .ok (.iload_n 1, 1) := by decide +kernel
theorem dX4_doublePlace_28 : decode cX4_doublePlace 28 = .ok (.aload_n 0, 1) := by decide +kernel
theorem dX4_doublePlace_29 : decode cX4_doublePlace 29 = .ok (.getfield 15, 3) := by decide +kernel
theorem dX4_doublePlace_32 : decode cX4_doublePlace 32 = .ok (.iload_n 1, 1) := by decide +kernel
theorem dX4_doublePlace_33 : decode cX4_doublePlace 33 = .ok (.iconst 1, 1) := by decide +kernel
theorem dX4_doublePlace_34 : decode cX4_doublePlace 34 = .ok (.iadd, 1) := by decide +kernel
theorem dX4_doublePlace_35 : decode cX4_doublePlace 35 = .ok (.iload_n 2, 1) := by decide +kernel
theorem dX4_doublePlace_36 : decode cX4_doublePlace 36 = .ok (.invokestatic 43, 3) := by decide +kernel
theorem dX4_doublePlace_39 : decode cX4_doublePlace 39 = .ok (.aload_n 0, 1) := by decide +kernel
theorem dX4_doublePlace_40 : decode cX4_doublePlace 40 = .ok (.getfield 18, 3) := by decide +kernel
theorem dX4_doublePlace_43 : decode cX4_doublePlace 43 = .ok (.iload_n 1, 1) := by decide +kernel
theorem dX4_doublePlace_44 : decode cX4_doublePlace 44 = .ok (.aload_n 0, 1) := by decide +kernel
theorem dX4_doublePlace_45 : decode cX4_doublePlace 45 = .ok (.getfield 18, 3) := by decide +kernel
theorem dX4_doublePlace_48 : decode cX4_doublePlace 48 = .ok (.iload_n 1, 1) := by decide +kernel
theorem dX4_doublePlace_49 : decode cX4_doublePlace 49 = .ok (.iconst 1, 1) := by decide +kernel
theorem dX4_doublePlace_50 : decode cX4_doublePlace 50 = .ok (.iadd, 1) := by decide +kernel
theorem dX4_doublePlace_51 : decode cX4_doublePlace 51 = .ok (.iload_n 2, 1) := by decide +kernel
theorem dX4_doublePlace_52 : decode cX4_doublePlace 52 = .ok (.invokestatic 43, 3) := by decide +kernel
theorem dX4_doublePlace_55 : decode cX4_doublePlace 55 = .ok (.aload_n 0, 1) := by decide +kernel
theorem dX4_doublePlace_56 : decode cX4_doublePlace 56 = .ok (.dup, 1) := by decide +kernel
theorem dX4_doublePlace_57 : decode cX4_doublePlace 57 = .ok (.getfield 28, 3) := by decide +kernel
theorem dX4_doublePlace_60 : decode cX4_doublePlace 60 = .ok (.iconst 1, 1) := by decide +kernel
theorem dX4_doublePlace_61 : decode cX4_doublePlace 61 = .ok (.iadd, 1) := by decide +kernel
theorem dX4_doublePlace_62 : decode cX4_doublePlace 62 = .ok (.putfield 28, 3) := by decide +kernel
theorem dX4_doublePlace_65 : decode cX4_doublePlace 65 = .ok (.return_, 1) := by decide +kernel
theorem dX4_setPiece_0 : decode cX4_setPiece 0 = .ok (.aload_n 0, 1) := by decide +kernel
theorem dX4_setPiece_1 : decode cX4_setPiece 1 = .ok (.getfield 15, 3) := by decide +kernel
theorem dX4_setPiece_4 : decode cX4_setPiece 4 = .ok (.iload_n 1, 1) := by decide +kernel
theorem dX4_setPiece_5 : decode cX4_setPiece 5 = .ok (.iload_n 2, 1) := by decide +kernel
theorem dX4_setPiece_6 : decode cX4_setPiece 6 = .ok (.iastore, 1) := by decide +kernel
theorem dX4_setPiece_7 : decode cX4_setPiece 7 = .ok (.aload_n 0, 1) := by decide +kernel
theorem dX4_setPiece_8 : decode cX4_setPiece 8 = .ok (.getfield 18, 3) := by decide +kernel
theorem dX4_setPiece_11 : decode cX4_setPiece 11 = .ok (.iload_n 1, 1) := by decide +kernel
theorem dX4_setPiece_12 : decode cX4_setPiece 12 = .ok (.iload_n 3, 1) := by decide +kernel
theorem dX4_setPiece_13 : decode cX4_setPiece 13 = .ok (.iastore, 1) := by decide +kernel
theorem dX4_setPiece_14 : decode cX4_setPiece 14 = .ok (.return_, 1) := by decide +kernel
set_option maxRecDepth 20000 in
theorem ggX4_pieceDoubt_X4_limited : GoodIn wsX4_pieceDoubt wsX4_limited := goodIn_r _ [8, 9, 10, 11, 3, 12] (by decide +kernel) (by decide +kernel)
set_option maxRecDepth 20000 in
theorem gX4_pieceDoubt_X4_limited : GoodIn wsX4_pieceDoubt (va_wsS RX4 94 yX4_limited wsX4_limited) := goodIn_app (goodIn_of _ (by decide +kernel)) ggX4_pieceDoubt_X4_limited
theorem dX4_pieceDoubt_0 : decode cX4_pieceDoubt 0 = .ok (.iconst 0, 1) := by decide +kernel
theorem dX4_pieceDoubt_1 : decode cX4_pieceDoubt 1 = .ok (.iload_n 0, 1) := by decide +kernel
theorem dX4_pieceDoubt_2 : decode cX4_pieceDoubt 2 = .ok (.iload_n 1, 1) := by decide +kernel
theorem dX4_pieceDoubt_3 : decode cX4_pieceDoubt 3 = .ok (.iload_n 2, 1) := by decide +kernel
theorem dX4_pieceDoubt_4 : decode cX4_pieceDoubt 4 = .ok (.iadd, 1) := by decide +kernel
theorem dX4_pieceDoubt_5 : decode cX4_pieceDoubt 5 = .ok (.iload_n 0, 1) := by decide +kernel
theorem dX4_pieceDoubt_6 : decode cX4_pieceDoubt 6 = .ok (.isub, 1) := by decide +kernel
theorem dX4_pieceDoubt_7 : decode cX4_pieceDoubt 7 = .ok (.invokestatic 65, 3) := by decide +kernel
theorem dX4_pieceDoubt_10 : decode cX4_pieceDoubt 10 = .ok (.invokestatic 65, 3) := by decide +kernel
theorem dX4_pieceDoubt_13 : decode cX4_pieceDoubt 13 = .ok (.invokestatic 94, 3) := by decide +kernel
theorem dX4_pieceDoubt_16 : decode cX4_pieceDoubt 16 = .ok (.ireturn, 1) := by decide +kernel
theorem dX4_limited_0 : decode cX4_limited 0 = .ok (.iload_n 0, 1) := by decide +kernel
theorem dX4_limited_1 : decode cX4_limited 1 = .ok (.ldc 97, 2) := by decide +kernel
theorem dX4_limited_3 : decode cX4_limited 3 = .ok (.invokestatic 98, 3) := by decide +kernel
theorem dX4_limited_6 : decode cX4_limited 6 = .ok (.ireturn, 1) := by decide +kernel
set_option maxRecDepth 20000 in
theorem ggX4_fuse_X4_limited : GoodIn wsX4_fuse wsX4_limited := goodIn_r _ [12, 13, 14, 15, 16, 17] (by decide +kernel) (by decide +kernel)
set_option maxRecDepth 20000 in
theorem gX4_fuse_X4_limited : GoodIn wsX4_fuse (va_wsS RX4 94 yX4_limited wsX4_limited) := goodIn_app (goodIn_of _ (by decide +kernel)) ggX4_fuse_X4_limited
set_option maxRecDepth 20000 in
theorem ggX4_fuse_X4_setPiece : GoodIn wsX4_fuse wsX4_setPiece := goodIn_r _ [21, 2, 3, 22, 23, 24, 25, 26, 27, 28] (by decide +kernel) (by decide +kernel)
set_option maxRecDepth 20000 in
theorem gX4_fuse_X4_setPiece : GoodIn wsX4_fuse (wsV RX4 82 RX4 yX4_setPiece wsX4_setPiece) := goodIn_app (goodIn_of _ (by decide +kernel)) ggX4_fuse_X4_setPiece
theorem dX4_fuse_0 : decode cX4_fuse 0 = .ok (.iload_n 1, 1) := by decide +kernel
theorem dX4_fuse_1 : decode cX4_fuse 1 = .ok (.ifCond .lt 13, 3) := by decide +kernel
theorem dX4_fuse_4 : decode cX4_fuse 4 = .ok (.iload_n 1, 1) := by decide +kernel
theorem dX4_fuse_5 : decode cX4_fuse 5 = .ok (.aload_n 0, 1) := by decide +kernel
theorem dX4_fuse_6 : decode cX4_fuse 6 = .ok (.getfield 28, 3) := by decide +kernel
theorem dX4_fuse_9 : decode cX4_fuse 9 = .ok (.iconst 1, 1) := by decide +kernel
theorem dX4_fuse_10 : decode cX4_fuse 10 = .ok (.isub, 1) := by decide +kernel
theorem dX4_fuse_11 : decode cX4_fuse 11 = .ok (.if_icmp .lt 4, 3) := by decide +kernel
theorem dX4_fuse_14 : decode cX4_fuse 14 = .ok (.return_, 1) := by decide +kernel
theorem dX4_fuse_15 : decode cX4_fuse 15 = .ok (.aload_n 0, 1) := by decide +kernel
theorem dX4_fuse_16 : decode cX4_fuse 16 = .ok (.getfield 15, 3) := by decide +kernel
theorem dX4_fuse_19 : decode cX4_fuse 19 = .ok (.iload_n 1, 1) := by decide +kernel
theorem dX4_fuse_20 : decode cX4_fuse 20 = .ok (.iaload, 1) := by decide +kernel
theorem dX4_fuse_21 : decode cX4_fuse 21 = .ok (.aload_n 0, 1) := by decide +kernel
theorem dX4_fuse_22 : decode cX4_fuse 22 = .ok (.getfield 15, 3) := by decide +kernel
theorem dX4_fuse_25 : decode cX4_fuse 25 = .ok (.iload_n 1, 1) := by decide +kernel
theorem dX4_fuse_26 : decode cX4_fuse 26 = .ok (.iconst 1, 1) := by decide +kernel
theorem dX4_fuse_27 : decode cX4_fuse 27 = .ok (.iadd, 1) := by decide +kernel
theorem dX4_fuse_28 : decode cX4_fuse 28 = .ok (.iaload, 1) := by decide +kernel
theorem dX4_fuse_29 : decode cX4_fuse 29 = .ok (.iadd, 1) := by decide +kernel
theorem dX4_fuse_30 : decode cX4_fuse 30 = .ok (.istore_n 2, 1) := by decide +kernel
theorem dX4_fuse_31 : decode cX4_fuse 31 = .ok (.aload_n 0, 1) := by decide +kernel
theorem dX4_fuse_32 : decode cX4_fuse 32 = .ok (.getfield 18, 3) := by decide +kernel
theorem dX4_fuse_35 : decode cX4_fuse 35 = .ok (.iload_n 1, 1) := by decide +kernel
theorem dX4_fuse_36 : decode cX4_fuse 36 = .ok (.iaload, 1) := by decide +kernel
theorem dX4_fuse_37 : decode cX4_fuse 37 = .ok (.aload_n 0, 1) := by decide +kernel
theorem dX4_fuse_38 : decode cX4_fuse 38 = .ok (.getfield 18, 3) := by decide +kernel
theorem dX4_fuse_41 : decode cX4_fuse 41 = .ok (.iload_n 1, 1) := by decide +kernel
theorem dX4_fuse_42 : decode cX4_fuse 42 = .ok (.iconst 1, 1) := by decide +kernel
theorem dX4_fuse_43 : decode cX4_fuse 43 = .ok (.iadd, 1) := by decide +kernel
theorem dX4_fuse_44 : decode cX4_fuse 44 = .ok (.iaload, 1) := by decide +kernel
theorem dX4_fuse_45 : decode cX4_fuse 45 = .ok (.iadd, 1) := by decide +kernel
theorem dX4_fuse_46 : decode cX4_fuse 46 = .ok (.invokestatic 94, 3) := by decide +kernel
theorem dX4_fuse_49 : decode cX4_fuse 49 = .ok (.istore_n 3, 1) := by decide +kernel
theorem dX4_fuse_50 : decode cX4_fuse 50 = .ok (.aload_n 0, 1) := by decide +kernel
theorem dX4_fuse_51 : decode cX4_fuse 51 = .ok (.getfield 28, 3) := by decide +kernel
theorem dX4_fuse_54 : decode cX4_fuse 54 = .ok (.iload_n 1, 1) := by decide +kernel
theorem dX4_fuse_55 : decode cX4_fuse 55 = .ok (.isub, 1) := by decide +kernel
theorem dX4_fuse_56 : decode cX4_fuse 56 = .ok (.iconst 1, 1) := by decide +kernel
theorem dX4_fuse_57 : decode cX4_fuse 57 = .ok (.isub, 1) := by decide +kernel
theorem dX4_fuse_58 : decode cX4_fuse 58 = .ok (.istore 4, 2) := by decide +kernel
theorem dX4_fuse_60 : decode cX4_fuse 60 = .ok (.aload_n 0, 1) := by decide +kernel
theorem dX4_fuse_61 : decode cX4_fuse 61 = .ok (.getfield 9, 3) := by decide +kernel
theorem dX4_fuse_64 : decode cX4_fuse 64 = .ok (.iload_n 1, 1) := by decide +kernel
theorem dX4_fuse_65 : decode cX4_fuse 65 = .ok (.iconst 1, 1) := by decide +kernel
theorem dX4_fuse_66 : decode cX4_fuse 66 = .ok (.iadd, 1) := by decide +kernel
theorem dX4_fuse_67 : decode cX4_fuse 67 = .ok (.aload_n 0, 1) := by decide +kernel
theorem dX4_fuse_68 : decode cX4_fuse 68 = .ok (.getfield 9, 3) := by decide +kernel
theorem dX4_fuse_71 : decode cX4_fuse 71 = .ok (.iload_n 1, 1) := by decide +kernel
theorem dX4_fuse_72 : decode cX4_fuse 72 = .ok (.iload 4, 2) := by decide +kernel
theorem dX4_fuse_74 : decode cX4_fuse 74 = .ok (.invokestatic 43, 3) := by decide +kernel
theorem dX4_fuse_77 : decode cX4_fuse 77 = .ok (.aload_n 0, 1) := by decide +kernel
theorem dX4_fuse_78 : decode cX4_fuse 78 = .ok (.getfield 15, 3) := by decide +kernel
theorem dX4_fuse_81 : decode cX4_fuse 81 = .ok (.iload_n 1, 1) := by decide +kernel
theorem dX4_fuse_82 : decode cX4_fuse 82 = .ok (.iconst 1, 1) := by decide +kernel
theorem dX4_fuse_83 : decode cX4_fuse 83 = .ok (.iadd, 1) := by decide +kernel
theorem dX4_fuse_84 : decode cX4_fuse 84 = .ok (.aload_n 0, 1) := by decide +kernel
theorem dX4_fuse_85 : decode cX4_fuse 85 = .ok (.getfield 15, 3) := by decide +kernel
theorem dX4_fuse_88 : decode cX4_fuse 88 = .ok (.iload_n 1, 1) := by decide +kernel
theorem dX4_fuse_89 : decode cX4_fuse 89 = .ok (.iload 4, 2) := by decide +kernel
theorem dX4_fuse_91 : decode cX4_fuse 91 = .ok (.invokestatic 43, 3) := by decide +kernel
theorem dX4_fuse_94 : decode cX4_fuse 94 = .ok (.aload_n 0, 1) := by decide +kernel
theorem dX4_fuse_95 : decode cX4_fuse 95 = .ok (.getfield 18, 3) := by decide +kernel
theorem dX4_fuse_98 : decode cX4_fuse 98 = .ok (.iload_n 1, 1) := by decide +kernel
theorem dX4_fuse_99 : decode cX4_fuse 99 = .ok (.iconst 1, 1) := by decide +kernel
theorem dX4_fuse_100 : decode cX4_fuse 100 = .ok (.iadd, 1) := by decide +kernel
theorem dX4_fuse_101 : decode cX4_fuse 101 = .ok (.aload_n 0, 1) := by decide +kernel
theorem dX4_fuse_102 : decode cX4_fuse 102 = .ok (.getfield 18, 3) := by decide +kernel
theorem dX4_fuse_105 : decode cX4_fuse 105 = .ok (.iload_n 1, 1) := by decide +kernel
theorem dX4_fuse_106 : decode cX4_fuse 106 = .ok (.iload 4, 2) := by decide +kernel
theorem dX4_fuse_108 : decode cX4_fuse 108 = .ok (.invokestatic 43, 3) := by decide +kernel
theorem dX4_fuse_111 : decode cX4_fuse 111 = .ok (.aload_n 0, 1) := by decide +kernel
theorem dX4_fuse_112 : decode cX4_fuse 112 = .ok (.dup, 1) := by decide +kernel
theorem dX4_fuse_113 : decode cX4_fuse 113 = .ok (.getfield 28, 3) := by decide +kernel
theorem dX4_fuse_116 : decode cX4_fuse 116 = .ok (.iconst 1, 1) := by decide +kernel
theorem dX4_fuse_117 : decode cX4_fuse 117 = .ok (.isub, 1) := by decide +kernel
theorem dX4_fuse_118 : decode cX4_fuse 118 = .ok (.putfield 28, 3) := by decide +kernel
theorem dX4_fuse_121 : decode cX4_fuse 121 = .ok (.aload_n 0, 1) := by decide +kernel
theorem dX4_fuse_122 : decode cX4_fuse 122 = .ok (.iload_n 1, 1) := by decide +kernel
theorem dX4_fuse_123 : decode cX4_fuse 123 = .ok (.iload_n 2, 1) := by decide +kernel
theorem dX4_fuse_124 : decode cX4_fuse 124 = .ok (.iload_n 3, 1) := by decide +kernel
theorem dX4_fuse_125 : decode cX4_fuse 125 = .ok (.invokevirtual 82, 3) := by decide +kernel
theorem dX4_fuse_128 : decode cX4_fuse 128 = .ok (.return_, 1) := by decide +kernel
set_option maxRecDepth 20000 in
theorem ggX4_rebalance_X4_greatestLong : GoodIn wsX4_rebalance wsX4_greatestLong := goodIn_r _ [6, 7, 1, 8, 9, 10, 5, 11, 12, 13, 14, 15, 16, 17, 18, 19, 20, 21, 22, 23, 24, 25, 69, 70, 71, 72, 73, 74, 75] (by decide +kernel) (by decide +kernel)
set_option maxRecDepth 20000 in
theorem gX4_rebalance_X4_greatestLong : GoodIn wsX4_rebalance (wsV RX4 101 RX4 yX4_greatestLong wsX4_greatestLong) := goodIn_app (goodIn_of _ (by decide +kernel)) ggX4_rebalance_X4_greatestLong
set_option maxRecDepth 20000 in
theorem ggX4_rebalance_X4_leastPair : GoodIn wsX4_rebalance wsX4_leastPair := goodIn_r _ [29, 7, 1, 69, 70, 71, 72, 73, 74, 75] (by decide +kernel) (by decide +kernel)
set_option maxRecDepth 20000 in
theorem gX4_rebalance_X4_leastPair : GoodIn wsX4_rebalance (wsV RX4 104 RX4 yX4_leastPair wsX4_leastPair) := goodIn_app (goodIn_of _ (by decide +kernel)) ggX4_rebalance_X4_leastPair
set_option maxRecDepth 20000 in
theorem ggX4_rebalance_X4_fuse : GoodIn wsX4_rebalance wsX4_fuse := goodIn_r _ [33, 7, 1, 34, 12, 35, 36, 37, 38, 39, 40, 5, 41, 42, 43, 44, 23, 45, 46, 47, 48, 49, 69, 70, 71, 72, 73, 74, 75] (by decide +kernel) (by decide +kernel)
set_option maxRecDepth 20000 in
theorem gX4_rebalance_X4_fuse : GoodIn wsX4_rebalance (wsV RX4 107 RX4 yX4_fuse wsX4_fuse) := goodIn_app (goodIn_of _ (by decide +kernel)) ggX4_rebalance_X4_fuse
set_option maxRecDepth 20000 in
theorem ggX4_rebalance_X4_halfOf : GoodIn wsX4_rebalance wsX4_halfOf := goodIn_r _ [53, 12, 13, 14, 15, 5, 16, 8, 9, 10, 11, 17, 18, 19, 20, 21, 22, 23, 24, 25, 69, 70, 71, 72, 73, 74, 75] (by decide +kernel) (by decide +kernel)
set_option maxRecDepth 20000 in
theorem gX4_rebalance_X4_halfOf : GoodIn wsX4_rebalance (wsV RX4 110 RX4 yX4_halfOf wsX4_halfOf) := goodIn_app (goodIn_of _ (by decide +kernel)) ggX4_rebalance_X4_halfOf
set_option maxRecDepth 20000 in
theorem ggX4_rebalance_X4_cut : GoodIn wsX4_rebalance wsX4_cut := goodIn_r _ [57, 7, 12, 1, 34, 13, 14, 15, 5, 16, 17, 18, 19, 20, 21, 22, 23, 24, 25, 58, 59, 60, 61, 35, 36, 37, 38, 46, 47, 48, 49, 62, 63, 64, 65, 66, 67, 68, 39, 40, 41, 42, 43, 44, 45, 69, 70, 71, 72, 73, 74, 75] (by decide +kernel) (by decide +kernel)
set_option maxRecDepth 20000 in
theorem gX4_rebalance_X4_cut : GoodIn wsX4_rebalance (wsV RX4 113 RX4 yX4_cut wsX4_cut) := goodIn_app (goodIn_of _ (by decide +kernel)) ggX4_rebalance_X4_cut
theorem dX4_rebalance_0 : decode cX4_rebalance 0 = .ok (.aload_n 0, 1) := by decide +kernel
theorem dX4_rebalance_1 : decode cX4_rebalance 1 = .ok (.invokevirtual 101, 3) := by decide +kernel
theorem dX4_rebalance_4 : decode cX4_rebalance 4 = .ok (.istore_n 1, 1) := by decide +kernel
theorem dX4_rebalance_5 : decode cX4_rebalance 5 = .ok (.aload_n 0, 1) := by decide +kernel
theorem dX4_rebalance_6 : decode cX4_rebalance 6 = .ok (.iload_n 1, 1) := by decide +kernel
theorem dX4_rebalance_7 : decode cX4_rebalance 7 = .ok (.invokevirtual 104, 3) := by decide +kernel
theorem dX4_rebalance_10 : decode cX4_rebalance 10 = .ok (.istore_n 2, 1) := by decide +kernel
theorem dX4_rebalance_11 : decode cX4_rebalance 11 = .ok (.iload_n 1, 1) := by decide +kernel
theorem dX4_rebalance_12 : decode cX4_rebalance 12 = .ok (.iconst (-1), 1) := by decide +kernel
theorem dX4_rebalance_13 : decode cX4_rebalance 13 = .ok (.if_icmp .eq 8, 3) := by decide +kernel
theorem dX4_rebalance_16 : decode cX4_rebalance 16 = .ok (.iload_n 2, 1) := by decide +kernel
theorem dX4_rebalance_17 : decode cX4_rebalance 17 = .ok (.iconst (-1), 1) := by decide +kernel
theorem dX4_rebalance_18 : decode cX4_rebalance 18 = .ok (.if_icmp .ne 5, 3) := by decide +kernel
theorem dX4_rebalance_21 : decode cX4_rebalance 21 = .ok (.iconst 0, 1) := by decide +kernel
theorem dX4_rebalance_22 : decode cX4_rebalance 22 = .ok (.ireturn, 1) := by decide +kernel
theorem dX4_rebalance_23 : decode cX4_rebalance 23 = .ok (.aload_n 0, 1) := by decide +kernel
theorem dX4_rebalance_24 : decode cX4_rebalance 24 = .ok (.getfield 15, 3) := by decide +kernel
theorem dX4_rebalance_27 : decode cX4_rebalance 27 = .ok (.iload_n 1, 1) := by decide +kernel
theorem dX4_rebalance_28 : decode cX4_rebalance 28 = .ok (.iaload, 1) := by decide +kernel
theorem dX4_rebalance_29 : decode cX4_rebalance 29 = .ok (.iconst 2, 1) := by decide +kernel
theorem dX4_rebalance_30 : decode cX4_rebalance 30 = .ok (.aload_n 0, 1) := by decide +kernel
theorem dX4_rebalance_31 : decode cX4_rebalance 31 = .ok (.getfield 15, 3) := by decide +kernel
theorem dX4_rebalance_34 : decode cX4_rebalance 34 = .ok (.iload_n 2, 1) := by decide +kernel
theorem dX4_rebalance_35 : decode cX4_rebalance 35 = .ok (.iaload, 1) := by decide +kernel
theorem dX4_rebalance_36 : decode cX4_rebalance 36 = .ok (.aload_n 0, 1) := by decide +kernel
theorem dX4_rebalance_37 : decode cX4_rebalance 37 = .ok (.getfield 15, 3) := by decide +kernel
theorem dX4_rebalance_40 : decode cX4_rebalance 40 = .ok (.iload_n 2, 1) := by decide +kernel
theorem dX4_rebalance_41 : decode cX4_rebalance 41 = .ok (.iconst 1, 1) := by decide +kernel
theorem dX4_rebalance_42 : decode cX4_rebalance 42 = .ok (.iadd, 1) := by decide +kernel
theorem dX4_rebalance_43 : decode cX4_rebalance 43 = .ok (.iaload, 1) := by decide +kernel
theorem dX4_rebalance_44 : decode cX4_rebalance 44 = .ok (.iadd, 1) := by decide +kernel
theorem dX4_rebalance_45 : decode cX4_rebalance 45 = .ok (.imul, 1) := by decide +kernel
theorem dX4_rebalance_46 : decode cX4_rebalance 46 = .ok (.if_icmp .gt 5, 3) := by decide +kernel
theorem dX4_rebalance_49 : decode cX4_rebalance 49 = .ok (.iconst 0, 1) := by decide +kernel
theorem dX4_rebalance_50 : decode cX4_rebalance 50 = .ok (.ireturn, 1) := by decide +kernel
theorem dX4_rebalance_51 : decode cX4_rebalance 51 = .ok (.aload_n 0, 1) := by decide +kernel
