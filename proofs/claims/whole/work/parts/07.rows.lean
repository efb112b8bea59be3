theorem dX4_rebalance_52 : decode cX4_rebalance 52 = .ok (.iload_n 2, 1) := by decide +kernel
theorem dX4_rebalance_53 : decode cX4_rebalance 53 = .ok (.invokevirtual 107, 3) := by decide +kernel
theorem dX4_rebalance_56 : decode cX4_rebalance 56 = .ok (.iload_n 2, 1) := by decide +kernel
theorem dX4_rebalance_57 : decode cX4_rebalance 57 = .ok (.iload_n 1, 1) := by decide +kernel
theorem dX4_rebalance_58 : decode cX4_rebalance 58 = .ok (.if_icmp .ge 9, 3) := by decide +kernel
theorem dX4_rebalance_61 : decode cX4_rebalance 61 = .ok (.iload_n 1, 1) := by decide +kernel
theorem dX4_rebalance_62 : decode cX4_rebalance 62 = .ok (.iconst 1, 1) := by decide +kernel
theorem dX4_rebalance_63 : decode cX4_rebalance 63 = .ok (.isub, 1) := by decide +kernel
theorem dX4_rebalance_64 : decode cX4_rebalance 64 = .ok (.goto 4, 3) := by decide +kernel
theorem dX4_rebalance_67 : decode cX4_rebalance 67 = .ok (.iload_n 1, 1) := by decide +kernel
theorem dX4_rebalance_68 : decode cX4_rebalance 68 = .ok (.istore_n 3, 1) := by decide +kernel
theorem dX4_rebalance_69 : decode cX4_rebalance 69 = .ok (.aload_n 0, 1) := by decide +kernel
theorem dX4_rebalance_70 : decode cX4_rebalance 70 = .ok (.iload_n 3, 1) := by decide +kernel
theorem dX4_rebalance_71 : decode cX4_rebalance 71 = .ok (.aload_n 0, 1) := by decide +kernel
theorem dX4_rebalance_72 : decode cX4_rebalance 72 = .ok (.iload_n 3, 1) := by decide +kernel
theorem dX4_rebalance_73 : decode cX4_rebalance 73 = .ok (.invokevirtual 110, 3) := by decide +kernel
theorem dX4_rebalance_76 : decode cX4_rebalance 76 = .ok (.invokevirtual 113, 3) := by decide +kernel
theorem dX4_rebalance_79 : decode cX4_rebalance 79 = .ok (.iconst 1, 1) := by decide +kernel
theorem dX4_rebalance_80 : decode cX4_rebalance 80 = .ok (.ireturn, 1) := by decide +kernel
set_option maxRecDepth 20000 in
theorem ggX4_greatestLong_X4_longOf : GoodIn wsX4_greatestLong wsX4_longOf := goodIn_r _ [7, 8, 9, 10, 11, 6, 12, 13, 14, 15, 16, 17, 18, 19, 20, 21, 22, 23, 24, 25, 26, 27, 28] (by decide +kernel) (by decide +kernel)
set_option maxRecDepth 20000 in
theorem gX4_greatestLong_X4_longOf : GoodIn wsX4_greatestLong (wsV RX4 117 RX4 yX4_longOf wsX4_longOf) := goodIn_app (goodIn_of _ (by decide +kernel)) ggX4_greatestLong_X4_longOf
theorem dX4_greatestLong_0 : decode cX4_greatestLong 0 = .ok (.iconst (-1), 1) := by decide +kernel
theorem dX4_greatestLong_1 : decode cX4_greatestLong 1 = .ok (.istore_n 1, 1) := by decide +kernel
theorem dX4_greatestLong_2 : decode cX4_greatestLong 2 = .ok (.iconst 0, 1) := by decide +kernel
theorem dX4_greatestLong_3 : decode cX4_greatestLong 3 = .ok (.istore_n 2, 1) := by decide +kernel
theorem dX4_greatestLong_4 : decode cX4_greatestLong 4 = .ok (.iload_n 2, 1) := by decide +kernel
theorem dX4_greatestLong_5 : decode cX4_greatestLong 5 = .ok (.aload_n 0, 1) := by decide +kernel
theorem dX4_greatestLong_6 : decode cX4_greatestLong 6 = .ok (.getfield 28, 3) := by decide +kernel
theorem dX4_greatestLong_9 : decode cX4_greatestLong 9 = .ok (.if_icmp .ge 40, 3) := by decide +kernel
theorem dX4_greatestLong_12 : decode cX4_greatestLong 12 = .ok (.aload_n 0, 1) := by decide +kernel
theorem dX4_greatestLong_13 : decode cX4_greatestLong 13 = .ok (.iload_n 2, 1) := by decide +kernel
theorem dX4_greatestLong_14 : decode cX4_greatestLong 14 = .ok (.invokevirtual 117, 3) := by decide +kernel
theorem dX4_greatestLong_17 : decode cX4_greatestLong 17 = .ok (.iconst 2, 1) := by decide +kernel
theorem dX4_greatestLong_18 : decode cX4_greatestLong 18 = .ok (.if_icmp .lt 25, 3) := by decide +kernel
theorem dX4_greatestLong_21 : decode cX4_greatestLong 21 = .ok (.iload_n 1, 1) := by decide +kernel
theorem dX4_greatestLong_22 : decode cX4_greatestLong 22 = .ok (.iconst (-1), 1) := by decide +kernel
theorem dX4_greatestLong_23 : decode cX4_greatestLong 23 = .ok (.if_icmp .eq 18, 3) := by decide +kernel
theorem dX4_greatestLong_26 : decode cX4_greatestLong 26 = .ok (.aload_n 0, 1) := by decide +kernel
theorem dX4_greatestLong_27 : decode cX4_greatestLong 27 = .ok (.getfield 15, 3) := by decide +kernel
theorem dX4_greatestLong_30 : decode cX4_greatestLong 30 = .ok (.iload_n 2, 1) := by decide +kernel
theorem dX4_greatestLong_31 : decode cX4_greatestLong 31 = .ok (.iaload, 1) := by decide +kernel
theorem dX4_greatestLong_32 : decode cX4_greatestLong 32 = .ok (.aload_n 0, 1) := by decide +kernel
theorem dX4_greatestLong_33 : decode cX4_greatestLong 33 = .ok (.getfield 15, 3) := by decide +kernel
theorem dX4_greatestLong_36 : decode cX4_greatestLong 36 = .ok (.iload_n 1, 1) := by decide +kernel
theorem dX4_greatestLong_37 : decode cX4_greatestLong 37 = .ok (.iaload, 1) := by decide +kernel
theorem dX4_greatestLong_38 : decode cX4_greatestLong 38 = .ok (.if_icmp .le 5, 3) := by decide +kernel
theorem dX4_greatestLong_41 : decode cX4_greatestLong 41 = .ok (.iload_n 2, 1) := by decide +kernel
theorem dX4_greatestLong_42 : decode cX4_greatestLong 42 = .ok (.istore_n 1, 1) := by decide +kernel
theorem dX4_greatestLong_43 : decode cX4_greatestLong 43 = .ok (.iinc 2 1, 3) := by decide +kernel
theorem dX4_greatestLong_46 : decode cX4_greatestLong 46 = .ok (.goto (-42), 3) := by decide +kernel
theorem dX4_greatestLong_49 : decode cX4_greatestLong 49 = .ok (.iload_n 1, 1) := by decide +kernel
theorem dX4_greatestLong_50 : decode cX4_greatestLong 50 = .ok (.ireturn, 1) := by decide +kernel
theorem dX4_leastPair_0 : decode cX4_leastPair 0 = .ok (.iconst (-1), 1) := by decide +kernel
theorem dX4_leastPair_1 : decode cX4_leastPair 1 = .ok (.istore_n 2, 1) := by decide +kernel
theorem dX4_leastPair_2 : decode cX4_leastPair 2 = .ok (.iconst 0, 1) := by decide +kernel
theorem dX4_leastPair_3 : decode cX4_leastPair 3 = .ok (.istore_n 3, 1) := by decide +kernel
theorem dX4_leastPair_4 : decode cX4_leastPair 4 = .ok (.iconst 0, 1) := by decide +kernel
theorem dX4_leastPair_5 : decode cX4_leastPair 5 = .ok (.istore 4, 2) := by decide +kernel
theorem dX4_leastPair_7 : decode cX4_leastPair 7 = .ok (.iload 4, 2) := by decide +kernel
theorem dX4_leastPair_9 : decode cX4_leastPair 9 = .ok (.aload_n 0, 1) := by decide +kernel
theorem dX4_leastPair_10 : decode cX4_leastPair 10 = .ok (.getfield 28, 3) := by decide +kernel
theorem dX4_leastPair_13 : decode cX4_leastPair 13 = .ok (.iconst 1, 1) := by decide +kernel
theorem dX4_leastPair_14 : decode cX4_leastPair 14 = .ok (.isub, 1) := by decide +kernel
theorem dX4_leastPair_15 : decode cX4_leastPair 15 = .ok (.if_icmp .ge 59, 3) := by decide +kernel
theorem dX4_leastPair_18 : decode cX4_leastPair 18 = .ok (.aload_n 0, 1) := by decide +kernel
theorem dX4_leastPair_19 : decode cX4_leastPair 19 = .ok (.getfield 15, 3) := by decide +kernel
theorem dX4_leastPair_22 : decode cX4_leastPair 22 = .ok (.iload 4, 2) := by decide +kernel
theorem dX4_leastPair_24 : decode cX4_leastPair 24 = .ok (.iaload, 1) := by decide +kernel
theorem dX4_leastPair_25 : decode cX4_leastPair 25 = .ok (.aload_n 0, 1) := by decide +kernel
theorem dX4_leastPair_26 : decode cX4_leastPair 26 = .ok (.getfield 15, 3) := by decide +kernel
theorem dX4_leastPair_29 : decode cX4_leastPair 29 = .ok (.iload 4, 2) := by decide +kernel
theorem dX4_leastPair_31 : decode cX4_leastPair 31 = .ok (.iconst 1, 1) := by decide +kernel
theorem dX4_leastPair_32 : decode cX4_leastPair 32 = .ok (.iadd, 1) := by decide +kernel
theorem dX4_leastPair_33 : decode cX4_leastPair 33 = .ok (.iaload, 1) := by decide +kernel
theorem dX4_leastPair_34 : decode cX4_leastPair 34 = .ok (.iadd, 1) := by decide +kernel
theorem dX4_leastPair_35 : decode cX4_leastPair 35 = .ok (.istore 5, 2) := by decide +kernel
theorem dX4_leastPair_37 : decode cX4_leastPair 37 = .ok (.iload 4, 2) := by decide +kernel
theorem dX4_leastPair_39 : decode cX4_leastPair 39 = .ok (.iload_n 1, 1) := by decide +kernel
theorem dX4_leastPair_40 : decode cX4_leastPair 40 = .ok (.if_icmp .eq 28, 3) := by decide +kernel
theorem dX4_leastPair_43 : decode cX4_leastPair 43 = .ok (.iload 4, 2) := by decide +kernel
theorem dX4_leastPair_45 : decode cX4_leastPair 45 = .ok (.iconst 1, 1) := by decide +kernel
theorem dX4_leastPair_46 : decode cX4_leastPair 46 = .ok (.iadd, 1) := by decide +kernel
theorem dX4_leastPair_47 : decode cX4_leastPair 47 = .ok (.iload_n 1, 1) := by decide +kernel
theorem dX4_leastPair_48 : decode cX4_leastPair 48 = .ok (.if_icmp .eq 20, 3) := by decide +kernel
theorem dX4_leastPair_51 : decode cX4_leastPair 51 = .ok (.iload_n 2, 1) := by decide +kernel
theorem dX4_leastPair_52 : decode cX4_leastPair 52 = .ok (.iconst (-1), 1) := by decide +kernel
theorem dX4_leastPair_53 : decode cX4_leastPair 53 = .ok (.if_icmp .eq 9, 3) := by decide +kernel
theorem dX4_leastPair_56 : decode cX4_leastPair 56 = .ok (.iload 5, 2) := by decide +kernel
theorem dX4_leastPair_58 : decode cX4_leastPair 58 = .ok (.iload_n 3, 1) := by decide +kernel
theorem dX4_leastPair_59 : decode cX4_leastPair 59 = .ok (.if_icmp .ge 9, 3) := by decide +kernel
theorem dX4_leastPair_62 : decode cX4_leastPair 62 = .ok (.iload 4, 2) := by decide +kernel
theorem dX4_leastPair_64 : decode cX4_leastPair 64 = .ok (.istore_n 2, 1) := by decide +kernel
theorem dX4_leastPair_65 : decode cX4_leastPair 65 = .ok (.iload 5, 2) := by decide +kernel
theorem dX4_leastPair_67 : decode cX4_leastPair 67 = .ok (.istore_n 3, 1) := by decide +kernel
theorem dX4_leastPair_68 : decode cX4_leastPair 68 = .ok (.iinc 4 1, 3) := by decide +kernel
theorem dX4_leastPair_71 : decode cX4_leastPair 71 = .ok (.goto (-64), 3) := by decide +kernel
theorem dX4_leastPair_74 : decode cX4_leastPair 74 = .ok (.iload_n 2, 1) := by decide +kernel
theorem dX4_leastPair_75 : decode cX4_leastPair 75 = .ok (.ireturn, 1) := by decide +kernel
set_option maxRecDepth 20000 in
theorem ggX4_halfOf_X4_firstOf : GoodIn wsX4_halfOf wsX4_firstOf := goodIn_r _ [6, 1, 20, 21, 22, 23, 24, 25, 26] (by decide +kernel) (by decide +kernel)
set_option maxRecDepth 20000 in
theorem gX4_halfOf_X4_firstOf : GoodIn wsX4_halfOf (wsV RX4 39 RX4 yX4_firstOf wsX4_firstOf) := goodIn_app (goodIn_of _ (by decide +kernel)) ggX4_halfOf_X4_firstOf
set_option maxRecDepth 20000 in
theorem ggX4_halfOf_X4_longOf : GoodIn wsX4_halfOf wsX4_longOf := goodIn_r _ [10, 1, 2, 3, 4, 5, 6, 11, 12, 13, 14, 15, 16, 17, 18, 19, 20, 21, 22, 23, 24, 25, 26] (by decide +kernel) (by decide +kernel)
set_option maxRecDepth 20000 in
theorem gX4_halfOf_X4_longOf : GoodIn wsX4_halfOf (wsV RX4 117 RX4 yX4_longOf wsX4_longOf) := goodIn_app (goodIn_of _ (by decide +kernel)) ggX4_halfOf_X4_longOf
set_option maxRecDepth 20000 in
theorem ggX4_halfOf_X4_plainBetween : GoodIn wsX4_halfOf wsX4_plainBetween := goodIn_r _ [14, 15, 16, 17, 18, 19, 20, 21, 22, 23, 24, 25, 26] (by decide +kernel) (by decide +kernel)
set_option maxRecDepth 20000 in
theorem gX4_halfOf_X4_plainBetween : GoodIn wsX4_halfOf (wsV RX4 61 RX4 yX4_plainBetween wsX4_plainBetween) := goodIn_app (goodIn_of _ (by decide +kernel)) ggX4_halfOf_X4_plainBetween
theorem dX4_halfOf_0 : decode cX4_halfOf 0 = .ok (.aload_n 0, 1) := by decide +kernel
theorem dX4_halfOf_1 : decode cX4_halfOf 1 = .ok (.iload_n 1, 1) := by decide +kernel
theorem dX4_halfOf_2 : decode cX4_halfOf 2 = .ok (.invokevirtual 39, 3) := by decide +kernel
theorem dX4_halfOf_5 : decode cX4_halfOf 5 = .ok (.istore_n 2, 1) := by decide +kernel
theorem dX4_halfOf_6 : decode cX4_halfOf 6 = .ok (.aload_n 0, 1) := by decide +kernel
theorem dX4_halfOf_7 : decode cX4_halfOf 7 = .ok (.iload_n 1, 1) := by decide +kernel
theorem dX4_halfOf_8 : decode cX4_halfOf 8 = .ok (.invokevirtual 117, 3) := by decide +kernel
theorem dX4_halfOf_11 : decode cX4_halfOf 11 = .ok (.istore_n 3, 1) := by decide +kernel
theorem dX4_halfOf_12 : decode cX4_halfOf 12 = .ok (.iload_n 2, 1) := by decide +kernel
theorem dX4_halfOf_13 : decode cX4_halfOf 13 = .ok (.istore 4, 2) := by decide +kernel
theorem dX4_halfOf_15 : decode cX4_halfOf 15 = .ok (.iload 4, 2) := by decide +kernel
theorem dX4_halfOf_17 : decode cX4_halfOf 17 = .ok (.aload_n 0, 1) := by decide +kernel
theorem dX4_halfOf_18 : decode cX4_halfOf 18 = .ok (.getfield 9, 3) := by decide +kernel
theorem dX4_halfOf_21 : decode cX4_halfOf 21 = .ok (.iload_n 1, 1) := by decide +kernel
theorem dX4_halfOf_22 : decode cX4_halfOf 22 = .ok (.iaload, 1) := by decide +kernel
theorem dX4_halfOf_23 : decode cX4_halfOf 23 = .ok (.if_icmp .ge 22, 3) := by decide +kernel
theorem dX4_halfOf_26 : decode cX4_halfOf 26 = .ok (.iconst 2, 1) := by decide +kernel
theorem dX4_halfOf_27 : decode cX4_halfOf 27 = .ok (.aload_n 0, 1) := by decide +kernel
theorem dX4_halfOf_28 : decode cX4_halfOf 28 = .ok (.iload_n 2, 1) := by decide +kernel
theorem dX4_halfOf_29 : decode cX4_halfOf 29 = .ok (.iload 4, 2) := by decide +kernel
theorem dX4_halfOf_31 : decode cX4_halfOf 31 = .ok (.invokevirtual 61, 3) := by decide +kernel
theorem dX4_halfOf_34 : decode cX4_halfOf 34 = .ok (.imul, 1) := by decide +kernel
theorem dX4_halfOf_35 : decode cX4_halfOf 35 = .ok (.iload_n 3, 1) := by decide +kernel
theorem dX4_halfOf_36 : decode cX4_halfOf 36 = .ok (.if_icmp .ge 9, 3) := by decide +kernel
theorem dX4_halfOf_39 : decode cX4_halfOf 39 = .ok (.iinc 4 1, 3) := by decide +kernel
theorem dX4_halfOf_42 : decode cX4_halfOf 42 = .ok (.goto (-27), 3) := by decide +kernel
theorem dX4_halfOf_45 : decode cX4_halfOf 45 = .ok (.iload 4, 2) := by decide +kernel
theorem dX4_halfOf_47 : decode cX4_halfOf 47 = .ok (.ireturn, 1) := by decide +kernel
set_option maxRecDepth 20000 in
theorem ggX4_takeIn_X4_endsAt : GoodIn wsX4_takeIn wsX4_endsAt := goodIn_r _ [9, 10, 11, 12, 13, 8, 14, 1, 71, 72, 73, 74, 75, 76, 77] (by decide +kernel) (by decide +kernel)
set_option maxRecDepth 20000 in
theorem gX4_takeIn_X4_endsAt : GoodIn wsX4_takeIn (wsV RX4 120 RX4 yX4_endsAt wsX4_endsAt) := goodIn_app (goodIn_of _ (by decide +kernel)) ggX4_takeIn_X4_endsAt
set_option maxRecDepth 20000 in
theorem ggX4_takeIn_X4_spanOf : GoodIn wsX4_takeIn wsX4_spanOf := goodIn_r _ [14, 1, 10, 71, 72, 73, 74, 75, 76, 77] (by decide +kernel) (by decide +kernel)
set_option maxRecDepth 20000 in
theorem gX4_takeIn_X4_spanOf : GoodIn wsX4_takeIn (wsV RX4 58 RX4 yX4_spanOf wsX4_spanOf) := goodIn_app (goodIn_of _ (by decide +kernel)) ggX4_takeIn_X4_spanOf
set_option maxRecDepth 20000 in
theorem ggX4_takeIn_X4_cut : GoodIn wsX4_takeIn wsX4_cut := goodIn_r _ [18, 1, 10, 2, 3, 19, 20, 21, 8, 22, 23, 24, 25, 26, 27, 28, 29, 30, 31, 32, 33, 34, 35, 36, 37, 38, 39, 40, 41, 42, 43, 44, 45, 46, 47, 48, 49, 50, 51, 52, 53, 54, 55, 56, 57, 71, 72, 73, 74, 75, 76, 77] (by decide +kernel) (by decide +kernel)
set_option maxRecDepth 20000 in
theorem gX4_takeIn_X4_cut : GoodIn wsX4_takeIn (wsV RX4 113 RX4 yX4_cut wsX4_cut) := goodIn_app (goodIn_of _ (by decide +kernel)) ggX4_takeIn_X4_cut
set_option maxRecDepth 20000 in
theorem ggX4_takeIn_X4_limited : GoodIn wsX4_takeIn wsX4_limited := goodIn_r _ [53, 54, 55, 56, 29, 57] (by decide +kernel) (by decide +kernel)
set_option maxRecDepth 20000 in
theorem gX4_takeIn_X4_limited : GoodIn wsX4_takeIn (va_wsS RX4 94 yX4_limited wsX4_limited) := goodIn_app (goodIn_of _ (by decide +kernel)) ggX4_takeIn_X4_limited
set_option maxRecDepth 20000 in
theorem ggX4_takeIn_X4_setPiece : GoodIn wsX4_takeIn wsX4_setPiece := goodIn_r _ [43, 2, 3, 71, 72, 73, 74, 75, 76, 77] (by decide +kernel) (by decide +kernel)
set_option maxRecDepth 20000 in
theorem gX4_takeIn_X4_setPiece : GoodIn wsX4_takeIn (wsV RX4 82 RX4 yX4_setPiece wsX4_setPiece) := goodIn_app (goodIn_of _ (by decide +kernel)) ggX4_takeIn_X4_setPiece
set_option maxRecDepth 20000 in
theorem ggX4_takeIn_X4_takeHeavy : GoodIn wsX4_takeIn wsX4_takeHeavy := goodIn_r _ [61, 31, 62, 2, 11, 12, 13, 8, 14, 1, 10, 71, 72, 73, 74, 75, 76, 77] (by decide +kernel) (by decide +kernel)
set_option maxRecDepth 20000 in
theorem gX4_takeIn_X4_takeHeavy : GoodIn wsX4_takeIn (wsV RX4 124 RX4 yX4_takeHeavy wsX4_takeHeavy) := goodIn_app (goodIn_of _ (by decide +kernel)) ggX4_takeIn_X4_takeHeavy
set_option maxRecDepth 20000 in
theorem ggX4_takeIn_X4_leastPair : GoodIn wsX4_takeIn wsX4_leastPair := goodIn_r _ [66, 1, 2, 71, 72, 73, 74, 75, 76, 77] (by decide +kernel) (by decide +kernel)
set_option maxRecDepth 20000 in
theorem gX4_takeIn_X4_leastPair : GoodIn wsX4_takeIn (wsV RX4 104 RX4 yX4_leastPair wsX4_leastPair) := goodIn_app (goodIn_of _ (by decide +kernel)) ggX4_takeIn_X4_leastPair
set_option maxRecDepth 20000 in
theorem ggX4_takeIn_X4_fuse : GoodIn wsX4_takeIn wsX4_fuse := goodIn_r _ [70, 1, 2, 3, 10, 36, 37, 38, 39, 51, 52, 8, 53, 54, 55, 56, 29, 57, 40, 41, 42, 43, 71, 72, 73, 74, 75, 76, 77] (by decide +kernel) (by decide +kernel)
set_option maxRecDepth 20000 in
theorem gX4_takeIn_X4_fuse : GoodIn wsX4_takeIn (wsV RX4 107 RX4 yX4_fuse wsX4_fuse) := goodIn_app (goodIn_of _ (by decide +kernel)) ggX4_takeIn_X4_fuse
theorem dX4_takeIn_0 : decode cX4_takeIn 0 = .ok (.iconst 0, 1) := by decide +kernel
theorem dX4_takeIn_1 : decode cX4_takeIn 1 = .ok (.istore_n 2, 1) := by decide +kernel
theorem dX4_takeIn_2 : decode cX4_takeIn 2 = .ok (.iload_n 2, 1) := by decide +kernel
theorem dX4_takeIn_3 : decode cX4_takeIn 3 = .ok (.bipush 39, 2) := by decide +kernel
theorem dX4_takeIn_5 : decode cX4_takeIn 5 = .ok (.if_icmp .ge 60, 3) := by decide +kernel
theorem dX4_takeIn_8 : decode cX4_takeIn 8 = .ok (.aload_n 0, 1) := by decide +kernel
theorem dX4_takeIn_9 : decode cX4_takeIn 9 = .ok (.iload_n 2, 1) := by decide +kernel
theorem dX4_takeIn_10 : decode cX4_takeIn 10 = .ok (.invokevirtual 120, 3) := by decide +kernel
theorem dX4_takeIn_13 : decode cX4_takeIn 13 = .ok (.istore_n 3, 1) := by decide +kernel
theorem dX4_takeIn_14 : decode cX4_takeIn 14 = .ok (.aload_n 1, 1) := by decide +kernel
theorem dX4_takeIn_15 : decode cX4_takeIn 15 = .ok (.iload_n 2, 1) := by decide +kernel
theorem dX4_takeIn_16 : decode cX4_takeIn 16 = .ok (.invokevirtual 120, 3) := by decide +kernel
theorem dX4_takeIn_19 : decode cX4_takeIn 19 = .ok (.istore 4, 2) := by decide +kernel
theorem dX4_takeIn_21 : decode cX4_takeIn 21 = .ok (.iload 4, 2) := by decide +kernel
theorem dX4_takeIn_23 : decode cX4_takeIn 23 = .ok (.ifCond .eq 17, 3) := by decide +kernel
theorem dX4_takeIn_26 : decode cX4_takeIn 26 = .ok (.iload_n 3, 1) := by decide +kernel
theorem dX4_takeIn_27 : decode cX4_takeIn 27 = .ok (.ifCond .ne 13, 3) := by decide +kernel
theorem dX4_takeIn_30 : decode cX4_takeIn 30 = .ok (.aload_n 0, 1) := by decide +kernel
theorem dX4_takeIn_31 : decode cX4_takeIn 31 = .ok (.aload_n 0, 1) := by decide +kernel
theorem dX4_takeIn_32 : decode cX4_takeIn 32 = .ok (.iload_n 2, 1) := by decide +kernel
theorem dX4_takeIn_33 : decode cX4_takeIn 33 = .ok (.invokevirtual 58, 3) := by decide +kernel
theorem dX4_takeIn_36 : decode cX4_takeIn 36 = .ok (.iload_n 2, 1) := by decide +kernel
theorem dX4_takeIn_37 : decode cX4_takeIn 37 = .ok (.invokevirtual 113, 3) := by decide +kernel
theorem dX4_takeIn_40 : decode cX4_takeIn 40 = .ok (.iload_n 3, 1) := by decide +kernel
theorem dX4_takeIn_41 : decode cX4_takeIn 41 = .ok (.ifCond .eq 18, 3) := by decide +kernel
theorem dX4_takeIn_44 : decode cX4_takeIn 44 = .ok (.iload 4, 2) := by decide +kernel
theorem dX4_takeIn_46 : decode cX4_takeIn 46 = .ok (.ifCond .ne 13, 3) := by decide +kernel
theorem dX4_takeIn_49 : decode cX4_takeIn 49 = .ok (.aload_n 1, 1) := by decide +kernel
theorem dX4_takeIn_50 : decode cX4_takeIn 50 = .ok (.aload_n 1, 1) := by decide +kernel
theorem dX4_takeIn_51 : decode cX4_takeIn 51 = .ok (.iload_n 2, 1) := by decide +kernel
theorem dX4_takeIn_52 : decode cX4_takeIn 52 = .ok (.invokevirtual 58, 3) := by decide +kernel
theorem dX4_takeIn_55 : decode cX4_takeIn 55 = .ok (.iload_n 2, 1) := by decide +kernel
theorem dX4_takeIn_56 : decode cX4_takeIn 56 = .ok (.invokevirtual 113, 3) := by decide +kernel
theorem dX4_takeIn_59 : decode cX4_takeIn 59 = .ok (.iinc 2 1, 3) := by decide +kernel
theorem dX4_takeIn_62 : decode cX4_takeIn 62 = .ok (.goto (-60), 3) := by decide +kernel
theorem dX4_takeIn_65 : decode cX4_takeIn 65 = .ok (.iconst 0, 1) := by decide +kernel
theorem dX4_takeIn_66 : decode cX4_takeIn 66 = .ok (.istore_n 2, 1) := by decide +kernel
theorem dX4_takeIn_67 : decode cX4_takeIn 67 = .ok (.iload_n 2, 1) := by decide +kernel
theorem dX4_takeIn_68 : decode cX4_takeIn 68 = .ok (.aload_n 0, 1) := by decide +kernel
theorem dX4_takeIn_69 : decode cX4_takeIn 69 = .ok (.getfield 28, 3) := by decide +kernel
theorem dX4_takeIn_72 : decode cX4_takeIn 72 = .ok (.if_icmp .ge 51, 3) := by decide +kernel
theorem dX4_takeIn_75 : decode cX4_takeIn 75 = .ok (.iload_n 2, 1) := by decide +kernel
theorem dX4_takeIn_76 : decode cX4_takeIn 76 = .ok (.aload_n 1, 1) := by decide +kernel
theorem dX4_takeIn_77 : decode cX4_takeIn 77 = .ok (.getfield 28, 3) := by decide +kernel
theorem dX4_takeIn_80 : decode cX4_takeIn 80 = .ok (.if_icmp .ge 43, 3) := by decide +kernel
theorem dX4_takeIn_83 : decode cX4_takeIn 83 = .ok (.aload_n 0, 1) := by decide +kernel
theorem dX4_takeIn_84 : decode cX4_takeIn 84 = .ok (.iload_n 2, 1) := by decide +kernel
theorem dX4_takeIn_85 : decode cX4_takeIn 85 = .ok (.aload_n 0, 1) := by decide +kernel
theorem dX4_takeIn_86 : decode cX4_takeIn 86 = .ok (.getfield 15, 3) := by decide +kernel
theorem dX4_takeIn_89 : decode cX4_takeIn 89 = .ok (.iload_n 2, 1) := by decide +kernel
theorem dX4_takeIn_90 : decode cX4_takeIn 90 = .ok (.iaload, 1) := by decide +kernel
theorem dX4_takeIn_91 : decode cX4_takeIn 91 = .ok (.aload_n 1, 1) := by decide +kernel
theorem dX4_takeIn_92 : decode cX4_takeIn 92 = .ok (.getfield 15, 3) := by decide +kernel
theorem dX4_takeIn_95 : decode cX4_takeIn 95 = .ok (.iload_n 2, 1) := by decide +kernel
theorem dX4_takeIn_96 : decode cX4_takeIn 96 = .ok (.iaload, 1) := by decide +kernel
theorem dX4_takeIn_97 : decode cX4_takeIn 97 = .ok (.iadd, 1) := by decide +kernel
theorem dX4_takeIn_98 : decode cX4_takeIn 98 = .ok (.aload_n 0, 1) := by decide +kernel
theorem dX4_takeIn_99 : decode cX4_takeIn 99 = .ok (.getfield 18, 3) := by decide +kernel
theorem dX4_takeIn_102 : decode cX4_takeIn 102 = .ok (.iload_n 2, 1) := by decide +kernel
theorem dX4_takeIn_103 : decode cX4_takeIn 103 = .ok (.iaload, 1) := by decide +kernel
theorem dX4_takeIn_104 : decode cX4_takeIn 104 = .ok (.aload_n 1, 1) := by decide +kernel
theorem dX4_takeIn_105 : decode cX4_takeIn 105 = .ok (.getfield 18, 3) := by decide +kernel
theorem dX4_takeIn_108 : decode cX4_takeIn 108 = .ok (.iload_n 2, 1) := by decide +kernel
theorem dX4_takeIn_109 : decode cX4_takeIn 109 = .ok (.iaload, 1) := by decide +kernel
theorem dX4_takeIn_110 : decode cX4_takeIn 110 = .ok (.iadd, 1) := by decide +kernel
theorem dX4_takeIn_111 : decode cX4_takeIn 111 = .ok (.invokestatic 94, 3) := by decide +kernel
theorem dX4_takeIn_114 : decode cX4_takeIn 114 = .ok (.invokevirtual 82, 3) := by decide +kernel
theorem dX4_takeIn_117 : decode cX4_takeIn 117 = .ok (.iinc 2 1, 3) := by decide +kernel
theorem dX4_takeIn_120 : decode cX4_takeIn 120 = .ok (.goto (-53), 3) := by decide +kernel
theorem dX4_takeIn_123 : decode cX4_takeIn 123 = .ok (.aload_n 0, 1) := by decide +kernel
theorem dX4_takeIn_124 : decode cX4_takeIn 124 = .ok (.aload_n 1, 1) := by decide +kernel
theorem dX4_takeIn_125 : decode cX4_takeIn 125 = .ok (.invokevirtual 124, 3) := by decide +kernel
theorem dX4_takeIn_128 : decode cX4_takeIn 128 = .ok (.aload_n 0, 1) := by decide +kernel
theorem dX4_takeIn_129 : decode cX4_takeIn 129 = .ok (.getfield 28, 3) := by decide +kernel
theorem dX4_takeIn_132 : decode cX4_takeIn 132 = .ok (.bipush 12, 2) := by decide +kernel
theorem dX4_takeIn_134 : decode cX4_takeIn 134 = .ok (.isub, 1) := by decide +kernel
theorem dX4_takeIn_135 : decode cX4_takeIn 135 = .ok (.istore_n 2, 1) := by decide +kernel
theorem dX4_takeIn_136 : decode cX4_takeIn 136 = .ok (.iload_n 2, 1) := by decide +kernel
theorem dX4_takeIn_137 : decode cX4_takeIn 137 = .ok (.ifCond .le 18, 3) := by decide +kernel
theorem dX4_takeIn_140 : decode cX4_takeIn 140 = .ok (.aload_n 0, 1) := by decide +kernel
theorem dX4_takeIn_141 : decode cX4_takeIn 141 = .ok (.aload_n 0, 1) := by decide +kernel
theorem dX4_takeIn_142 : decode cX4_takeIn 142 = .ok (.iconst (-1), 1) := by decide +kernel
theorem dX4_takeIn_143 : decode cX4_takeIn 143 = .ok (.invokevirtual 104, 3) := by decide +kernel
theorem dX4_takeIn_146 : decode cX4_takeIn 146 = .ok (.invokevirtual 107, 3) := by decide +kernel
theorem dX4_takeIn_149 : decode cX4_takeIn 149 = .ok (.iinc 2 (-1), 3) := by decide +kernel
theorem dX4_takeIn_152 : decode cX4_takeIn 152 = .ok (.goto (-16), 3) := by decide +kernel
theorem dX4_takeIn_155 : decode cX4_takeIn 155 = .ok (.aload_n 0, 1) := by decide +kernel
theorem dX4_takeIn_156 : decode cX4_takeIn 156 = .ok (.iconst 0, 1) := by decide +kernel
theorem dX4_takeIn_157 : decode cX4_takeIn 157 = .ok (.putfield 36, 3) := by decide +kernel
theorem dX4_takeIn_160 : decode cX4_takeIn 160 = .ok (.return_, 1) := by decide +kernel
set_option maxRecDepth 20000 in
theorem ggX4_takeHeavy_X4_spanOf : GoodIn wsX4_takeHeavy wsX4_spanOf := goodIn_r _ [8, 9, 10, 11, 12, 13, 14, 15, 16, 17] (by decide +kernel) (by decide +kernel)
set_option maxRecDepth 20000 in
theorem gX4_takeHeavy_X4_spanOf : GoodIn wsX4_takeHeavy (wsV RX4 58 RX4 yX4_spanOf wsX4_spanOf) := goodIn_app (goodIn_of _ (by decide +kernel)) ggX4_takeHeavy_X4_spanOf
theorem dX4_takeHeavy_0 : decode cX4_takeHeavy 0 = .ok (.iconst 0, 1) := by decide +kernel
theorem dX4_takeHeavy_1 : decode cX4_takeHeavy 1 = .ok (.istore_n 2, 1) := by decide +kernel
theorem dX4_takeHeavy_2 : decode cX4_takeHeavy 2 = .ok (.iload_n 2, 1) := by decide +kernel
theorem dX4_takeHeavy_3 : decode cX4_takeHeavy 3 = .ok (.bipush 40, 2) := by decide +kernel
theorem dX4_takeHeavy_5 : decode cX4_takeHeavy 5 = .ok (.if_icmp .ge 73, 3) := by decide +kernel
theorem dX4_takeHeavy_8 : decode cX4_takeHeavy 8 = .ok (.aload_n 1, 1) := by decide +kernel
theorem dX4_takeHeavy_9 : decode cX4_takeHeavy 9 = .ok (.getfield 21, 3) := by decide +kernel
theorem dX4_takeHeavy_12 : decode cX4_takeHeavy 12 = .ok (.iload_n 2, 1) := by decide +kernel
theorem dX4_takeHeavy_13 : decode cX4_takeHeavy 13 = .ok (.baload, 1) := by decide +kernel
theorem dX4_takeHeavy_14 : decode cX4_takeHeavy 14 = .ok (.ifCond .eq 30, 3) := by decide +kernel
theorem dX4_takeHeavy_17 : decode cX4_takeHeavy 17 = .ok (.aload_n 0, 1) := by decide +kernel
theorem dX4_takeHeavy_18 : decode cX4_takeHeavy 18 = .ok (.getfield 21, 3) := by decide +kernel
theorem dX4_takeHeavy_21 : decode cX4_takeHeavy 21 = .ok (.iload_n 2, 1) := by decide +kernel
theorem dX4_takeHeavy_22 : decode cX4_takeHeavy 22 = .ok (.baload, 1) := by decide +kernel
theorem dX4_takeHeavy_23 : decode cX4_takeHeavy 23 = .ok (.ifCond .eq 21, 3) := by decide +kernel
theorem dX4_takeHeavy_26 : decode cX4_takeHeavy 26 = .ok (.aload_n 0, 1) := by decide +kernel
theorem dX4_takeHeavy_27 : decode cX4_takeHeavy 27 = .ok (.getfield 25, 3) := by decide +kernel
theorem dX4_takeHeavy_30 : decode cX4_takeHeavy 30 = .ok (.iload_n 2, 1) := by decide +kernel
theorem dX4_takeHeavy_31 : decode cX4_takeHeavy 31 = .ok (.dup2, 1) := by decide +kernel
theorem dX4_takeHeavy_32 : decode cX4_takeHeavy 32 = .ok (.iaload, 1) := by decide +kernel
theorem dX4_takeHeavy_33 : decode cX4_takeHeavy 33 = .ok (.aload_n 1, 1) := by decide +kernel
theorem dX4_takeHeavy_34 : decode cX4_takeHeavy 34 = .ok (.getfield 25, 3) := by decide +kernel
theorem dX4_takeHeavy_37 : decode cX4_takeHeavy 37 = .ok (.iload_n 2, 1) := by decide +kernel
theorem dX4_takeHeavy_38 : decode cX4_takeHeavy 38 = .ok (.iaload, 1) := by decide +kernel
theorem dX4_takeHeavy_39 : decode cX4_takeHeavy 39 = .ok (.iadd, 1) := by decide +kernel
theorem dX4_takeHeavy_40 : decode cX4_takeHeavy 40 = .ok (.iastore, 1) := by decide +kernel
theorem dX4_takeHeavy_41 : decode cX4_takeHeavy 41 = .ok (.goto 31, 3) := by decide +kernel
theorem dX4_takeHeavy_44 : decode cX4_takeHeavy 44 = .ok (.aload_n 1, 1) := by decide +kernel
theorem dX4_takeHeavy_45 : decode cX4_takeHeavy 45 = .ok (.getfield 21, 3) := by decide +kernel
theorem dX4_takeHeavy_48 : decode cX4_takeHeavy 48 = .ok (.iload_n 2, 1) := by decide +kernel
theorem dX4_takeHeavy_49 : decode cX4_takeHeavy 49 = .ok (.baload, 1) := by decide +kernel
theorem dX4_takeHeavy_50 : decode cX4_takeHeavy 50 = .ok (.ifCond .eq 22, 3) := by decide +kernel
theorem dX4_takeHeavy_53 : decode cX4_takeHeavy 53 = .ok (.aload_n 0, 1) := by decide +kernel
theorem dX4_takeHeavy_54 : decode cX4_takeHeavy 54 = .ok (.getfield 15, 3) := by decide +kernel
theorem dX4_takeHeavy_57 : decode cX4_takeHeavy 57 = .ok (.aload_n 0, 1) := by decide +kernel
theorem dX4_takeHeavy_58 : decode cX4_takeHeavy 58 = .ok (.iload_n 2, 1) := by decide +kernel
theorem dX4_takeHeavy_59 : decode cX4_takeHeavy 59 = .ok (.invokevirtual 58, 3) := by decide +kernel
theorem dX4_takeHeavy_62 : decode cX4_takeHeavy 62 = .ok (.dup2, 1) := by decide +kernel
theorem dX4_takeHeavy_63 : decode cX4_takeHeavy 63 = .ok (.iaload, 1) := by decide +kernel
theorem dX4_takeHeavy_64 : decode cX4_takeHeavy 64 = .ok (.aload_n 1, 1) := by decide +kernel
theorem dX4_takeHeavy_65 : decode cX4_takeHeavy 65 = .ok (.getfield 25, 3) := by decide +kernel
theorem dX4_takeHeavy_68 : decode cX4_takeHeavy 68 = .ok (.iload_n 2, 1) := by decide +kernel
theorem dX4_takeHeavy_69 : decode cX4_takeHeavy 69 = .ok (.iaload, 1) := by decide +kernel
theorem dX4_takeHeavy_70 : decode cX4_takeHeavy 70 = .ok (.iadd, 1) := by decide +kernel
theorem dX4_takeHeavy_71 : decode cX4_takeHeavy 71 = .ok (.iastore, 1) := by decide +kernel
theorem dX4_takeHeavy_72 : decode cX4_takeHeavy 72 = .ok (.iinc 2 1, 3) := by decide +kernel
theorem dX4_takeHeavy_75 : decode cX4_takeHeavy 75 = .ok (.goto (-73), 3) := by decide +kernel
theorem dX4_takeHeavy_78 : decode cX4_takeHeavy 78 = .ok (.return_, 1) := by decide +kernel
set_option maxRecDepth 20000 in
theorem ggX4_askedOf_X4_firstOf : GoodIn wsX4_askedOf wsX4_firstOf := goodIn_r _ [13, 5, 19, 20, 21, 22, 23, 24, 25] (by decide +kernel) (by decide +kernel)
set_option maxRecDepth 20000 in
theorem gX4_askedOf_X4_firstOf : GoodIn wsX4_askedOf (wsV RX4 39 RX4 yX4_firstOf wsX4_firstOf) := goodIn_app (goodIn_of _ (by decide +kernel)) ggX4_askedOf_X4_firstOf
set_option maxRecDepth 20000 in
theorem ggX4_askedOf_X4_plainBetween : GoodIn wsX4_askedOf wsX4_plainBetween := goodIn_r _ [17, 1, 2, 3, 4, 18, 19, 20, 21, 22, 23, 24, 25] (by decide +kernel) (by decide +kernel)
set_option maxRecDepth 20000 in
theorem gX4_askedOf_X4_plainBetween : GoodIn wsX4_askedOf (wsV RX4 61 RX4 yX4_plainBetween wsX4_plainBetween) := goodIn_app (goodIn_of _ (by decide +kernel)) ggX4_askedOf_X4_plainBetween
theorem dX4_askedOf_0 : decode cX4_askedOf 0 = .ok (.aload_n 0, 1) := by decide +kernel
theorem dX4_askedOf_1 : decode cX4_askedOf 1 = .ok (.aload_n 0, 1) := by decide +kernel
theorem dX4_askedOf_2 : decode cX4_askedOf 2 = .ok (.iload_n 1, 1) := by decide +kernel
theorem dX4_askedOf_3 : decode cX4_askedOf 3 = .ok (.invokevirtual 39, 3) := by decide +kernel
theorem dX4_askedOf_6 : decode cX4_askedOf 6 = .ok (.iload_n 2, 1) := by decide +kernel
theorem dX4_askedOf_7 : decode cX4_askedOf 7 = .ok (.invokestatic 65, 3) := by decide +kernel
theorem dX4_askedOf_10 : decode cX4_askedOf 10 = .ok (.aload_n 0, 1) := by decide +kernel
theorem dX4_askedOf_11 : decode cX4_askedOf 11 = .ok (.getfield 9, 3) := by decide +kernel
theorem dX4_askedOf_14 : decode cX4_askedOf 14 = .ok (.iload_n 1, 1) := by decide +kernel
theorem dX4_askedOf_15 : decode cX4_askedOf 15 = .ok (.iaload, 1) := by decide +kernel
theorem dX4_askedOf_16 : decode cX4_askedOf 16 = .ok (.iload_n 3, 1) := by decide +kernel
theorem dX4_askedOf_17 : decode cX4_askedOf 17 = .ok (.invokestatic 98, 3) := by decide +kernel
theorem dX4_askedOf_20 : decode cX4_askedOf 20 = .ok (.invokevirtual 61, 3) := by decide +kernel
theorem dX4_askedOf_23 : decode cX4_askedOf 23 = .ok (.ireturn, 1) := by decide +kernel
set_option maxRecDepth 20000 in
theorem ggX4_guessInto_X4_heavyBetween : GoodIn wsX4_guessInto wsX4_heavyBetween := goodIn_r _ [7, 8, 9, 10, 11, 12, 13, 55, 56, 57, 58, 59, 60, 61] (by decide +kernel) (by decide +kernel)
set_option maxRecDepth 20000 in
theorem gX4_guessInto_X4_heavyBetween : GoodIn wsX4_guessInto (wsV RX4 75 RX4 yX4_heavyBetween wsX4_heavyBetween) := goodIn_app (goodIn_of _ (by decide +kernel)) ggX4_guessInto_X4_heavyBetween
set_option maxRecDepth 20000 in
theorem ggX4_guessInto_X1_set : GoodIn wsX4_guessInto wsX1_set := goodIn_r _ [18, 19, 20, 21, 22, 17, 23, 24, 25, 10, 26, 27, 28, 29, 62, 63] (by decide +kernel) (by decide +kernel)
set_option maxRecDepth 20000 in
theorem gX4_guessInto_X1_set : GoodIn wsX4_guessInto (wsV RX4 128 RX1 yX1_set wsX1_set) := goodIn_app (goodIn_of _ (by decide +kernel)) ggX4_guessInto_X1_set
set_option maxRecDepth 20000 in
theorem ggX4_guessInto_X4_askedOf : GoodIn wsX4_guessInto wsX4_askedOf := goodIn_r _ [33, 8, 9, 10, 11, 34, 35, 36, 37, 38, 39, 40, 6, 41, 42, 43, 44, 45, 12, 55, 56, 57, 58, 59, 60, 61] (by decide +kernel) (by decide +kernel)
set_option maxRecDepth 20000 in
theorem gX4_guessInto_X4_askedOf : GoodIn wsX4_guessInto (wsV RX4 134 RX4 yX4_askedOf wsX4_askedOf) := goodIn_app (goodIn_of _ (by decide +kernel)) ggX4_guessInto_X4_askedOf
set_option maxRecDepth 20000 in
theorem ggX4_guessInto_X4_longOf : GoodIn wsX4_guessInto wsX4_longOf := goodIn_r _ [49, 34, 38, 39, 40, 6, 41, 42, 43, 44, 45, 8, 9, 10, 11, 12, 55, 56, 57, 58, 59, 60, 61] (by decide +kernel) (by decide +kernel)
set_option maxRecDepth 20000 in
theorem gX4_guessInto_X4_longOf : GoodIn wsX4_guessInto (wsV RX4 117 RX4 yX4_longOf wsX4_longOf) := goodIn_app (goodIn_of _ (by decide +kernel)) ggX4_guessInto_X4_longOf
set_option maxRecDepth 20000 in
theorem ggX4_guessInto_X1_add : GoodIn wsX4_guessInto wsX1_add := goodIn_r _ [53, 20, 19, 21, 22, 17, 23, 24, 25, 10, 26, 27, 28, 29, 54, 15, 16, 18, 62, 63] (by decide +kernel) (by decide +kernel)
set_option maxRecDepth 20000 in
theorem gX4_guessInto_X1_add : GoodIn wsX4_guessInto (wsV RX4 137 RX1 yX1_add wsX1_add) := goodIn_app (goodIn_of _ (by decide +kernel)) ggX4_guessInto_X1_add
theorem dX4_guessInto_0 : decode cX4_guessInto 0 = .ok (.aload_n 1, 1) := by decide +kernel
theorem dX4_guessInto_1 : decode cX4_guessInto 1 = .ok (.aload_n 0, 1) := by decide +kernel
theorem dX4_guessInto_2 : decode cX4_guessInto 2 = .ok (.iload_n 2, 1) := by decide +kernel
theorem dX4_guessInto_3 : decode cX4_guessInto 3 = .ok (.iload_n 3, 1) := by decide +kernel
theorem dX4_guessInto_4 : decode cX4_guessInto 4 = .ok (.invokevirtual 75, 3) := by decide +kernel
theorem dX4_guessInto_7 : decode cX4_guessInto 7 = .ok (.i2l, 1) := by decide +kernel
theorem dX4_guessInto_8 : decode cX4_guessInto 8 = .ok (.lconst 1, 1) := by decide +kernel
theorem dX4_guessInto_9 : decode cX4_guessInto 9 = .ok (.invokevirtual 128, 3) := by decide +kernel
theorem dX4_guessInto_12 : decode cX4_guessInto 12 = .ok (.iconst 0, 1) := by decide +kernel
theorem dX4_guessInto_13 : decode cX4_guessInto 13 = .ok (.istore 4, 2) := by decide +kernel
theorem dX4_guessInto_15 : decode cX4_guessInto 15 = .ok (.iload 4, 2) := by decide +kernel
theorem dX4_guessInto_17 : decode cX4_guessInto 17 = .ok (.aload_n 0, 1) := by decide +kernel
theorem dX4_guessInto_18 : decode cX4_guessInto 18 = .ok (.getfield 28, 3) := by decide +kernel
theorem dX4_guessInto_21 : decode cX4_guessInto 21 = .ok (.if_icmp .ge 47, 3) := by decide +kernel
theorem dX4_guessInto_24 : decode cX4_guessInto 24 = .ok (.aload_n 0, 1) := by decide +kernel
theorem dX4_guessInto_25 : decode cX4_guessInto 25 = .ok (.iload 4, 2) := by decide +kernel
theorem dX4_guessInto_27 : decode cX4_guessInto 27 = .ok (.iload_n 2, 1) := by decide +kernel
theorem dX4_guessInto_28 : decode cX4_guessInto 28 = .ok (.iload_n 3, 1) := by decide +kernel
theorem dX4_guessInto_29 : decode cX4_guessInto 29 = .ok (.invokevirtual 134, 3) := by decide +kernel
theorem dX4_guessInto_32 : decode cX4_guessInto 32 = .ok (.istore 5, 2) := by decide +kernel
theorem dX4_guessInto_34 : decode cX4_guessInto 34 = .ok (.iload 5, 2) := by decide +kernel
theorem dX4_guessInto_36 : decode cX4_guessInto 36 = .ok (.ifCond .le 26, 3) := by decide +kernel
theorem dX4_guessInto_39 : decode cX4_guessInto 39 = .ok (.aload_n 1, 1) := by decide +kernel
theorem dX4_guessInto_40 : decode cX4_guessInto 40 = .ok (.aload_n 0, 1) := by decide +kernel
theorem dX4_guessInto_41 : decode cX4_guessInto 41 = .ok (.getfield 15, 3) := by decide +kernel
theorem dX4_guessInto_44 : decode cX4_guessInto 44 = .ok (.iload 4, 2) := by decide +kernel
theorem dX4_guessInto_46 : decode cX4_guessInto 46 = .ok (.iaload, 1) := by decide +kernel
theorem dX4_guessInto_47 : decode cX4_guessInto 47 = .ok (.i2l, 1) := by decide +kernel
theorem dX4_guessInto_48 : decode cX4_guessInto 48 = .ok (.iload 5, 2) := by decide +kernel
theorem dX4_guessInto_50 : decode cX4_guessInto 50 = .ok (.i2l, 1) := by decide +kernel
theorem dX4_guessInto_51 : decode cX4_guessInto 51 = .ok (.lmul, 1) := by decide +kernel
theorem dX4_guessInto_52 : decode cX4_guessInto 52 = .ok (.aload_n 0, 1) := by decide +kernel
theorem dX4_guessInto_53 : decode cX4_guessInto 53 = .ok (.iload 4, 2) := by decide +kernel
theorem dX4_guessInto_55 : decode cX4_guessInto 55 = .ok (.invokevirtual 117, 3) := by decide +kernel
theorem dX4_guessInto_58 : decode cX4_guessInto 58 = .ok (.i2l, 1) := by decide +kernel
theorem dX4_guessInto_59 : decode cX4_guessInto 59 = .ok (.invokevirtual 137, 3) := by decide +kernel
theorem dX4_guessInto_62 : decode cX4_guessInto 62 = .ok (.iinc 4 1, 3) := by decide +kernel
theorem dX4_guessInto_65 : decode cX4_guessInto 65 = .ok (.goto (-50), 3) := by decide +kernel
theorem dX4_guessInto_68 : decode cX4_guessInto 68 = .ok (.return_, 1) := by decide +kernel
set_option maxRecDepth 20000 in
theorem ggX4_lowOf_X4_heavyBetween : GoodIn wsX4_lowOf wsX4_heavyBetween := goodIn_r _ [12, 4, 5, 6, 7, 13, 14, 35, 36, 37, 38, 39, 40, 41] (by decide +kernel) (by decide +kernel)
set_option maxRecDepth 20000 in
theorem gX4_lowOf_X4_heavyBetween : GoodIn wsX4_lowOf (wsV RX4 75 RX4 yX4_heavyBetween wsX4_heavyBetween) := goodIn_app (goodIn_of _ (by decide +kernel)) ggX4_lowOf_X4_heavyBetween
set_option maxRecDepth 20000 in
theorem ggX4_lowOf_X4_askedOf : GoodIn wsX4_lowOf wsX4_askedOf := goodIn_r _ [18, 4, 5, 6, 7, 19, 20, 21, 22, 23, 24, 25, 11, 26, 27, 28, 29, 30, 13, 35, 36, 37, 38, 39, 40, 41] (by decide +kernel) (by decide +kernel)
set_option maxRecDepth 20000 in
theorem gX4_lowOf_X4_askedOf : GoodIn wsX4_lowOf (wsV RX4 134 RX4 yX4_askedOf wsX4_askedOf) := goodIn_app (goodIn_of _ (by decide +kernel)) ggX4_lowOf_X4_askedOf
set_option maxRecDepth 20000 in
theorem ggX4_lowOf_X4_longOf : GoodIn wsX4_lowOf wsX4_longOf := goodIn_r _ [34, 19, 23, 24, 25, 11, 26, 27, 28, 29, 30, 4, 5, 6, 7, 13, 35, 36, 37, 38, 39, 40, 41] (by decide +kernel) (by decide +kernel)
set_option maxRecDepth 20000 in
theorem gX4_lowOf_X4_longOf : GoodIn wsX4_lowOf (wsV RX4 117 RX4 yX4_longOf wsX4_longOf) := goodIn_app (goodIn_of _ (by decide +kernel)) ggX4_lowOf_X4_longOf
theorem dX4_lowOf_0 : decode cX4_lowOf 0 = .ok (.aload_n 0, 1) := by decide +kernel
theorem dX4_lowOf_1 : decode cX4_lowOf 1 = .ok (.iload_n 1, 1) := by decide +kernel
theorem dX4_lowOf_2 : decode cX4_lowOf 2 = .ok (.iload_n 2, 1) := by decide +kernel
theorem dX4_lowOf_3 : decode cX4_lowOf 3 = .ok (.invokevirtual 75, 3) := by decide +kernel
theorem dX4_lowOf_6 : decode cX4_lowOf 6 = .ok (.istore_n 3, 1) := by decide +kernel
theorem dX4_lowOf_7 : decode cX4_lowOf 7 = .ok (.iconst 0, 1) := by decide +kernel
theorem dX4_lowOf_8 : decode cX4_lowOf 8 = .ok (.istore 4, 2) := by decide +kernel
theorem dX4_lowOf_10 : decode cX4_lowOf 10 = .ok (.iload 4, 2) := by decide +kernel
theorem dX4_lowOf_12 : decode cX4_lowOf 12 = .ok (.aload_n 0, 1) := by decide +kernel
theorem dX4_lowOf_13 : decode cX4_lowOf 13 = .ok (.getfield 28, 3) := by decide +kernel
theorem dX4_lowOf_16 : decode cX4_lowOf 16 = .ok (.if_icmp .ge 57, 3) := by decide +kernel
theorem dX4_lowOf_19 : decode cX4_lowOf 19 = .ok (.aload_n 0, 1) := by decide +kernel
theorem dX4_lowOf_20 : decode cX4_lowOf 20 = .ok (.iload 4, 2) := by decide +kernel
theorem dX4_lowOf_22 : decode cX4_lowOf 22 = .ok (.iload_n 1, 1) := by decide +kernel
theorem dX4_lowOf_23 : decode cX4_lowOf 23 = .ok (.iload_n 2, 1) := by decide +kernel
theorem dX4_lowOf_24 : decode cX4_lowOf 24 = .ok (.invokevirtual 134, 3) := by decide +kernel
theorem dX4_lowOf_27 : decode cX4_lowOf 27 = .ok (.istore 5, 2) := by decide +kernel
theorem dX4_lowOf_29 : decode cX4_lowOf 29 = .ok (.iload 5, 2) := by decide +kernel
theorem dX4_lowOf_31 : decode cX4_lowOf 31 = .ok (.ifCond .le 36, 3) := by decide +kernel
theorem dX4_lowOf_34 : decode cX4_lowOf 34 = .ok (.iload 5, 2) := by decide +kernel
theorem dX4_lowOf_36 : decode cX4_lowOf 36 = .ok (.aload_n 0, 1) := by decide +kernel
theorem dX4_lowOf_37 : decode cX4_lowOf 37 = .ok (.iload 4, 2) := by decide +kernel
theorem dX4_lowOf_39 : decode cX4_lowOf 39 = .ok (.invokevirtual 117, 3) := by decide +kernel
theorem dX4_lowOf_42 : decode cX4_lowOf 42 = .ok (.if_icmp .ne 25, 3) := by decide +kernel
theorem dX4_lowOf_45 : decode cX4_lowOf 45 = .ok (.iload_n 3, 1) := by decide +kernel
theorem dX4_lowOf_46 : decode cX4_lowOf 46 = .ok (.iconst 0, 1) := by decide +kernel
theorem dX4_lowOf_47 : decode cX4_lowOf 47 = .ok (.aload_n 0, 1) := by decide +kernel
theorem dX4_lowOf_48 : decode cX4_lowOf 48 = .ok (.getfield 15, 3) := by decide +kernel
theorem dX4_lowOf_51 : decode cX4_lowOf 51 = .ok (.iload 4, 2) := by decide +kernel
theorem dX4_lowOf_53 : decode cX4_lowOf 53 = .ok (.iaload, 1) := by decide +kernel
theorem dX4_lowOf_54 : decode cX4_lowOf 54 = .ok (.aload_n 0, 1) := by decide +kernel
theorem dX4_lowOf_55 : decode cX4_lowOf 55 = .ok (.getfield 18, 3) := by decide +kernel
theorem dX4_lowOf_58 : decode cX4_lowOf 58 = .ok (.iload 4, 2) := by decide +kernel
theorem dX4_lowOf_60 : decode cX4_lowOf 60 = .ok (.iaload, 1) := by decide +kernel
theorem dX4_lowOf_61 : decode cX4_lowOf 61 = .ok (.isub, 1) := by decide +kernel
theorem dX4_lowOf_62 : decode cX4_lowOf 62 = .ok (.invokestatic 65, 3) := by decide +kernel
theorem dX4_lowOf_65 : decode cX4_lowOf 65 = .ok (.iadd, 1) := by decide +kernel
theorem dX4_lowOf_66 : decode cX4_lowOf 66 = .ok (.istore_n 3, 1) := by decide +kernel
theorem dX4_lowOf_67 : decode cX4_lowOf 67 = .ok (.iinc 4 1, 3) := by decide +kernel
theorem dX4_lowOf_70 : decode cX4_lowOf 70 = .ok (.goto (-60), 3) := by decide +kernel
theorem dX4_lowOf_73 : decode cX4_lowOf 73 = .ok (.iload_n 3, 1) := by decide +kernel
theorem dX4_lowOf_74 : decode cX4_lowOf 74 = .ok (.ireturn, 1) := by decide +kernel
set_option maxRecDepth 20000 in
theorem ggX4_highOf_X4_heavyBetween : GoodIn wsX4_highOf wsX4_heavyBetween := goodIn_r _ [12, 4, 5, 6, 7, 13, 14, 31, 32, 33, 34, 35, 36, 37] (by decide +kernel) (by decide +kernel)
set_option maxRecDepth 20000 in
theorem gX4_highOf_X4_heavyBetween : GoodIn wsX4_highOf (wsV RX4 75 RX4 yX4_heavyBetween wsX4_heavyBetween) := goodIn_app (goodIn_of _ (by decide +kernel)) ggX4_highOf_X4_heavyBetween
set_option maxRecDepth 20000 in
theorem ggX4_highOf_X4_askedOf : GoodIn wsX4_highOf wsX4_askedOf := goodIn_r _ [18, 4, 5, 6, 7, 19, 20, 21, 22, 23, 24, 25, 11, 26, 27, 28, 29, 30, 13, 31, 32, 33, 34, 35, 36, 37] (by decide +kernel) (by decide +kernel)
set_option maxRecDepth 20000 in
theorem gX4_highOf_X4_askedOf : GoodIn wsX4_highOf (wsV RX4 134 RX4 yX4_askedOf wsX4_askedOf) := goodIn_app (goodIn_of _ (by decide +kernel)) ggX4_highOf_X4_askedOf
theorem dX4_highOf_0 : decode cX4_highOf 0 = .ok (.aload_n 0, 1) := by decide +kernel
theorem dX4_highOf_1 : decode cX4_highOf 1 = .ok (.iload_n 1, 1) := by decide +kernel
theorem dX4_highOf_2 : decode cX4_highOf 2 = .ok (.iload_n 2, 1) := by decide +kernel
theorem dX4_highOf_3 : decode cX4_highOf 3 = .ok (.invokevirtual 75, 3) := by decide +kernel
theorem dX4_highOf_6 : decode cX4_highOf 6 = .ok (.istore_n 3, 1) := by decide +kernel
theorem dX4_highOf_7 : decode cX4_highOf 7 = .ok (.iconst 0, 1) := by decide +kernel
theorem dX4_highOf_8 : decode cX4_highOf 8 = .ok (.istore 4, 2) := by decide +kernel
theorem dX4_highOf_10 : decode cX4_highOf 10 = .ok (.iload 4, 2) := by decide +kernel
theorem dX4_highOf_12 : decode cX4_highOf 12 = .ok (.aload_n 0, 1) := by decide +kernel
theorem dX4_highOf_13 : decode cX4_highOf 13 = .ok (.getfield 28, 3) := by decide +kernel
theorem dX4_highOf_16 : decode cX4_highOf 16 = .ok (.if_icmp .ge 42, 3) := by decide +kernel
theorem dX4_highOf_19 : decode cX4_highOf 19 = .ok (.aload_n 0, 1) := by decide +kernel
theorem dX4_highOf_20 : decode cX4_highOf 20 = .ok (.iload 4, 2) := by decide +kernel
theorem dX4_highOf_22 : decode cX4_highOf 22 = .ok (.iload_n 1, 1) := by decide +kernel
theorem dX4_highOf_23 : decode cX4_highOf 23 = .ok (.iload_n 2, 1) := by decide +kernel
theorem dX4_highOf_24 : decode cX4_highOf 24 = .ok (.invokevirtual 134, 3) := by decide +kernel
theorem dX4_highOf_27 : decode cX4_highOf 27 = .ok (.ifCond .le 25, 3) := by decide +kernel
theorem dX4_highOf_30 : decode cX4_highOf 30 = .ok (.iload_n 3, 1) := by decide +kernel
theorem dX4_highOf_31 : decode cX4_highOf 31 = .ok (.iconst 0, 1) := by decide +kernel
theorem dX4_highOf_32 : decode cX4_highOf 32 = .ok (.aload_n 0, 1) := by decide +kernel
theorem dX4_highOf_33 : decode cX4_highOf 33 = .ok (.getfield 15, 3) := by decide +kernel
theorem dX4_highOf_36 : decode cX4_highOf 36 = .ok (.iload 4, 2) := by decide +kernel
theorem dX4_highOf_38 : decode cX4_highOf 38 = .ok (.iaload, 1) := by decide +kernel
theorem dX4_highOf_39 : decode cX4_highOf 39 = .ok (.aload_n 0, 1) := by decide +kernel
theorem dX4_highOf_40 : decode cX4_highOf 40 = .ok (.getfield 18, 3) := by decide +kernel
theorem dX4_highOf_43 : decode cX4_highOf 43 = .ok (.iload 4, 2) := by decide +kernel
theorem dX4_highOf_45 : decode cX4_highOf 45 = .ok (.iaload, 1) := by decide +kernel
theorem dX4_highOf_46 : decode cX4_highOf 46 = .ok (.iadd, 1) := by decide +kernel
theorem dX4_highOf_47 : decode cX4_highOf 47 = .ok (.invokestatic 65, 3) := by decide +kernel
theorem dX4_highOf_50 : decode cX4_highOf 50 = .ok (.iadd, 1) := by decide +kernel
theorem dX4_highOf_51 : decode cX4_highOf 51 = .ok (.istore_n 3, 1) := by decide +kernel
theorem dX4_highOf_52 : decode cX4_highOf 52 = .ok (.iinc 4 1, 3) := by decide +kernel
theorem dX4_highOf_55 : decode cX4_highOf 55 = .ok (.goto (-45), 3) := by decide +kernel
theorem dX4_highOf_58 : decode cX4_highOf 58 = .ok (.iload_n 3, 1) := by decide +kernel
theorem dX4_highOf_59 : decode cX4_highOf 59 = .ok (.ireturn, 1) := by decide +kernel
set_option maxRecDepth 20000 in
theorem ggX4_joinInto_X1_set : GoodIn wsX4_joinInto wsX1_set := goodIn_r _ [5, 6, 7, 8, 9, 4, 10, 11, 12, 13, 14, 15, 16, 17, 56, 57] (by decide +kernel) (by decide +kernel)
set_option maxRecDepth 20000 in
theorem gX4_joinInto_X1_set : GoodIn wsX4_joinInto (wsV RX4 128 RX1 yX1_set wsX1_set) := goodIn_app (goodIn_of _ (by decide +kernel)) ggX4_joinInto_X1_set
set_option maxRecDepth 20000 in
theorem ggX4_joinInto_X4_shareTop : GoodIn wsX4_joinInto wsX4_shareTop := goodIn_r _ [22, 23, 24, 25, 26, 27, 28, 21, 29, 30, 31, 58, 59, 60, 61, 62, 63, 64] (by decide +kernel) (by decide +kernel)
set_option maxRecDepth 20000 in
theorem gX4_joinInto_X4_shareTop : GoodIn wsX4_joinInto (wsV RX4 140 RX4 yX4_shareTop wsX4_shareTop) := goodIn_app (goodIn_of _ (by decide +kernel)) ggX4_joinInto_X4_shareTop
set_option maxRecDepth 20000 in
theorem ggX4_joinInto_X4_shareBottom : GoodIn wsX4_joinInto wsX4_shareBottom := goodIn_r _ [35, 23, 26, 27, 28, 21, 29, 30, 31, 36, 37, 38, 39, 40, 41, 42, 43, 44, 45, 46, 47, 48, 49, 13, 50, 58, 59, 60, 61, 62, 63, 64] (by decide +kernel) (by decide +kernel)
set_option maxRecDepth 20000 in
theorem gX4_joinInto_X4_shareBottom : GoodIn wsX4_joinInto (wsV RX4 144 RX4 yX4_shareBottom wsX4_shareBottom) := goodIn_app (goodIn_of _ (by decide +kernel)) ggX4_joinInto_X4_shareBottom
set_option maxRecDepth 20000 in
theorem ggX4_joinInto_X1_add : GoodIn wsX4_joinInto wsX1_add := goodIn_r _ [54, 7, 6, 8, 9, 4, 10, 11, 12, 13, 14, 15, 16, 17, 55, 2, 3, 5, 56, 57] (by decide +kernel) (by decide +kernel)
set_option maxRecDepth 20000 in
theorem gX4_joinInto_X1_add : GoodIn wsX4_joinInto (wsV RX4 137 RX1 yX1_add wsX1_add) := goodIn_app (goodIn_of _ (by decide +kernel)) ggX4_joinInto_X1_add
theorem dX4_joinInto_0 : decode cX4_joinInto 0 = .ok (.aload_n 1, 1) := by decide +kernel
theorem dX4_joinInto_1 : decode cX4_joinInto 1 = .ok (.lconst 0, 1) := by decide +kernel
theorem dX4_joinInto_2 : decode cX4_joinInto 2 = .ok (.lconst 1, 1) := by decide +kernel
theorem dX4_joinInto_3 : decode cX4_joinInto 3 = .ok (.invokevirtual 128, 3) := by decide +kernel
theorem dX4_joinInto_6 : decode cX4_joinInto 6 = .ok (.iconst 0, 1) := by decide +kernel
theorem dX4_joinInto_7 : decode cX4_joinInto 7 = .ok (.istore_n 3, 1) := by decide +kernel
theorem dX4_joinInto_8 : decode cX4_joinInto 8 = .ok (.iload_n 3, 1) := by decide +kernel
theorem dX4_joinInto_9 : decode cX4_joinInto 9 = .ok (.bipush 40, 2) := by decide +kernel
theorem dX4_joinInto_11 : decode cX4_joinInto 11 = .ok (.if_icmp .ge 35, 3) := by decide +kernel
theorem dX4_joinInto_14 : decode cX4_joinInto 14 = .ok (.aload_n 1, 1) := by decide +kernel
theorem dX4_joinInto_15 : decode cX4_joinInto 15 = .ok (.aload_n 0, 1) := by decide +kernel
theorem dX4_joinInto_16 : decode cX4_joinInto 16 = .ok (.iload_n 3, 1) := by decide +kernel
theorem dX4_joinInto_17 : decode cX4_joinInto 17 = .ok (.invokevirtual 140, 3) := by decide +kernel
theorem dX4_joinInto_20 : decode cX4_joinInto 20 = .ok (.aload_n 2, 1) := by decide +kernel
theorem dX4_joinInto_21 : decode cX4_joinInto 21 = .ok (.iload_n 3, 1) := by decide +kernel
theorem dX4_joinInto_22 : decode cX4_joinInto 22 = .ok (.invokevirtual 140, 3) := by decide +kernel
theorem dX4_joinInto_25 : decode cX4_joinInto 25 = .ok (.lmul, 1) := by decide +kernel
theorem dX4_joinInto_26 : decode cX4_joinInto 26 = .ok (.aload_n 0, 1) := by decide +kernel
theorem dX4_joinInto_27 : decode cX4_joinInto 27 = .ok (.iload_n 3, 1) := by decide +kernel
theorem dX4_joinInto_28 : decode cX4_joinInto 28 = .ok (.invokevirtual 144, 3) := by decide +kernel
theorem dX4_joinInto_31 : decode cX4_joinInto 31 = .ok (.aload_n 2, 1) := by decide +kernel
theorem dX4_joinInto_32 : decode cX4_joinInto 32 = .ok (.iload_n 3, 1) := by decide +kernel
theorem dX4_joinInto_33 : decode cX4_joinInto 33 = .ok (.invokevirtual 144, 3) := by decide +kernel
theorem dX4_joinInto_36 : decode cX4_joinInto 36 = .ok (.lmul, 1) := by decide +kernel
theorem dX4_joinInto_37 : decode cX4_joinInto 37 = .ok (.invokevirtual 137, 3) := by decide +kernel
theorem dX4_joinInto_40 : decode cX4_joinInto 40 = .ok (.iinc 3 1, 3) := by decide +kernel
theorem dX4_joinInto_43 : decode cX4_joinInto 43 = .ok (.goto (-35), 3) := by decide +kernel
theorem dX4_joinInto_46 : decode cX4_joinInto 46 = .ok (.return_, 1) := by decide +kernel
set_option maxRecDepth 20000 in
theorem ggX4_shareTop_X4_spanOf : GoodIn wsX4_shareTop wsX4_spanOf := goodIn_r _ [8, 9, 10, 11, 12, 13, 14, 15, 16, 17] (by decide +kernel) (by decide +kernel)
set_option maxRecDepth 20000 in
theorem gX4_shareTop_X4_spanOf : GoodIn wsX4_shareTop (wsV RX4 58 RX4 yX4_spanOf wsX4_spanOf) := goodIn_app (goodIn_of _ (by decide +kernel)) ggX4_shareTop_X4_spanOf
theorem dX4_shareTop_0 : decode cX4_shareTop 0 = .ok (.aload_n 0, 1) := by decide +kernel
theorem dX4_shareTop_1 : decode cX4_shareTop 1 = .ok (.getfield 21, 3) := by decide +kernel
theorem dX4_shareTop_4 : decode cX4_shareTop 4 = .ok (.iload_n 1, 1) := by decide +kernel
theorem dX4_shareTop_5 : decode cX4_shareTop 5 = .ok (.baload, 1) := by decide +kernel
theorem dX4_shareTop_6 : decode cX4_shareTop 6 = .ok (.ifCond .eq 13, 3) := by decide +kernel
theorem dX4_shareTop_9 : decode cX4_shareTop 9 = .ok (.aload_n 0, 1) := by decide +kernel
theorem dX4_shareTop_10 : decode cX4_shareTop 10 = .ok (.getfield 25, 3) := by decide +kernel
theorem dX4_shareTop_13 : decode cX4_shareTop 13 = .ok (.iload_n 1, 1) := by decide +kernel
theorem dX4_shareTop_14 : decode cX4_shareTop 14 = .ok (.iaload, 1) := by decide +kernel
theorem dX4_shareTop_15 : decode cX4_shareTop 15 = .ok (.i2l, 1) := by decide +kernel
theorem dX4_shareTop_16 : decode cX4_shareTop 16 = .ok (.goto 14, 3) := by decide +kernel
theorem dX4_shareTop_19 : decode cX4_shareTop 19 = .ok (.aload_n 0, 1) := by decide +kernel
theorem dX4_shareTop_20 : decode cX4_shareTop 20 = .ok (.getfield 15, 3) := by decide +kernel
theorem dX4_shareTop_23 : decode cX4_shareTop 23 = .ok (.aload_n 0, 1) := by decide +kernel
theorem dX4_shareTop_24 : decode cX4_shareTop 24 = .ok (.iload_n 1, 1) := by decide +kernel
theorem dX4_shareTop_25 : decode cX4_shareTop 25 = .ok (.invokevirtual 58, 3) := by decide +kernel
theorem dX4_shareTop_28 : decode cX4_shareTop 28 = .ok (.iaload, 1) := by decide +kernel
theorem dX4_shareTop_29 : decode cX4_shareTop 29 = .ok (.i2l, 1) := by decide +kernel
theorem dX4_shareTop_30 : decode cX4_shareTop 30 = .ok (.lreturn, 1) := by decide +kernel
set_option maxRecDepth 20000 in
theorem ggX4_shareBottom_X4_spanOf : GoodIn wsX4_shareBottom wsX4_spanOf := goodIn_r _ [6, 7, 8, 25, 26, 27, 28, 29, 30, 31] (by decide +kernel) (by decide +kernel)
set_option maxRecDepth 20000 in
theorem gX4_shareBottom_X4_spanOf : GoodIn wsX4_shareBottom (wsV RX4 58 RX4 yX4_spanOf wsX4_spanOf) := goodIn_app (goodIn_of _ (by decide +kernel)) ggX4_shareBottom_X4_spanOf
set_option maxRecDepth 20000 in
theorem ggX4_shareBottom_X4_longOf : GoodIn wsX4_shareBottom wsX4_longOf := goodIn_r _ [12, 8, 13, 14, 15, 5, 16, 17, 18, 19, 20, 21, 22, 23, 24, 1, 25, 26, 27, 28, 29, 30, 31] (by decide +kernel) (by decide +kernel)
set_option maxRecDepth 20000 in
theorem gX4_shareBottom_X4_longOf : GoodIn wsX4_shareBottom (wsV RX4 117 RX4 yX4_longOf wsX4_longOf) := goodIn_app (goodIn_of _ (by decide +kernel)) ggX4_shareBottom_X4_longOf
theorem dX4_shareBottom_0 : decode cX4_shareBottom 0 = .ok (.aload_n 0, 1) := by decide +kernel
theorem dX4_shareBottom_1 : decode cX4_shareBottom 1 = .ok (.getfield 21, 3) := by decide +kernel
theorem dX4_shareBottom_4 : decode cX4_shareBottom 4 = .ok (.iload_n 1, 1) := by decide +kernel
theorem dX4_shareBottom_5 : decode cX4_shareBottom 5 = .ok (.baload, 1) := by decide +kernel
theorem dX4_shareBottom_6 : decode cX4_shareBottom 6 = .ok (.ifCond .eq 7, 3) := by decide +kernel
theorem dX4_shareBottom_9 : decode cX4_shareBottom 9 = .ok (.lconst 1, 1) := by decide +kernel
theorem dX4_shareBottom_10 : decode cX4_shareBottom 10 = .ok (.goto 13, 3) := by decide +kernel
theorem dX4_shareBottom_13 : decode cX4_shareBottom 13 = .ok (.aload_n 0, 1) := by decide +kernel
theorem dX4_shareBottom_14 : decode cX4_shareBottom 14 = .ok (.aload_n 0, 1) := by decide +kernel
theorem dX4_shareBottom_15 : decode cX4_shareBottom 15 = .ok (.iload_n 1, 1) := by decide +kernel
theorem dX4_shareBottom_16 : decode cX4_shareBottom 16 = .ok (.invokevirtual 58, 3) := by decide +kernel
theorem dX4_shareBottom_19 : decode cX4_shareBottom 19 = .ok (.invokevirtual 117, 3) := by decide +kernel
theorem dX4_shareBottom_22 : decode cX4_shareBottom 22 = .ok (.i2l, 1) := by decide +kernel
theorem dX4_shareBottom_23 : decode cX4_shareBottom 23 = .ok (.lreturn, 1) := by decide +kernel
theorem dX5_init_0 : decode cX5_init 0 = .ok (.aload_n 0, 1) := by decide +kernel
theorem dX5_init_1 : decode cX5_init 1 = .ok (.invokespecial 3, 3) := by decide +kernel
theorem dX5_init_4 : decode cX5_init 4 = .ok (.aload_n 0, 1) := by decide +kernel
theorem dX5_init_5 : decode cX5_init 5 = .ok (.bipush 100, 2) := by decide +kernel
theorem dX5_init_7 : decode cX5_init 7 = .ok (.newarray .long, 2) := by decide +kernel
theorem dX5_init_9 : decode cX5_init 9 = .ok (.putfield 9, 3) := by decide +kernel
theorem dX5_init_12 : decode cX5_init 12 = .ok (.return_, 1) := by decide +kernel
set_option maxRecDepth 20000 in
theorem ggX5_lay_J7_fill_d0a16 : GoodIn wsX5_lay wsJ7_fill_d0a16 := goodIn_r _ [8] (by decide +kernel) (by decide +kernel)
set_option maxRecDepth 20000 in
theorem gX5_lay_J7_fill_d0a16 : GoodIn wsX5_lay (va_wsS RX5 26 yJ7_fill_d0a16 wsJ7_fill_d0a16) := goodIn_app (goodIn_of _ (by decide +kernel)) ggX5_lay_J7_fill_d0a16
theorem dX5_lay_0 : decode cX5_lay 0 = .ok (.aload_n 0, 1) := by decide +kernel
theorem dX5_lay_1 : decode cX5_lay 1 = .ok (.iconst 1, 1) := by decide +kernel
theorem dX5_lay_2 : decode cX5_lay 2 = .ok (.putfield 15, 3) := by decide +kernel
theorem dX5_lay_5 : decode cX5_lay 5 = .ok (.aload_n 0, 1) := by decide +kernel
theorem dX5_lay_6 : decode cX5_lay 6 = .ok (.iload_n 1, 1) := by decide +kernel
theorem dX5_lay_7 : decode cX5_lay 7 = .ok (.putfield 19, 3) := by decide +kernel
theorem dX5_lay_10 : decode cX5_lay 10 = .ok (.aload_n 0, 1) := by decide +kernel
theorem dX5_lay_11 : decode cX5_lay 11 = .ok (.iload_n 2, 1) := by decide +kernel
theorem dX5_lay_12 : decode cX5_lay 12 = .ok (.putfield 23, 3) := by decide +kernel
theorem dX5_lay_15 : decode cX5_lay 15 = .ok (.aload_n 0, 1) := by decide +kernel
theorem dX5_lay_16 : decode cX5_lay 16 = .ok (.getfield 9, 3) := by decide +kernel
theorem dX5_lay_19 : decode cX5_lay 19 = .ok (.lconst 0, 1) := by decide +kernel
theorem dX5_lay_20 : decode cX5_lay 20 = .ok (.invokestatic 26, 3) := by decide +kernel
theorem dX5_lay_23 : decode cX5_lay 23 = .ok (.return_, 1) := by decide +kernel
theorem dX5_has_0 : decode cX5_has 0 = .ok (.iload_n 1, 1) := by decide +kernel
theorem dX5_has_1 : decode cX5_has 1 = .ok (.ifCond .lt 21, 3) := by decide +kernel
theorem dX5_has_4 : decode cX5_has 4 = .ok (.iload_n 2, 1) := by decide +kernel
theorem dX5_has_5 : decode cX5_has 5 = .ok (.ifCond .lt 17, 3) := by decide +kernel
theorem dX5_has_8 : decode cX5_has 8 = .ok (.iload_n 1, 1) := by decide +kernel
theorem dX5_has_9 : decode cX5_has 9 = .ok (.aload_n 0, 1) := by decide +kernel
theorem dX5_has_10 : decode cX5_has 10 = .ok (.getfield 23, 3) := by decide +kernel
theorem dX5_has_13 : decode cX5_has 13 = .ok (.iload_n 2, 1) := by decide +kernel
theorem dX5_has_14 : decode cX5_has 14 = .ok (.isub, 1) := by decide +kernel
theorem dX5_has_15 : decode cX5_has 15 = .ok (.if_icmp .gt 7, 3) := by decide +kernel
theorem dX5_has_18 : decode cX5_has 18 = .ok (.iconst 1, 1) := by decide +kernel
theorem dX5_has_19 : decode cX5_has 19 = .ok (.goto 4, 3) := by decide +kernel
theorem dX5_has_22 : decode cX5_has 22 = .ok (.iconst 0, 1) := by decide +kernel
theorem dX5_has_23 : decode cX5_has 23 = .ok (.ireturn, 1) := by decide +kernel
theorem dX5_fitted_0 : decode cX5_fitted 0 = .ok (.aload_n 0, 1) := by decide +kernel
theorem dX5_fitted_1 : decode cX5_fitted 1 = .ok (.getfield 19, 3) := by decide +kernel
theorem dX5_fitted_4 : decode cX5_fitted 4 = .ok (.tableswitch 42 0 2 #[28, 33, 38], 28) := by decide +kernel
theorem dX5_fitted_32 : decode cX5_fitted 32 = .ok (.lload_n 1, 1) := by decide +kernel
theorem dX5_fitted_33 : decode cX5_fitted 33 = .ok (.l2i, 1) := by decide +kernel
theorem dX5_fitted_34 : decode cX5_fitted 34 = .ok (.i2b, 1) := by decide +kernel
theorem dX5_fitted_35 : decode cX5_fitted 35 = .ok (.i2l, 1) := by decide +kernel
theorem dX5_fitted_36 : decode cX5_fitted 36 = .ok (.lreturn, 1) := by decide +kernel
theorem dX5_fitted_37 : decode cX5_fitted 37 = .ok (.lload_n 1, 1) := by decide +kernel
theorem dX5_fitted_38 : decode cX5_fitted 38 = .ok (.l2i, 1) := by decide +kernel
theorem dX5_fitted_39 : decode cX5_fitted 39 = .ok (.i2s, 1) := by decide +kernel
theorem dX5_fitted_40 : decode cX5_fitted 40 = .ok (.i2l, 1) := by decide +kernel
theorem dX5_fitted_41 : decode cX5_fitted 41 = .ok (.lreturn, 1) := by decide +kernel
theorem dX5_fitted_42 : decode cX5_fitted 42 = .ok (.lload_n 1, 1) := by decide +kernel
theorem dX5_fitted_43 : decode cX5_fitted 43 = .ok (.l2i, 1) := by decide +kernel
theorem dX5_fitted_44 : decode cX5_fitted 44 = .ok (.i2l, 1) := by decide +kernel
theorem dX5_fitted_45 : decode cX5_fitted 45 = .ok (.lreturn, 1) := by decide +kernel
theorem dX5_fitted_46 : decode cX5_fitted 46 = .ok (.lload_n 1, 1) := by decide +kernel
theorem dX5_fitted_47 : decode cX5_fitted 47 = .ok (.lreturn, 1) := by decide +kernel
set_option maxRecDepth 20000 in
theorem ggX5_holdsRowsAlone_X6_isValueOrNone : GoodIn wsX5_holdsRowsAlone wsX6_isValueOrNone := goodIn_r _ [5, 6, 7, 8, 9, 4, 10] (by decide +kernel) (by decide +kernel)
set_option maxRecDepth 20000 in
theorem gX5_holdsRowsAlone_X6_isValueOrNone_n32 : GoodIn wsX5_holdsRowsAlone (wsX6_isValueOrNone) := ggX5_holdsRowsAlone_X6_isValueOrNone
theorem dX5_holdsRowsAlone_0 : decode cX5_holdsRowsAlone 0 = .ok (.iconst 0, 1) := by decide +kernel
theorem dX5_holdsRowsAlone_1 : decode cX5_holdsRowsAlone 1 = .ok (.istore_n 1, 1) := by decide +kernel
theorem dX5_holdsRowsAlone_2 : decode cX5_holdsRowsAlone 2 = .ok (.iload_n 1, 1) := by decide +kernel
theorem dX5_holdsRowsAlone_3 : decode cX5_holdsRowsAlone 3 = .ok (.aload_n 0, 1) := by decide +kernel
theorem dX5_holdsRowsAlone_4 : decode cX5_holdsRowsAlone 4 = .ok (.getfield 23, 3) := by decide +kernel
theorem dX5_holdsRowsAlone_7 : decode cX5_holdsRowsAlone 7 = .ok (.if_icmp .ge 23, 3) := by decide +kernel
theorem dX5_holdsRowsAlone_10 : decode cX5_holdsRowsAlone 10 = .ok (.aload_n 0, 1) := by decide +kernel
theorem dX5_holdsRowsAlone_11 : decode cX5_holdsRowsAlone 11 = .ok (.getfield 9, 3) := by decide +kernel
theorem dX5_holdsRowsAlone_14 : decode cX5_holdsRowsAlone 14 = .ok (.iload_n 1, 1) := by decide +kernel
theorem dX5_holdsRowsAlone_15 : decode cX5_holdsRowsAlone 15 = .ok (.laload, 1) := by decide +kernel
theorem dX5_holdsRowsAlone_16 : decode cX5_holdsRowsAlone 16 = .ok (.invokestatic 32, 3) := by decide +kernel
theorem dX5_holdsRowsAlone_19 : decode cX5_holdsRowsAlone 19 = .ok (.ifCond .ne 5, 3) := by decide +kernel
theorem dX5_holdsRowsAlone_22 : decode cX5_holdsRowsAlone 22 = .ok (.iconst 0, 1) := by decide +kernel
theorem dX5_holdsRowsAlone_23 : decode cX5_holdsRowsAlone 23 = .ok (.ireturn, 1) := by decide +kernel
theorem dX5_holdsRowsAlone_24 : decode cX5_holdsRowsAlone 24 = .ok (.iinc 1 1, 3) := by decide +kernel
theorem dX5_holdsRowsAlone_27 : decode cX5_holdsRowsAlone 27 = .ok (.goto (-25), 3) := by decide +kernel
theorem dX5_holdsRowsAlone_30 : decode cX5_holdsRowsAlone 30 = .ok (.iconst 1, 1) := by decide +kernel
theorem dX5_holdsRowsAlone_31 : decode cX5_holdsRowsAlone 31 = .ok (.ireturn, 1) := by decide +kernel
set_option maxRecDepth 20000 in
theorem ggX6_init_X2_init : GoodIn wsX6_init wsX2_init := goodIn_r _ [26, 27, 2, 3, 28, 29, 30, 31, 71, 72, 73, 74, 75] (by decide +kernel) (by decide +kernel)
set_option maxRecDepth 20000 in
theorem gX6_init_X2_init_n23 : GoodIn wsX6_init (wsX2_init) := ggX6_init_X2_init
set_option maxRecDepth 20000 in
theorem ggX6_init_X4_init : GoodIn wsX6_init wsX4_init := goodIn_r _ [33, 34, 2, 3, 28, 35, 36, 37, 38, 39, 40, 76, 77, 78, 79, 80, 81, 82] (by decide +kernel) (by decide +kernel)
set_option maxRecDepth 20000 in
theorem gX6_init_X4_init_n30 : GoodIn wsX6_init (wsX4_init) := ggX6_init_X4_init
set_option maxRecDepth 20000 in
theorem ggX6_init_X1_init : GoodIn wsX6_init wsX1_init := goodIn_r _ [42, 43, 2, 3, 44, 45, 83, 84] (by decide +kernel) (by decide +kernel)
set_option maxRecDepth 20000 in
theorem gX6_init_X1_init_n37 : GoodIn wsX6_init (wsX1_init) := ggX6_init_X1_init
set_option maxRecDepth 20000 in
theorem ggX6_init_X5_init : GoodIn wsX6_init wsX5_init := goodIn_r _ [47, 48, 2, 3, 49, 50, 85, 86, 87, 88] (by decide +kernel) (by decide +kernel)
set_option maxRecDepth 20000 in
theorem gX6_init_X5_init_n46 : GoodIn wsX6_init (wsX5_init) := ggX6_init_X5_init
set_option maxRecDepth 20000 in
theorem ggX6_init_X0_init : GoodIn wsX6_init wsX0_init := goodIn_r _ [52, 53, 2, 3, 28, 54, 55, 13, 14, 56, 57, 58, 59, 60, 32, 33, 34, 35, 36, 37, 38, 39, 40, 61, 62, 63, 64, 89, 90, 91, 92, 93, 76, 77, 78, 79, 80, 81, 82, 94, 95, 96, 97] (by decide +kernel) (by decide +kernel)
set_option maxRecDepth 20000 in
theorem gX6_init_X0_init_n47 : GoodIn wsX6_init (wsX0_init) := ggX6_init_X0_init
theorem dX6_init_0 : decode cX6_init 0 = .ok (.aload_n 0, 1) := by decide +kernel
theorem dX6_init_1 : decode cX6_init 1 = .ok (.invokespecial 3, 3) := by decide +kernel
theorem dX6_init_4 : decode cX6_init 4 = .ok (.aload_n 0, 1) := by decide +kernel
theorem dX6_init_5 : decode cX6_init 5 = .ok (.iconst 4, 1) := by decide +kernel
theorem dX6_init_6 : decode cX6_init 6 = .ok (.anewarray 9, 3) := by decide +kernel
theorem dX6_init_9 : decode cX6_init 9 = .ok (.putfield 11, 3) := by decide +kernel
theorem dX6_init_12 : decode cX6_init 12 = .ok (.aload_n 0, 1) := by decide +kernel
theorem dX6_init_13 : decode cX6_init 13 = .ok (.iconst 3, 1) := by decide +kernel
theorem dX6_init_14 : decode cX6_init 14 = .ok (.anewarray 15, 3) := by decide +kernel
theorem dX6_init_17 : decode cX6_init 17 = .ok (.putfield 17, 3) := by decide +kernel
theorem dX6_init_20 : decode cX6_init 20 = .ok (.aload_n 0, 1) := by decide +kernel
theorem dX6_init_21 : decode cX6_init 21 = .ok (.new 21, 3) := by decide +kernel
theorem dX6_init_24 : decode cX6_init 24 = .ok (.dup, 1) := by decide +kernel
theorem dX6_init_25 : decode cX6_init 25 = .ok (.invokespecial 23, 3) := by decide +kernel
theorem dX6_init_28 : decode cX6_init 28 = .ok (.putfield 24, 3) := by decide +kernel
theorem dX6_init_31 : decode cX6_init 31 = .ok (.aload_n 0, 1) := by decide +kernel
theorem dX6_init_32 : decode cX6_init 32 = .ok (.new 28, 3) := by decide +kernel
theorem dX6_init_35 : decode cX6_init 35 = .ok (.dup, 1) := by decide +kernel
theorem dX6_init_36 : decode cX6_init 36 = .ok (.invokespecial 30, 3) := by decide +kernel
theorem dX6_init_39 : decode cX6_init 39 = .ok (.putfield 31, 3) := by decide +kernel
theorem dX6_init_42 : decode cX6_init 42 = .ok (.aload_n 0, 1) := by decide +kernel
theorem dX6_init_43 : decode cX6_init 43 = .ok (.new 35, 3) := by decide +kernel
theorem dX6_init_46 : decode cX6_init 46 = .ok (.dup, 1) := by decide +kernel
theorem dX6_init_47 : decode cX6_init 47 = .ok (.invokespecial 37, 3) := by decide +kernel
theorem dX6_init_50 : decode cX6_init 50 = .ok (.putfield 38, 3) := by decide +kernel
theorem dX6_init_53 : decode cX6_init 53 = .ok (.aload_n 0, 1) := by decide +kernel
theorem dX6_init_54 : decode cX6_init 54 = .ok (.iconst 0, 1) := by decide +kernel
theorem dX6_init_55 : decode cX6_init 55 = .ok (.putfield 42, 3) := by decide +kernel
theorem dX6_init_58 : decode cX6_init 58 = .ok (.iconst 0, 1) := by decide +kernel
theorem dX6_init_59 : decode cX6_init 59 = .ok (.istore_n 1, 1) := by decide +kernel
theorem dX6_init_60 : decode cX6_init 60 = .ok (.iload_n 1, 1) := by decide +kernel
theorem dX6_init_61 : decode cX6_init 61 = .ok (.iconst 4, 1) := by decide +kernel
theorem dX6_init_62 : decode cX6_init 62 = .ok (.if_icmp .ge 22, 3) := by decide +kernel
theorem dX6_init_65 : decode cX6_init 65 = .ok (.aload_n 0, 1) := by decide +kernel
theorem dX6_init_66 : decode cX6_init 66 = .ok (.getfield 11, 3) := by decide +kernel
theorem dX6_init_69 : decode cX6_init 69 = .ok (.iload_n 1, 1) := by decide +kernel
theorem dX6_init_70 : decode cX6_init 70 = .ok (.new 9, 3) := by decide +kernel
theorem dX6_init_73 : decode cX6_init 73 = .ok (.dup, 1) := by decide +kernel
theorem dX6_init_74 : decode cX6_init 74 = .ok (.invokespecial 46, 3) := by decide +kernel
theorem dX6_init_77 : decode cX6_init 77 = .ok (.aastore, 1) := by decide +kernel
theorem dX6_init_78 : decode cX6_init 78 = .ok (.iinc 1 1, 3) := by decide +kernel
theorem dX6_init_81 : decode cX6_init 81 = .ok (.goto (-21), 3) := by decide +kernel
theorem dX6_init_84 : decode cX6_init 84 = .ok (.iconst 0, 1) := by decide +kernel
theorem dX6_init_85 : decode cX6_init 85 = .ok (.istore_n 1, 1) := by decide +kernel
theorem dX6_init_86 : decode cX6_init 86 = .ok (.iload_n 1, 1) := by decide +kernel
theorem dX6_init_87 : decode cX6_init 87 = .ok (.iconst 3, 1) := by decide +kernel
theorem dX6_init_88 : decode cX6_init 88 = .ok (.if_icmp .ge 22, 3) := by decide +kernel
theorem dX6_init_91 : decode cX6_init 91 = .ok (.aload_n 0, 1) := by decide +kernel
theorem dX6_init_92 : decode cX6_init 92 = .ok (.getfield 17, 3) := by decide +kernel
theorem dX6_init_95 : decode cX6_init 95 = .ok (.iload_n 1, 1) := by decide +kernel
theorem dX6_init_96 : decode cX6_init 96 = .ok (.new 15, 3) := by decide +kernel
theorem dX6_init_99 : decode cX6_init 99 = .ok (.dup, 1) := by decide +kernel
theorem dX6_init_100 : decode cX6_init 100 = .ok (.invokespecial 47, 3) := by decide +kernel
theorem dX6_init_103 : decode cX6_init 103 = .ok (.aastore, 1) := by decide +kernel
theorem dX6_init_104 : decode cX6_init 104 = .ok (.iinc 1 1, 3) := by decide +kernel
theorem dX6_init_107 : decode cX6_init 107 = .ok (.goto (-21), 3) := by decide +kernel
theorem dX6_init_110 : decode cX6_init 110 = .ok (.return_, 1) := by decide +kernel
theorem dX6_status_0 : decode cX6_status 0 = .ok (.aload_n 0, 1) := by decide +kernel
theorem dX6_status_1 : decode cX6_status 1 = .ok (.getfield 42, 3) := by decide +kernel
theorem dX6_status_4 : decode cX6_status 4 = .ok (.ireturn, 1) := by decide +kernel
theorem dX6_top_0 : decode cX6_top 0 = .ok (.aload_n 0, 1) := by decide +kernel
theorem dX6_top_1 : decode cX6_top 1 = .ok (.getfield 38, 3) := by decide +kernel
theorem dX6_top_4 : decode cX6_top 4 = .ok (.getfield 48, 3) := by decide +kernel
theorem dX6_top_7 : decode cX6_top 7 = .ok (.lreturn, 1) := by decide +kernel
theorem dX6_bottom_0 : decode cX6_bottom 0 = .ok (.aload_n 0, 1) := by decide +kernel
theorem dX6_bottom_1 : decode cX6_bottom 1 = .ok (.getfield 38, 3) := by decide +kernel
theorem dX6_bottom_4 : decode cX6_bottom 4 = .ok (.getfield 52, 3) := by decide +kernel
theorem dX6_bottom_7 : decode cX6_bottom 7 = .ok (.lreturn, 1) := by decide +kernel
set_option maxRecDepth 20000 in
theorem ggX6_tray_X6_trayAt : GoodIn wsX6_tray wsX6_trayAt := goodIn_r _ [7, 1, 8, 9, 10, 6, 11, 34, 35, 36, 37, 38, 39] (by decide +kernel) (by decide +kernel)
set_option maxRecDepth 20000 in
theorem gX6_tray_X6_trayAt : GoodIn wsX6_tray (wsV RX6 55 RX6 yX6_trayAt wsX6_trayAt) := goodIn_app (goodIn_of _ (by decide +kernel)) ggX6_tray_X6_trayAt
set_option maxRecDepth 20000 in
theorem ggX6_tray_X6_within : GoodIn wsX6_tray wsX6_within := goodIn_r _ [11] (by decide +kernel) (by decide +kernel)
set_option maxRecDepth 20000 in
theorem gX6_tray_X6_within : GoodIn wsX6_tray (va_wsS RX6 61 yX6_within wsX6_within) := goodIn_app (goodIn_of _ (by decide +kernel)) ggX6_tray_X6_within
set_option maxRecDepth 20000 in
theorem ggX6_tray_X6_no : GoodIn wsX6_tray wsX6_no := goodIn_r _ [15, 16, 34, 35, 36, 37, 38, 39] (by decide +kernel) (by decide +kernel)
set_option maxRecDepth 20000 in
theorem gX6_tray_X6_no : GoodIn wsX6_tray (wsV RX6 67 RX6 yX6_no wsX6_no) := goodIn_app (goodIn_of _ (by decide +kernel)) ggX6_tray_X6_no
set_option maxRecDepth 20000 in
theorem ggX6_tray_X5_lay : GoodIn wsX6_tray wsX5_lay := goodIn_r _ [21, 22, 23, 24, 25, 26, 27, 28, 29, 40, 41, 42, 43] (by decide +kernel) (by decide +kernel)
set_option maxRecDepth 20000 in
theorem gX6_tray_X5_lay : GoodIn wsX6_tray (wsV RX6 71 RX5 yX5_lay wsX5_lay) := goodIn_app (goodIn_of _ (by decide +kernel)) ggX6_tray_X5_lay
set_option maxRecDepth 20000 in
theorem ggX6_tray_X6_yes : GoodIn wsX6_tray wsX6_yes := goodIn_r _ [33, 16, 34, 35, 36, 37, 38, 39] (by decide +kernel) (by decide +kernel)
set_option maxRecDepth 20000 in
theorem gX6_tray_X6_yes : GoodIn wsX6_tray (wsV RX6 75 RX6 yX6_yes wsX6_yes) := goodIn_app (goodIn_of _ (by decide +kernel)) ggX6_tray_X6_yes
theorem dX6_tray_0 : decode cX6_tray 0 = .ok (.aload_n 0, 1) := by decide +kernel
theorem dX6_tray_1 : decode cX6_tray 1 = .ok (.iload_n 1, 1) := by decide +kernel
theorem dX6_tray_2 : decode cX6_tray 2 = .ok (.invokevirtual 55, 3) := by decide +kernel
theorem dX6_tray_5 : decode cX6_tray 5 = .ok (.astore 4, 2) := by decide +kernel
theorem dX6_tray_7 : decode cX6_tray 7 = .ok (.aload 4, 2) := by decide +kernel
theorem dX6_tray_9 : decode cX6_tray 9 = .ok (.ifnull 27, 3) := by decide +kernel
theorem dX6_tray_12 : decode cX6_tray 12 = .ok (.iload_n 2, 1) := by decide +kernel
theorem dX6_tray_13 : decode cX6_tray 13 = .ok (.i2l, 1) := by decide +kernel
theorem dX6_tray_14 : decode cX6_tray 14 = .ok (.lconst 0, 1) := by decide +kernel
theorem dX6_tray_15 : decode cX6_tray 15 = .ok (.ldc2_w 59, 3) := by decide +kernel
theorem dX6_tray_18 : decode cX6_tray 18 = .ok (.invokestatic 61, 3) := by decide +kernel
theorem dX6_tray_21 : decode cX6_tray 21 = .ok (.ifCond .eq 15, 3) := by decide +kernel
theorem dX6_tray_24 : decode cX6_tray 24 = .ok (.iload_n 3, 1) := by decide +kernel
theorem dX6_tray_25 : decode cX6_tray 25 = .ok (.i2l, 1) := by decide +kernel
theorem dX6_tray_26 : decode cX6_tray 26 = .ok (.lconst 0, 1) := by decide +kernel
theorem dX6_tray_27 : decode cX6_tray 27 = .ok (.ldc2_w 65, 3) := by decide +kernel
theorem dX6_tray_30 : decode cX6_tray 30 = .ok (.invokestatic 61, 3) := by decide +kernel
theorem dX6_tray_33 : decode cX6_tray 33 = .ok (.ifCond .ne 9, 3) := by decide +kernel
theorem dX6_tray_36 : decode cX6_tray 36 = .ok (.aload_n 0, 1) := by decide +kernel
theorem dX6_tray_37 : decode cX6_tray 37 = .ok (.iconst 1, 1) := by decide +kernel
theorem dX6_tray_38 : decode cX6_tray 38 = .ok (.invokevirtual 67, 3) := by decide +kernel
theorem dX6_tray_41 : decode cX6_tray 41 = .ok (.ireturn, 1) := by decide +kernel
theorem dX6_tray_42 : decode cX6_tray 42 = .ok (.aload 4, 2) := by decide +kernel
theorem dX6_tray_44 : decode cX6_tray 44 = .ok (.iload_n 2, 1) := by decide +kernel
theorem dX6_tray_45 : decode cX6_tray 45 = .ok (.iload_n 3, 1) := by decide +kernel
theorem dX6_tray_46 : decode cX6_tray 46 = .ok (.invokevirtual 71, 3) := by decide +kernel
theorem dX6_tray_49 : decode cX6_tray 49 = .ok (.aload_n 0, 1) := by decide +kernel
theorem dX6_tray_50 : decode cX6_tray 50 = .ok (.invokevirtual 75, 3) := by decide +kernel
theorem dX6_tray_53 : decode cX6_tray 53 = .ok (.ireturn, 1) := by decide +kernel
set_option maxRecDepth 20000 in
theorem ggX6_write_X6_trayAt : GoodIn wsX6_write wsX6_trayAt := goodIn_r _ [7, 8, 9, 10, 11, 6, 12, 37, 38, 39, 40, 41, 42] (by decide +kernel) (by decide +kernel)
set_option maxRecDepth 20000 in
theorem gX6_write_X6_trayAt : GoodIn wsX6_write (wsV RX6 55 RX6 yX6_trayAt wsX6_trayAt) := goodIn_app (goodIn_of _ (by decide +kernel)) ggX6_write_X6_trayAt
set_option maxRecDepth 20000 in
theorem ggX6_write_X6_no : GoodIn wsX6_write wsX6_no := goodIn_r _ [16, 17, 37, 38, 39, 40, 41, 42] (by decide +kernel) (by decide +kernel)
set_option maxRecDepth 20000 in
theorem gX6_write_X6_no : GoodIn wsX6_write (wsV RX6 67 RX6 yX6_no wsX6_no) := goodIn_app (goodIn_of _ (by decide +kernel)) ggX6_write_X6_no
set_option maxRecDepth 20000 in
theorem ggX6_write_X5_has : GoodIn wsX6_write wsX5_has := goodIn_r _ [22, 23, 33, 34, 35, 36] (by decide +kernel) (by decide +kernel)
set_option maxRecDepth 20000 in
theorem gX6_write_X5_has : GoodIn wsX6_write (wsV RX6 83 RX5 yX5_has wsX5_has) := goodIn_app (goodIn_of _ (by decide +kernel)) ggX6_write_X5_has
set_option maxRecDepth 20000 in
theorem ggX6_write_X5_fitted : GoodIn wsX6_write wsX5_fitted := goodIn_r _ [27, 28, 33, 34, 35, 36] (by decide +kernel) (by decide +kernel)
set_option maxRecDepth 20000 in
theorem gX6_write_X5_fitted : GoodIn wsX6_write (wsV RX6 91 RX5 yX5_fitted wsX5_fitted) := goodIn_app (goodIn_of _ (by decide +kernel)) ggX6_write_X5_fitted
set_option maxRecDepth 20000 in
theorem ggX6_write_X6_yes : GoodIn wsX6_write wsX6_yes := goodIn_r _ [32, 17, 37, 38, 39, 40, 41, 42] (by decide +kernel) (by decide +kernel)
set_option maxRecDepth 20000 in
theorem gX6_write_X6_yes : GoodIn wsX6_write (wsV RX6 75 RX6 yX6_yes wsX6_yes) := goodIn_app (goodIn_of _ (by decide +kernel)) ggX6_write_X6_yes
theorem dX6_write_0 : decode cX6_write 0 = .ok (.aload_n 0, 1) := by decide +kernel
theorem dX6_write_1 : decode cX6_write 1 = .ok (.iload_n 1, 1) := by decide +kernel
theorem dX6_write_2 : decode cX6_write 2 = .ok (.invokevirtual 55, 3) := by decide +kernel
theorem dX6_write_5 : decode cX6_write 5 = .ok (.astore 5, 2) := by decide +kernel
theorem dX6_write_7 : decode cX6_write 7 = .ok (.aload 5, 2) := by decide +kernel
theorem dX6_write_9 : decode cX6_write 9 = .ok (.ifnonnull 9, 3) := by decide +kernel
theorem dX6_write_12 : decode cX6_write 12 = .ok (.aload_n 0, 1) := by decide +kernel
theorem dX6_write_13 : decode cX6_write 13 = .ok (.iconst 1, 1) := by decide +kernel
theorem dX6_write_14 : decode cX6_write 14 = .ok (.invokevirtual 67, 3) := by decide +kernel
theorem dX6_write_17 : decode cX6_write 17 = .ok (.ireturn, 1) := by decide +kernel
theorem dX6_write_18 : decode cX6_write 18 = .ok (.aload 5, 2) := by decide +kernel
theorem dX6_write_20 : decode cX6_write 20 = .ok (.getfield 79, 3) := by decide +kernel
theorem dX6_write_23 : decode cX6_write 23 = .ok (.ifCond .ne 9, 3) := by decide +kernel
theorem dX6_write_26 : decode cX6_write 26 = .ok (.aload_n 0, 1) := by decide +kernel
theorem dX6_write_27 : decode cX6_write 27 = .ok (.iconst 2, 1) := by decide +kernel
theorem dX6_write_28 : decode cX6_write 28 = .ok (.invokevirtual 67, 3) := by decide +kernel
theorem dX6_write_31 : decode cX6_write 31 = .ok (.ireturn, 1) := by decide +kernel
theorem dX6_write_32 : decode cX6_write 32 = .ok (.aload 5, 2) := by decide +kernel
theorem dX6_write_34 : decode cX6_write 34 = .ok (.iload_n 2, 1) := by decide +kernel
theorem dX6_write_35 : decode cX6_write 35 = .ok (.iconst 1, 1) := by decide +kernel
theorem dX6_write_36 : decode cX6_write 36 = .ok (.invokevirtual 83, 3) := by decide +kernel
theorem dX6_write_39 : decode cX6_write 39 = .ok (.ifCond .ne 9, 3) := by decide +kernel
theorem dX6_write_42 : decode cX6_write 42 = .ok (.aload_n 0, 1) := by decide +kernel
theorem dX6_write_43 : decode cX6_write 43 = .ok (.iconst 3, 1) := by decide +kernel
theorem dX6_write_44 : decode cX6_write 44 = .ok (.invokevirtual 67, 3) := by decide +kernel
theorem dX6_write_47 : decode cX6_write 47 = .ok (.ireturn, 1) := by decide +kernel
theorem dX6_write_48 : decode cX6_write 48 = .ok (.aload 5, 2) := by decide +kernel
theorem dX6_write_50 : decode cX6_write 50 = .ok (.getfield 87, 3) := by decide +kernel
theorem dX6_write_53 : decode cX6_write 53 = .ok (.iload_n 2, 1) := by decide +kernel
theorem dX6_write_54 : decode cX6_write 54 = .ok (.aload 5, 2) := by decide +kernel
theorem dX6_write_56 : decode cX6_write 56 = .ok (.lload_n 3, 1) := by decide +kernel
theorem dX6_write_57 : decode cX6_write 57 = .ok (.invokevirtual 91, 3) := by decide +kernel
theorem dX6_write_60 : decode cX6_write 60 = .ok (.lastore, 1) := by decide +kernel
theorem dX6_write_61 : decode cX6_write 61 = .ok (.aload_n 0, 1) := by decide +kernel
theorem dX6_write_62 : decode cX6_write 62 = .ok (.invokevirtual 75, 3) := by decide +kernel
theorem dX6_write_65 : decode cX6_write 65 = .ok (.ireturn, 1) := by decide +kernel
set_option maxRecDepth 20000 in
theorem ggX6_read_X6_trayAt : GoodIn wsX6_read wsX6_trayAt := goodIn_r _ [8, 9, 10, 11, 12, 7, 13, 28, 29, 30, 31, 32, 33] (by decide +kernel) (by decide +kernel)
set_option maxRecDepth 20000 in
theorem gX6_read_X6_trayAt : GoodIn wsX6_read (wsV RX6 55 RX6 yX6_trayAt wsX6_trayAt) := goodIn_app (goodIn_of _ (by decide +kernel)) ggX6_read_X6_trayAt
set_option maxRecDepth 20000 in
theorem ggX6_read_X6_none : GoodIn wsX6_read wsX6_none := goodIn_r _ [17, 2, 28, 29, 30, 31, 32, 33] (by decide +kernel) (by decide +kernel)
set_option maxRecDepth 20000 in
theorem gX6_read_X6_none : GoodIn wsX6_read (wsV RX6 95 RX6 yX6_none wsX6_none) := goodIn_app (goodIn_of _ (by decide +kernel)) ggX6_read_X6_none
set_option maxRecDepth 20000 in
theorem ggX6_read_X5_has : GoodIn wsX6_read wsX5_has := goodIn_r _ [22, 23, 24, 25, 26, 27] (by decide +kernel) (by decide +kernel)
set_option maxRecDepth 20000 in
theorem gX6_read_X5_has : GoodIn wsX6_read (wsV RX6 83 RX5 yX5_has wsX5_has) := goodIn_app (goodIn_of _ (by decide +kernel)) ggX6_read_X5_has
theorem dX6_read_0 : decode cX6_read 0 = .ok (.aload_n 0, 1) := by decide +kernel
theorem dX6_read_1 : decode cX6_read 1 = .ok (.iload_n 1, 1) := by decide +kernel
theorem dX6_read_2 : decode cX6_read 2 = .ok (.invokevirtual 55, 3) := by decide +kernel
theorem dX6_read_5 : decode cX6_read 5 = .ok (.astore_n 3, 1) := by decide +kernel
theorem dX6_read_6 : decode cX6_read 6 = .ok (.aload_n 3, 1) := by decide +kernel
theorem dX6_read_7 : decode cX6_read 7 = .ok (.ifnonnull 10, 3) := by decide +kernel
theorem dX6_read_10 : decode cX6_read 10 = .ok (.aload_n 0, 1) := by decide +kernel
theorem dX6_read_11 : decode cX6_read 11 = .ok (.iconst 1, 1) := by decide +kernel
theorem dX6_read_12 : decode cX6_read 12 = .ok (.invokevirtual 95, 3) := by decide +kernel
theorem dX6_read_15 : decode cX6_read 15 = .ok (.i2l, 1) := by decide +kernel
theorem dX6_read_16 : decode cX6_read 16 = .ok (.lreturn, 1) := by decide +kernel
theorem dX6_read_17 : decode cX6_read 17 = .ok (.aload_n 3, 1) := by decide +kernel
theorem dX6_read_18 : decode cX6_read 18 = .ok (.getfield 79, 3) := by decide +kernel
theorem dX6_read_21 : decode cX6_read 21 = .ok (.ifCond .ne 10, 3) := by decide +kernel
theorem dX6_read_24 : decode cX6_read 24 = .ok (.aload_n 0, 1) := by decide +kernel
theorem dX6_read_25 : decode cX6_read 25 = .ok (.iconst 2, 1) := by decide +kernel
theorem dX6_read_26 : decode cX6_read 26 = .ok (.invokevirtual 95, 3) := by decide +kernel
theorem dX6_read_29 : decode cX6_read 29 = .ok (.i2l, 1) := by decide +kernel
theorem dX6_read_30 : decode cX6_read 30 = .ok (.lreturn, 1) := by decide +kernel
theorem dX6_read_31 : decode cX6_read 31 = .ok (.aload_n 3, 1) := by decide +kernel
theorem dX6_read_32 : decode cX6_read 32 = .ok (.iload_n 2, 1) := by decide +kernel
theorem dX6_read_33 : decode cX6_read 33 = .ok (.iconst 1, 1) := by decide +kernel
theorem dX6_read_34 : decode cX6_read 34 = .ok (.invokevirtual 83, 3) := by decide +kernel
theorem dX6_read_37 : decode cX6_read 37 = .ok (.ifCond .ne 10, 3) := by decide +kernel
theorem dX6_read_40 : decode cX6_read 40 = .ok (.aload_n 0, 1) := by decide +kernel
theorem dX6_read_41 : decode cX6_read 41 = .ok (.iconst 3, 1) := by decide +kernel
theorem dX6_read_42 : decode cX6_read 42 = .ok (.invokevirtual 95, 3) := by decide +kernel
theorem dX6_read_45 : decode cX6_read 45 = .ok (.i2l, 1) := by decide +kernel
theorem dX6_read_46 : decode cX6_read 46 = .ok (.lreturn, 1) := by decide +kernel
theorem dX6_read_47 : decode cX6_read 47 = .ok (.aload_n 0, 1) := by decide +kernel
theorem dX6_read_48 : decode cX6_read 48 = .ok (.iconst 0, 1) := by decide +kernel
theorem dX6_read_49 : decode cX6_read 49 = .ok (.putfield 42, 3) := by decide +kernel
theorem dX6_read_52 : decode cX6_read 52 = .ok (.aload_n 3, 1) := by decide +kernel
theorem dX6_read_53 : decode cX6_read 53 = .ok (.getfield 87, 3) := by decide +kernel
theorem dX6_read_56 : decode cX6_read 56 = .ok (.iload_n 2, 1) := by decide +kernel
theorem dX6_read_57 : decode cX6_read 57 = .ok (.laload, 1) := by decide +kernel
theorem dX6_read_58 : decode cX6_read 58 = .ok (.lreturn, 1) := by decide +kernel
set_option maxRecDepth 20000 in
theorem ggX6_pour_X6_trayAt : GoodIn wsX6_pour wsX6_trayAt := goodIn_r _ [12, 13, 14, 15, 16, 11, 17, 37, 38, 39, 40, 41, 42] (by decide +kernel) (by decide +kernel)
set_option maxRecDepth 20000 in
theorem gX6_pour_X6_trayAt : GoodIn wsX6_pour (wsV RX6 55 RX6 yX6_trayAt wsX6_trayAt) := goodIn_app (goodIn_of _ (by decide +kernel)) ggX6_pour_X6_trayAt
set_option maxRecDepth 20000 in
theorem ggX6_pour_X6_no : GoodIn wsX6_pour wsX6_no := goodIn_r _ [21, 22, 37, 38, 39, 40, 41, 42] (by decide +kernel) (by decide +kernel)
set_option maxRecDepth 20000 in
theorem gX6_pour_X6_no : GoodIn wsX6_pour (wsV RX6 67 RX6 yX6_no wsX6_no) := goodIn_app (goodIn_of _ (by decide +kernel)) ggX6_pour_X6_no
set_option maxRecDepth 20000 in
theorem ggX6_pour_X5_has : GoodIn wsX6_pour wsX5_has := goodIn_r _ [27, 28, 33, 34, 35, 36] (by decide +kernel) (by decide +kernel)
set_option maxRecDepth 20000 in
theorem gX6_pour_X5_has : GoodIn wsX6_pour (wsV RX6 83 RX5 yX5_has wsX5_has) := goodIn_app (goodIn_of _ (by decide +kernel)) ggX6_pour_X5_has
set_option maxRecDepth 20000 in
theorem ggX6_pour_X6_yes : GoodIn wsX6_pour wsX6_yes := goodIn_r _ [32, 22, 37, 38, 39, 40, 41, 42] (by decide +kernel) (by decide +kernel)
set_option maxRecDepth 20000 in
theorem gX6_pour_X6_yes : GoodIn wsX6_pour (wsV RX6 75 RX6 yX6_yes wsX6_yes) := goodIn_app (goodIn_of _ (by decide +kernel)) ggX6_pour_X6_yes
theorem dX6_pour_0 : decode cX6_pour 0 = .ok (.aload_n 0, 1) := by decide +kernel
theorem dX6_pour_1 : decode cX6_pour 1 = .ok (.iload_n 1, 1) := by decide +kernel
theorem dX6_pour_2 : decode cX6_pour 2 = .ok (.invokevirtual 55, 3) := by decide +kernel
theorem dX6_pour_5 : decode cX6_pour 5 = .ok (.astore 6, 2) := by decide +kernel
theorem dX6_pour_7 : decode cX6_pour 7 = .ok (.aload_n 0, 1) := by decide +kernel
theorem dX6_pour_8 : decode cX6_pour 8 = .ok (.iload_n 3, 1) := by decide +kernel
theorem dX6_pour_9 : decode cX6_pour 9 = .ok (.invokevirtual 55, 3) := by decide +kernel
theorem dX6_pour_12 : decode cX6_pour 12 = .ok (.astore 7, 2) := by decide +kernel
theorem dX6_pour_14 : decode cX6_pour 14 = .ok (.aload 6, 2) := by decide +kernel
theorem dX6_pour_16 : decode cX6_pour 16 = .ok (.ifnull 22, 3) := by decide +kernel
theorem dX6_pour_19 : decode cX6_pour 19 = .ok (.aload 7, 2) := by decide +kernel
theorem dX6_pour_21 : decode cX6_pour 21 = .ok (.ifnull 17, 3) := by decide +kernel
theorem dX6_pour_24 : decode cX6_pour 24 = .ok (.iload_n 2, 1) := by decide +kernel
theorem dX6_pour_25 : decode cX6_pour 25 = .ok (.ifCond .lt 13, 3) := by decide +kernel
theorem dX6_pour_28 : decode cX6_pour 28 = .ok (.iload 4, 2) := by decide +kernel
theorem dX6_pour_30 : decode cX6_pour 30 = .ok (.ifCond .lt 8, 3) := by decide +kernel
theorem dX6_pour_33 : decode cX6_pour 33 = .ok (.iload 5, 2) := by decide +kernel
theorem dX6_pour_35 : decode cX6_pour 35 = .ok (.ifCond .ge 9, 3) := by decide +kernel
theorem dX6_pour_38 : decode cX6_pour 38 = .ok (.aload_n 0, 1) := by decide +kernel
theorem dX6_pour_39 : decode cX6_pour 39 = .ok (.iconst 1, 1) := by decide +kernel
theorem dX6_pour_40 : decode cX6_pour 40 = .ok (.invokevirtual 67, 3) := by decide +kernel
theorem dX6_pour_43 : decode cX6_pour 43 = .ok (.ireturn, 1) := by decide +kernel
theorem dX6_pour_44 : decode cX6_pour 44 = .ok (.aload 6, 2) := by decide +kernel
theorem dX6_pour_46 : decode cX6_pour 46 = .ok (.getfield 79, 3) := by decide +kernel
theorem dX6_pour_49 : decode cX6_pour 49 = .ok (.ifCond .eq 11, 3) := by decide +kernel
theorem dX6_pour_52 : decode cX6_pour 52 = .ok (.aload 7, 2) := by decide +kernel
theorem dX6_pour_54 : decode cX6_pour 54 = .ok (.getfield 79, 3) := by decide +kernel
theorem dX6_pour_57 : decode cX6_pour 57 = .ok (.ifCond .ne 9, 3) := by decide +kernel
theorem dX6_pour_60 : decode cX6_pour 60 = .ok (.aload_n 0, 1) := by decide +kernel
theorem dX6_pour_61 : decode cX6_pour 61 = .ok (.iconst 2, 1) := by decide +kernel
theorem dX6_pour_62 : decode cX6_pour 62 = .ok (.invokevirtual 67, 3) := by decide +kernel
theorem dX6_pour_65 : decode cX6_pour 65 = .ok (.ireturn, 1) := by decide +kernel
theorem dX6_pour_66 : decode cX6_pour 66 = .ok (.aload 6, 2) := by decide +kernel
theorem dX6_pour_68 : decode cX6_pour 68 = .ok (.getfield 99, 3) := by decide +kernel
theorem dX6_pour_71 : decode cX6_pour 71 = .ok (.aload 7, 2) := by decide +kernel
theorem dX6_pour_73 : decode cX6_pour 73 = .ok (.getfield 99, 3) := by decide +kernel
theorem dX6_pour_76 : decode cX6_pour 76 = .ok (.if_icmp .eq 10, 3) := by decide +kernel
theorem dX6_pour_79 : decode cX6_pour 79 = .ok (.aload_n 0, 1) := by decide +kernel
theorem dX6_pour_80 : decode cX6_pour 80 = .ok (.bipush 7, 2) := by decide +kernel
theorem dX6_pour_82 : decode cX6_pour 82 = .ok (.invokevirtual 67, 3) := by decide +kernel
theorem dX6_pour_85 : decode cX6_pour 85 = .ok (.ireturn, 1) := by decide +kernel
theorem dX6_pour_86 : decode cX6_pour 86 = .ok (.aload 6, 2) := by decide +kernel
theorem dX6_pour_88 : decode cX6_pour 88 = .ok (.iload_n 2, 1) := by decide +kernel
theorem dX6_pour_89 : decode cX6_pour 89 = .ok (.iload 5, 2) := by decide +kernel
theorem dX6_pour_91 : decode cX6_pour 91 = .ok (.invokevirtual 83, 3) := by decide +kernel
theorem dX6_pour_94 : decode cX6_pour 94 = .ok (.ifCond .eq 15, 3) := by decide +kernel
theorem dX6_pour_97 : decode cX6_pour 97 = .ok (.aload 7, 2) := by decide +kernel
theorem dX6_pour_99 : decode cX6_pour 99 = .ok (.iload 4, 2) := by decide +kernel
theorem dX6_pour_101 : decode cX6_pour 101 = .ok (.iload 5, 2) := by decide +kernel
theorem dX6_pour_103 : decode cX6_pour 103 = .ok (.invokevirtual 83, 3) := by decide +kernel
theorem dX6_pour_106 : decode cX6_pour 106 = .ok (.ifCond .ne 9, 3) := by decide +kernel
theorem dX6_pour_109 : decode cX6_pour 109 = .ok (.aload_n 0, 1) := by decide +kernel
theorem dX6_pour_110 : decode cX6_pour 110 = .ok (.iconst 3, 1) := by decide +kernel
theorem dX6_pour_111 : decode cX6_pour 111 = .ok (.invokevirtual 67, 3) := by decide +kernel
theorem dX6_pour_114 : decode cX6_pour 114 = .ok (.ireturn, 1) := by decide +kernel
theorem dX6_pour_115 : decode cX6_pour 115 = .ok (.aload 6, 2) := by decide +kernel
theorem dX6_pour_117 : decode cX6_pour 117 = .ok (.getfield 87, 3) := by decide +kernel
theorem dX6_pour_120 : decode cX6_pour 120 = .ok (.iload_n 2, 1) := by decide +kernel
theorem dX6_pour_121 : decode cX6_pour 121 = .ok (.aload 7, 2) := by decide +kernel
theorem dX6_pour_123 : decode cX6_pour 123 = .ok (.getfield 87, 3) := by decide +kernel
theorem dX6_pour_126 : decode cX6_pour 126 = .ok (.iload 4, 2) := by decide +kernel
theorem dX6_pour_128 : decode cX6_pour 128 = .ok (.iload 5, 2) := by decide +kernel
theorem dX6_pour_130 : decode cX6_pour 130 = .ok (.invokestatic 102, 3) := by decide +kernel
theorem dX6_pour_133 : decode cX6_pour 133 = .ok (.aload_n 0, 1) := by decide +kernel
theorem dX6_pour_134 : decode cX6_pour 134 = .ok (.invokevirtual 75, 3) := by decide +kernel
theorem dX6_pour_137 : decode cX6_pour 137 = .ok (.ireturn, 1) := by decide +kernel
set_option maxRecDepth 20000 in
theorem ggX6_put_X6_columnAt : GoodIn wsX6_put wsX6_columnAt := goodIn_r _ [6, 7, 8, 9, 10, 5, 11, 95, 96, 97, 98, 99, 100] (by decide +kernel) (by decide +kernel)
set_option maxRecDepth 20000 in
theorem gX6_put_X6_columnAt : GoodIn wsX6_put (wsV RX6 108 RX6 yX6_columnAt wsX6_columnAt) := goodIn_app (goodIn_of _ (by decide +kernel)) ggX6_put_X6_columnAt
set_option maxRecDepth 20000 in
theorem ggX6_put_X6_isValueOrNone : GoodIn wsX6_put wsX6_isValueOrNone := goodIn_r _ [14, 15, 16, 9, 10, 5, 11] (by decide +kernel) (by decide +kernel)
set_option maxRecDepth 20000 in
theorem gX6_put_X6_isValueOrNone : GoodIn wsX6_put (va_wsS RX6 112 yX6_isValueOrNone wsX6_isValueOrNone) := goodIn_app (goodIn_of _ (by decide +kernel)) ggX6_put_X6_isValueOrNone
set_option maxRecDepth 20000 in
theorem ggX6_put_X6_within : GoodIn wsX6_put wsX6_within := goodIn_r _ [11] (by decide +kernel) (by decide +kernel)
set_option maxRecDepth 20000 in
theorem gX6_put_X6_within : GoodIn wsX6_put (va_wsS RX6 61 yX6_within wsX6_within) := goodIn_app (goodIn_of _ (by decide +kernel)) ggX6_put_X6_within
set_option maxRecDepth 20000 in
theorem ggX6_put_X6_no : GoodIn wsX6_put wsX6_no := goodIn_r _ [20, 21, 95, 96, 97, 98, 99, 100] (by decide +kernel) (by decide +kernel)
set_option maxRecDepth 20000 in
theorem gX6_put_X6_no : GoodIn wsX6_put (wsV RX6 67 RX6 yX6_no wsX6_no) := goodIn_app (goodIn_of _ (by decide +kernel)) ggX6_put_X6_no
set_option maxRecDepth 20000 in
theorem ggX6_put_X0_hasRoom : GoodIn wsX6_put wsX0_hasRoom := goodIn_r _ [26, 27, 28, 29, 25, 30, 31, 32, 101, 102, 103, 104, 105] (by decide +kernel) (by decide +kernel)
set_option maxRecDepth 20000 in
theorem gX6_put_X0_hasRoom : GoodIn wsX6_put (wsV RX6 118 RX0 yX0_hasRoom wsX0_hasRoom) := goodIn_app (goodIn_of _ (by decide +kernel)) ggX6_put_X0_hasRoom
set_option maxRecDepth 20000 in
theorem ggX6_put_X0_enter : GoodIn wsX6_put wsX0_enter := goodIn_r _ [36, 37, 38, 39, 40, 25, 41, 32, 42, 31, 43, 44, 5, 45, 16, 9, 10, 11, 46, 47, 48, 49, 50, 51, 52, 53, 54, 55, 56, 57, 58, 59, 60, 61, 62, 63, 64, 65, 66, 67, 68, 69, 70, 71, 72, 73, 74, 75, 76, 77, 78, 79, 80, 81, 82, 83, 84, 85, 86, 87, 88, 89, 90, 101, 102, 103, 104, 105, 106, 107, 108, 109, 110, 111, 112, 113, 114, 115, 116] (by decide +kernel) (by decide +kernel)
set_option maxRecDepth 20000 in
theorem gX6_put_X0_enter : GoodIn wsX6_put (wsV RX6 121 RX0 yX0_enter wsX0_enter) := goodIn_app (goodIn_of _ (by decide +kernel)) ggX6_put_X0_enter
set_option maxRecDepth 20000 in
theorem ggX6_put_X6_yes : GoodIn wsX6_put wsX6_yes := goodIn_r _ [94, 21, 95, 96, 97, 98, 99, 100] (by decide +kernel) (by decide +kernel)
set_option maxRecDepth 20000 in
theorem gX6_put_X6_yes : GoodIn wsX6_put (wsV RX6 75 RX6 yX6_yes wsX6_yes) := goodIn_app (goodIn_of _ (by decide +kernel)) ggX6_put_X6_yes
theorem dX6_put_0 : decode cX6_put 0 = .ok (.aload_n 0, 1) := by decide +kernel
theorem dX6_put_1 : decode cX6_put 1 = .ok (.iload_n 1, 1) := by decide +kernel
theorem dX6_put_2 : decode cX6_put 2 = .ok (.invokevirtual 108, 3) := by decide +kernel
theorem dX6_put_5 : decode cX6_put 5 = .ok (.astore 4, 2) := by decide +kernel
theorem dX6_put_7 : decode cX6_put 7 = .ok (.aload 4, 2) := by decide +kernel
theorem dX6_put_9 : decode cX6_put 9 = .ok (.ifnull 23, 3) := by decide +kernel
theorem dX6_put_12 : decode cX6_put 12 = .ok (.iload_n 2, 1) := by decide +kernel
theorem dX6_put_13 : decode cX6_put 13 = .ok (.i2l, 1) := by decide +kernel
theorem dX6_put_14 : decode cX6_put 14 = .ok (.invokestatic 112, 3) := by decide +kernel
theorem dX6_put_17 : decode cX6_put 17 = .ok (.ifCond .eq 15, 3) := by decide +kernel
theorem dX6_put_20 : decode cX6_put 20 = .ok (.iload_n 3, 1) := by decide +kernel
theorem dX6_put_21 : decode cX6_put 21 = .ok (.i2l, 1) := by decide +kernel
theorem dX6_put_22 : decode cX6_put 22 = .ok (.lconst 1, 1) := by decide +kernel
theorem dX6_put_23 : decode cX6_put 23 = .ok (.ldc2_w 116, 3) := by decide +kernel
theorem dX6_put_26 : decode cX6_put 26 = .ok (.invokestatic 61, 3) := by decide +kernel
theorem dX6_put_29 : decode cX6_put 29 = .ok (.ifCond .ne 9, 3) := by decide +kernel
theorem dX6_put_32 : decode cX6_put 32 = .ok (.aload_n 0, 1) := by decide +kernel
theorem dX6_put_33 : decode cX6_put 33 = .ok (.iconst 1, 1) := by decide +kernel
theorem dX6_put_34 : decode cX6_put 34 = .ok (.invokevirtual 67, 3) := by decide +kernel
theorem dX6_put_37 : decode cX6_put 37 = .ok (.ireturn, 1) := by decide +kernel
theorem dX6_put_38 : decode cX6_put 38 = .ok (.aload 4, 2) := by decide +kernel
theorem dX6_put_40 : decode cX6_put 40 = .ok (.iload_n 3, 1) := by decide +kernel
theorem dX6_put_41 : decode cX6_put 41 = .ok (.invokevirtual 118, 3) := by decide +kernel
theorem dX6_put_44 : decode cX6_put 44 = .ok (.ifCond .ne 9, 3) := by decide +kernel
theorem dX6_put_47 : decode cX6_put 47 = .ok (.aload_n 0, 1) := by decide +kernel
theorem dX6_put_48 : decode cX6_put 48 = .ok (.iconst 4, 1) := by decide +kernel
theorem dX6_put_49 : decode cX6_put 49 = .ok (.invokevirtual 67, 3) := by decide +kernel
theorem dX6_put_52 : decode cX6_put 52 = .ok (.ireturn, 1) := by decide +kernel
theorem dX6_put_53 : decode cX6_put 53 = .ok (.aload 4, 2) := by decide +kernel
theorem dX6_put_55 : decode cX6_put 55 = .ok (.iload_n 2, 1) := by decide +kernel
theorem dX6_put_56 : decode cX6_put 56 = .ok (.iload_n 3, 1) := by decide +kernel
theorem dX6_put_57 : decode cX6_put 57 = .ok (.invokevirtual 121, 3) := by decide +kernel
theorem dX6_put_60 : decode cX6_put 60 = .ok (.aload_n 0, 1) := by decide +kernel
theorem dX6_put_61 : decode cX6_put 61 = .ok (.invokevirtual 75, 3) := by decide +kernel
theorem dX6_put_64 : decode cX6_put 64 = .ok (.ireturn, 1) := by decide +kernel
set_option maxRecDepth 20000 in
theorem ggX6_strike_X6_columnAt : GoodIn wsX6_strike wsX6_columnAt := goodIn_r _ [6, 7, 8, 9, 10, 5, 11, 64, 65, 66, 67, 68, 69] (by decide +kernel) (by decide +kernel)
set_option maxRecDepth 20000 in
theorem gX6_strike_X6_columnAt : GoodIn wsX6_strike (wsV RX6 108 RX6 yX6_columnAt wsX6_columnAt) := goodIn_app (goodIn_of _ (by decide +kernel)) ggX6_strike_X6_columnAt
set_option maxRecDepth 20000 in
theorem ggX6_strike_X6_isValueOrNone : GoodIn wsX6_strike wsX6_isValueOrNone := goodIn_r _ [14, 15, 16, 9, 10, 5, 11] (by decide +kernel) (by decide +kernel)
set_option maxRecDepth 20000 in
theorem gX6_strike_X6_isValueOrNone : GoodIn wsX6_strike (va_wsS RX6 112 yX6_isValueOrNone wsX6_isValueOrNone) := goodIn_app (goodIn_of _ (by decide +kernel)) ggX6_strike_X6_isValueOrNone
set_option maxRecDepth 20000 in
theorem ggX6_strike_X6_within : GoodIn wsX6_strike wsX6_within := goodIn_r _ [11] (by decide +kernel) (by decide +kernel)
set_option maxRecDepth 20000 in
theorem gX6_strike_X6_within : GoodIn wsX6_strike (va_wsS RX6 61 yX6_within wsX6_within) := goodIn_app (goodIn_of _ (by decide +kernel)) ggX6_strike_X6_within
set_option maxRecDepth 20000 in
theorem ggX6_strike_X6_no : GoodIn wsX6_strike wsX6_no := goodIn_r _ [20, 21, 64, 65, 66, 67, 68, 69] (by decide +kernel) (by decide +kernel)
set_option maxRecDepth 20000 in
theorem gX6_strike_X6_no : GoodIn wsX6_strike (wsV RX6 67 RX6 yX6_no wsX6_no) := goodIn_app (goodIn_of _ (by decide +kernel)) ggX6_strike_X6_no
set_option maxRecDepth 20000 in
theorem ggX6_strike_X0_trueCount : GoodIn wsX6_strike wsX0_trueCount := goodIn_r _ [26, 27, 28, 29, 5, 30, 16, 9, 10, 11, 70, 71, 72, 73, 74] (by decide +kernel) (by decide +kernel)
set_option maxRecDepth 20000 in
theorem gX6_strike_X0_trueCount : GoodIn wsX6_strike (wsV RX6 124 RX0 yX0_trueCount wsX0_trueCount) := goodIn_app (goodIn_of _ (by decide +kernel)) ggX6_strike_X0_trueCount
set_option maxRecDepth 20000 in
theorem ggX6_strike_X0_change : GoodIn wsX6_strike wsX0_change := goodIn_r _ [34, 28, 27, 35, 36, 29, 5, 30, 16, 9, 10, 11, 37, 38, 39, 40, 41, 42, 43, 44, 45, 46, 47, 48, 49, 50, 51, 52, 53, 54, 55, 56, 57, 58, 59, 70, 71, 72, 73, 74, 75, 76, 77, 78, 79, 80, 81] (by decide +kernel) (by decide +kernel)
set_option maxRecDepth 20000 in
theorem gX6_strike_X0_change : GoodIn wsX6_strike (wsV RX6 127 RX0 yX0_change wsX0_change) := goodIn_app (goodIn_of _ (by decide +kernel)) ggX6_strike_X0_change
set_option maxRecDepth 20000 in
theorem ggX6_strike_X6_yes : GoodIn wsX6_strike wsX6_yes := goodIn_r _ [63, 21, 64, 65, 66, 67, 68, 69] (by decide +kernel) (by decide +kernel)
set_option maxRecDepth 20000 in
theorem gX6_strike_X6_yes : GoodIn wsX6_strike (wsV RX6 75 RX6 yX6_yes wsX6_yes) := goodIn_app (goodIn_of _ (by decide +kernel)) ggX6_strike_X6_yes
theorem dX6_strike_0 : decode cX6_strike 0 = .ok (.aload_n 0, 1) := by decide +kernel
theorem dX6_strike_1 : decode cX6_strike 1 = .ok (.iload_n 1, 1) := by decide +kernel
theorem dX6_strike_2 : decode cX6_strike 2 = .ok (.invokevirtual 108, 3) := by decide +kernel
theorem dX6_strike_5 : decode cX6_strike 5 = .ok (.astore 4, 2) := by decide +kernel
theorem dX6_strike_7 : decode cX6_strike 7 = .ok (.aload 4, 2) := by decide +kernel
theorem dX6_strike_9 : decode cX6_strike 9 = .ok (.ifnull 23, 3) := by decide +kernel
theorem dX6_strike_12 : decode cX6_strike 12 = .ok (.iload_n 2, 1) := by decide +kernel
theorem dX6_strike_13 : decode cX6_strike 13 = .ok (.i2l, 1) := by decide +kernel
theorem dX6_strike_14 : decode cX6_strike 14 = .ok (.invokestatic 112, 3) := by decide +kernel
theorem dX6_strike_17 : decode cX6_strike 17 = .ok (.ifCond .eq 15, 3) := by decide +kernel
theorem dX6_strike_20 : decode cX6_strike 20 = .ok (.iload_n 3, 1) := by decide +kernel
theorem dX6_strike_21 : decode cX6_strike 21 = .ok (.i2l, 1) := by decide +kernel
theorem dX6_strike_22 : decode cX6_strike 22 = .ok (.lconst 1, 1) := by decide +kernel
theorem dX6_strike_23 : decode cX6_strike 23 = .ok (.ldc2_w 116, 3) := by decide +kernel
theorem dX6_strike_26 : decode cX6_strike 26 = .ok (.invokestatic 61, 3) := by decide +kernel
theorem dX6_strike_29 : decode cX6_strike 29 = .ok (.ifCond .ne 9, 3) := by decide +kernel
theorem dX6_strike_32 : decode cX6_strike 32 = .ok (.aload_n 0, 1) := by decide +kernel
theorem dX6_strike_33 : decode cX6_strike 33 = .ok (.iconst 1, 1) := by decide +kernel
theorem dX6_strike_34 : decode cX6_strike 34 = .ok (.invokevirtual 67, 3) := by decide +kernel
theorem dX6_strike_37 : decode cX6_strike 37 = .ok (.ireturn, 1) := by decide +kernel
theorem dX6_strike_38 : decode cX6_strike 38 = .ok (.aload 4, 2) := by decide +kernel
theorem dX6_strike_40 : decode cX6_strike 40 = .ok (.iload_n 2, 1) := by decide +kernel
theorem dX6_strike_41 : decode cX6_strike 41 = .ok (.invokevirtual 124, 3) := by decide +kernel
theorem dX6_strike_44 : decode cX6_strike 44 = .ok (.iload_n 3, 1) := by decide +kernel
theorem dX6_strike_45 : decode cX6_strike 45 = .ok (.if_icmp .ge 9, 3) := by decide +kernel
theorem dX6_strike_48 : decode cX6_strike 48 = .ok (.aload_n 0, 1) := by decide +kernel
theorem dX6_strike_49 : decode cX6_strike 49 = .ok (.iconst 4, 1) := by decide +kernel
theorem dX6_strike_50 : decode cX6_strike 50 = .ok (.invokevirtual 67, 3) := by decide +kernel
theorem dX6_strike_53 : decode cX6_strike 53 = .ok (.ireturn, 1) := by decide +kernel
theorem dX6_strike_54 : decode cX6_strike 54 = .ok (.aload 4, 2) := by decide +kernel
theorem dX6_strike_56 : decode cX6_strike 56 = .ok (.iload_n 2, 1) := by decide +kernel
theorem dX6_strike_57 : decode cX6_strike 57 = .ok (.iload_n 3, 1) := by decide +kernel
theorem dX6_strike_58 : decode cX6_strike 58 = .ok (.ineg, 1) := by decide +kernel
theorem dX6_strike_59 : decode cX6_strike 59 = .ok (.invokevirtual 127, 3) := by decide +kernel
theorem dX6_strike_62 : decode cX6_strike 62 = .ok (.aload_n 0, 1) := by decide +kernel
theorem dX6_strike_63 : decode cX6_strike 63 = .ok (.invokevirtual 75, 3) := by decide +kernel
theorem dX6_strike_66 : decode cX6_strike 66 = .ok (.ireturn, 1) := by decide +kernel
set_option maxRecDepth 20000 in
theorem ggX6_pack_X6_columnAt : GoodIn wsX6_pack wsX6_columnAt := goodIn_r _ [8, 9, 10, 11, 12, 7, 13, 113, 114, 115, 116, 117, 118] (by decide +kernel) (by decide +kernel)
set_option maxRecDepth 20000 in
theorem gX6_pack_X6_columnAt : GoodIn wsX6_pack (wsV RX6 108 RX6 yX6_columnAt wsX6_columnAt) := goodIn_app (goodIn_of _ (by decide +kernel)) ggX6_pack_X6_columnAt
set_option maxRecDepth 20000 in
theorem ggX6_pack_X6_trayAt : GoodIn wsX6_pack wsX6_trayAt := goodIn_r _ [17, 18, 19, 11, 12, 7, 13, 113, 114, 115, 116, 117, 118] (by decide +kernel) (by decide +kernel)
set_option maxRecDepth 20000 in
theorem gX6_pack_X6_trayAt : GoodIn wsX6_pack (wsV RX6 55 RX6 yX6_trayAt wsX6_trayAt) := goodIn_app (goodIn_of _ (by decide +kernel)) ggX6_pack_X6_trayAt
set_option maxRecDepth 20000 in
theorem ggX6_pack_X6_none : GoodIn wsX6_pack wsX6_none := goodIn_r _ [23, 24, 113, 114, 115, 116, 117, 118] (by decide +kernel) (by decide +kernel)
set_option maxRecDepth 20000 in
theorem gX6_pack_X6_none : GoodIn wsX6_pack (wsV RX6 95 RX6 yX6_none wsX6_none) := goodIn_app (goodIn_of _ (by decide +kernel)) ggX6_pack_X6_none
set_option maxRecDepth 20000 in
theorem ggX6_pack_X5_holdsRowsAlone : GoodIn wsX6_pack wsX5_holdsRowsAlone := goodIn_r _ [29, 30, 31, 32, 7, 33, 34, 35, 11, 12, 13, 109, 110, 111, 112] (by decide +kernel) (by decide +kernel)
set_option maxRecDepth 20000 in
theorem gX6_pack_X5_holdsRowsAlone : GoodIn wsX6_pack (wsV RX6 130 RX5 yX5_holdsRowsAlone wsX5_holdsRowsAlone) := goodIn_app (goodIn_of _ (by decide +kernel)) ggX6_pack_X5_holdsRowsAlone
set_option maxRecDepth 20000 in
theorem ggX6_pack_X0_hasRoom : GoodIn wsX6_pack wsX0_hasRoom := goodIn_r _ [40, 41, 42, 43, 39, 44, 45, 46, 119, 120, 121, 122, 123] (by decide +kernel) (by decide +kernel)
set_option maxRecDepth 20000 in
theorem gX6_pack_X0_hasRoom : GoodIn wsX6_pack (wsV RX6 118 RX0 yX0_hasRoom wsX0_hasRoom) := goodIn_app (goodIn_of _ (by decide +kernel)) ggX6_pack_X0_hasRoom
set_option maxRecDepth 20000 in
theorem ggX6_pack_X0_enter : GoodIn wsX6_pack wsX0_enter := goodIn_r _ [50, 51, 52, 53, 54, 39, 55, 46, 56, 45, 57, 58, 7, 59, 35, 11, 12, 13, 60, 61, 62, 63, 64, 65, 66, 67, 68, 69, 70, 71, 72, 73, 74, 75, 76, 77, 78, 79, 80, 81, 82, 83, 84, 85, 86, 87, 88, 89, 90, 91, 92, 93, 94, 95, 96, 97, 98, 99, 100, 101, 102, 103, 104, 119, 120, 121, 122, 123, 124, 125, 126, 127, 128, 129, 130, 131, 132, 133, 134] (by decide +kernel) (by decide +kernel)
set_option maxRecDepth 20000 in
theorem gX6_pack_X0_enter : GoodIn wsX6_pack (wsV RX6 121 RX0 yX0_enter wsX0_enter) := goodIn_app (goodIn_of _ (by decide +kernel)) ggX6_pack_X0_enter
set_option maxRecDepth 20000 in
theorem ggX6_pack_X6_told : GoodIn wsX6_pack wsX6_told := goodIn_r _ [108, 24, 113, 114, 115, 116, 117, 118] (by decide +kernel) (by decide +kernel)
set_option maxRecDepth 20000 in
theorem gX6_pack_X6_told : GoodIn wsX6_pack (wsV RX6 136 RX6 yX6_told wsX6_told) := goodIn_app (goodIn_of _ (by decide +kernel)) ggX6_pack_X6_told
theorem dX6_pack_0 : decode cX6_pack 0 = .ok (.aload_n 0, 1) := by decide +kernel
theorem dX6_pack_1 : decode cX6_pack 1 = .ok (.iload_n 1, 1) := by decide +kernel
theorem dX6_pack_2 : decode cX6_pack 2 = .ok (.invokevirtual 108, 3) := by decide +kernel
theorem dX6_pack_5 : decode cX6_pack 5 = .ok (.astore_n 3, 1) := by decide +kernel
theorem dX6_pack_6 : decode cX6_pack 6 = .ok (.aload_n 0, 1) := by decide +kernel
theorem dX6_pack_7 : decode cX6_pack 7 = .ok (.iload_n 2, 1) := by decide +kernel
theorem dX6_pack_8 : decode cX6_pack 8 = .ok (.invokevirtual 55, 3) := by decide +kernel
theorem dX6_pack_11 : decode cX6_pack 11 = .ok (.astore 4, 2) := by decide +kernel
theorem dX6_pack_13 : decode cX6_pack 13 = .ok (.aload_n 3, 1) := by decide +kernel
theorem dX6_pack_14 : decode cX6_pack 14 = .ok (.ifnull 8, 3) := by decide +kernel
theorem dX6_pack_17 : decode cX6_pack 17 = .ok (.aload 4, 2) := by decide +kernel
theorem dX6_pack_19 : decode cX6_pack 19 = .ok (.ifnonnull 9, 3) := by decide +kernel
theorem dX6_pack_22 : decode cX6_pack 22 = .ok (.aload_n 0, 1) := by decide +kernel
theorem dX6_pack_23 : decode cX6_pack 23 = .ok (.iconst 1, 1) := by decide +kernel
theorem dX6_pack_24 : decode cX6_pack 24 = .ok (.invokevirtual 95, 3) := by decide +kernel
theorem dX6_pack_27 : decode cX6_pack 27 = .ok (.ireturn, 1) := by decide +kernel
theorem dX6_pack_28 : decode cX6_pack 28 = .ok (.aload 4, 2) := by decide +kernel
theorem dX6_pack_30 : decode cX6_pack 30 = .ok (.getfield 79, 3) := by decide +kernel
theorem dX6_pack_33 : decode cX6_pack 33 = .ok (.ifCond .ne 9, 3) := by decide +kernel
theorem dX6_pack_36 : decode cX6_pack 36 = .ok (.aload_n 0, 1) := by decide +kernel
theorem dX6_pack_37 : decode cX6_pack 37 = .ok (.iconst 2, 1) := by decide +kernel
theorem dX6_pack_38 : decode cX6_pack 38 = .ok (.invokevirtual 95, 3) := by decide +kernel
theorem dX6_pack_41 : decode cX6_pack 41 = .ok (.ireturn, 1) := by decide +kernel
theorem dX6_pack_42 : decode cX6_pack 42 = .ok (.aload 4, 2) := by decide +kernel
theorem dX6_pack_44 : decode cX6_pack 44 = .ok (.invokevirtual 130, 3) := by decide +kernel
theorem dX6_pack_47 : decode cX6_pack 47 = .ok (.ifCond .ne 9, 3) := by decide +kernel
theorem dX6_pack_50 : decode cX6_pack 50 = .ok (.aload_n 0, 1) := by decide +kernel
theorem dX6_pack_51 : decode cX6_pack 51 = .ok (.iconst 1, 1) := by decide +kernel
theorem dX6_pack_52 : decode cX6_pack 52 = .ok (.invokevirtual 95, 3) := by decide +kernel
theorem dX6_pack_55 : decode cX6_pack 55 = .ok (.ireturn, 1) := by decide +kernel
theorem dX6_pack_56 : decode cX6_pack 56 = .ok (.aload_n 3, 1) := by decide +kernel
theorem dX6_pack_57 : decode cX6_pack 57 = .ok (.aload 4, 2) := by decide +kernel
theorem dX6_pack_59 : decode cX6_pack 59 = .ok (.getfield 133, 3) := by decide +kernel
theorem dX6_pack_62 : decode cX6_pack 62 = .ok (.invokevirtual 118, 3) := by decide +kernel
theorem dX6_pack_65 : decode cX6_pack 65 = .ok (.ifCond .ne 9, 3) := by decide +kernel
theorem dX6_pack_68 : decode cX6_pack 68 = .ok (.aload_n 0, 1) := by decide +kernel
theorem dX6_pack_69 : decode cX6_pack 69 = .ok (.iconst 4, 1) := by decide +kernel
theorem dX6_pack_70 : decode cX6_pack 70 = .ok (.invokevirtual 95, 3) := by decide +kernel
theorem dX6_pack_73 : decode cX6_pack 73 = .ok (.ireturn, 1) := by decide +kernel
theorem dX6_pack_74 : decode cX6_pack 74 = .ok (.iconst 0, 1) := by decide +kernel
theorem dX6_pack_75 : decode cX6_pack 75 = .ok (.istore 5, 2) := by decide +kernel
theorem dX6_pack_77 : decode cX6_pack 77 = .ok (.iload 5, 2) := by decide +kernel
theorem dX6_pack_79 : decode cX6_pack 79 = .ok (.aload 4, 2) := by decide +kernel
theorem dX6_pack_81 : decode cX6_pack 81 = .ok (.getfield 133, 3) := by decide +kernel
theorem dX6_pack_84 : decode cX6_pack 84 = .ok (.if_icmp .ge 23, 3) := by decide +kernel
theorem dX6_pack_87 : decode cX6_pack 87 = .ok (.aload_n 3, 1) := by decide +kernel
theorem dX6_pack_88 : decode cX6_pack 88 = .ok (.aload 4, 2) := by decide +kernel
theorem dX6_pack_90 : decode cX6_pack 90 = .ok (.getfield 87, 3) := by decide +kernel
theorem dX6_pack_93 : decode cX6_pack 93 = .ok (.iload 5, 2) := by decide +kernel
theorem dX6_pack_95 : decode cX6_pack 95 = .ok (.laload, 1) := by decide +kernel
theorem dX6_pack_96 : decode cX6_pack 96 = .ok (.l2i, 1) := by decide +kernel
theorem dX6_pack_97 : decode cX6_pack 97 = .ok (.iconst 1, 1) := by decide +kernel
theorem dX6_pack_98 : decode cX6_pack 98 = .ok (.invokevirtual 121, 3) := by decide +kernel
theorem dX6_pack_101 : decode cX6_pack 101 = .ok (.iinc 5 1, 3) := by decide +kernel
theorem dX6_pack_104 : decode cX6_pack 104 = .ok (.goto (-27), 3) := by decide +kernel
theorem dX6_pack_107 : decode cX6_pack 107 = .ok (.aload_n 0, 1) := by decide +kernel
theorem dX6_pack_108 : decode cX6_pack 108 = .ok (.aload 4, 2) := by decide +kernel
theorem dX6_pack_110 : decode cX6_pack 110 = .ok (.getfield 133, 3) := by decide +kernel
theorem dX6_pack_113 : decode cX6_pack 113 = .ok (.invokevirtual 136, 3) := by decide +kernel
theorem dX6_pack_116 : decode cX6_pack 116 = .ok (.ireturn, 1) := by decide +kernel
set_option maxRecDepth 20000 in
theorem ggX6_truly_X6_columnAt : GoodIn wsX6_truly wsX6_columnAt := goodIn_r _ [5, 6, 7, 8, 9, 4, 10, 34, 35, 36, 37, 38, 39] (by decide +kernel) (by decide +kernel)
set_option maxRecDepth 20000 in
theorem gX6_truly_X6_columnAt : GoodIn wsX6_truly (wsV RX6 108 RX6 yX6_columnAt wsX6_columnAt) := goodIn_app (goodIn_of _ (by decide +kernel)) ggX6_truly_X6_columnAt
set_option maxRecDepth 20000 in
theorem ggX6_truly_X6_isValueOrNone : GoodIn wsX6_truly wsX6_isValueOrNone := goodIn_r _ [13, 14, 15, 8, 9, 4, 10] (by decide +kernel) (by decide +kernel)
set_option maxRecDepth 20000 in
theorem gX6_truly_X6_isValueOrNone : GoodIn wsX6_truly (va_wsS RX6 112 yX6_isValueOrNone wsX6_isValueOrNone) := goodIn_app (goodIn_of _ (by decide +kernel)) ggX6_truly_X6_isValueOrNone
set_option maxRecDepth 20000 in
theorem ggX6_truly_X6_none : GoodIn wsX6_truly wsX6_none := goodIn_r _ [19, 20, 34, 35, 36, 37, 38, 39] (by decide +kernel) (by decide +kernel)
set_option maxRecDepth 20000 in
theorem gX6_truly_X6_none : GoodIn wsX6_truly (wsV RX6 95 RX6 yX6_none wsX6_none) := goodIn_app (goodIn_of _ (by decide +kernel)) ggX6_truly_X6_none
set_option maxRecDepth 20000 in
theorem ggX6_truly_X0_trueCount : GoodIn wsX6_truly wsX0_trueCount := goodIn_r _ [25, 26, 27, 28, 4, 29, 15, 8, 9, 10, 40, 41, 42, 43, 44] (by decide +kernel) (by decide +kernel)
set_option maxRecDepth 20000 in
theorem gX6_truly_X0_trueCount : GoodIn wsX6_truly (wsV RX6 124 RX0 yX0_trueCount wsX0_trueCount) := goodIn_app (goodIn_of _ (by decide +kernel)) ggX6_truly_X0_trueCount
set_option maxRecDepth 20000 in
theorem ggX6_truly_X6_told : GoodIn wsX6_truly wsX6_told := goodIn_r _ [33, 20, 34, 35, 36, 37, 38, 39] (by decide +kernel) (by decide +kernel)
set_option maxRecDepth 20000 in
theorem gX6_truly_X6_told : GoodIn wsX6_truly (wsV RX6 136 RX6 yX6_told wsX6_told) := goodIn_app (goodIn_of _ (by decide +kernel)) ggX6_truly_X6_told
theorem dX6_truly_0 : decode cX6_truly 0 = .ok (.aload_n 0, 1) := by decide +kernel
theorem dX6_truly_1 : decode cX6_truly 1 = .ok (.iload_n 1, 1) := by decide +kernel
theorem dX6_truly_2 : decode cX6_truly 2 = .ok (.invokevirtual 108, 3) := by decide +kernel
theorem dX6_truly_5 : decode cX6_truly 5 = .ok (.astore_n 3, 1) := by decide +kernel
theorem dX6_truly_6 : decode cX6_truly 6 = .ok (.aload_n 3, 1) := by decide +kernel
theorem dX6_truly_7 : decode cX6_truly 7 = .ok (.ifnull 11, 3) := by decide +kernel
theorem dX6_truly_10 : decode cX6_truly 10 = .ok (.iload_n 2, 1) := by decide +kernel
theorem dX6_truly_11 : decode cX6_truly 11 = .ok (.i2l, 1) := by decide +kernel
theorem dX6_truly_12 : decode cX6_truly 12 = .ok (.invokestatic 112, 3) := by decide +kernel
theorem dX6_truly_15 : decode cX6_truly 15 = .ok (.ifCond .ne 9, 3) := by decide +kernel
theorem dX6_truly_18 : decode cX6_truly 18 = .ok (.aload_n 0, 1) := by decide +kernel
theorem dX6_truly_19 : decode cX6_truly 19 = .ok (.iconst 1, 1) := by decide +kernel
theorem dX6_truly_20 : decode cX6_truly 20 = .ok (.invokevirtual 95, 3) := by decide +kernel
theorem dX6_truly_23 : decode cX6_truly 23 = .ok (.ireturn, 1) := by decide +kernel
theorem dX6_truly_24 : decode cX6_truly 24 = .ok (.aload_n 0, 1) := by decide +kernel
theorem dX6_truly_25 : decode cX6_truly 25 = .ok (.aload_n 3, 1) := by decide +kernel
theorem dX6_truly_26 : decode cX6_truly 26 = .ok (.iload_n 2, 1) := by decide +kernel
theorem dX6_truly_27 : decode cX6_truly 27 = .ok (.invokevirtual 124, 3) := by decide +kernel
theorem dX6_truly_30 : decode cX6_truly 30 = .ok (.invokevirtual 136, 3) := by decide +kernel
theorem dX6_truly_33 : decode cX6_truly 33 = .ok (.ireturn, 1) := by decide +kernel
set_option maxRecDepth 20000 in
theorem ggX6_rows_X6_columnAt : GoodIn wsX6_rows wsX6_columnAt := goodIn_r _ [6, 7, 8, 9, 10, 5, 11, 38, 39, 40, 41, 42, 43] (by decide +kernel) (by decide +kernel)
set_option maxRecDepth 20000 in
theorem gX6_rows_X6_columnAt : GoodIn wsX6_rows (wsV RX6 108 RX6 yX6_columnAt wsX6_columnAt) := goodIn_app (goodIn_of _ (by decide +kernel)) ggX6_rows_X6_columnAt
set_option maxRecDepth 20000 in
theorem ggX6_rows_X6_none : GoodIn wsX6_rows wsX6_none := goodIn_r _ [15, 16, 38, 39, 40, 41, 42, 43] (by decide +kernel) (by decide +kernel)
set_option maxRecDepth 20000 in
theorem gX6_rows_X6_none : GoodIn wsX6_rows (wsV RX6 95 RX6 yX6_none wsX6_none) := goodIn_app (goodIn_of _ (by decide +kernel)) ggX6_rows_X6_none
set_option maxRecDepth 20000 in
theorem ggX6_rows_X6_told : GoodIn wsX6_rows wsX6_told := goodIn_r _ [20, 16, 38, 39, 40, 41, 42, 43] (by decide +kernel) (by decide +kernel)
set_option maxRecDepth 20000 in
theorem gX6_rows_X6_told : GoodIn wsX6_rows (wsV RX6 136 RX6 yX6_told wsX6_told) := goodIn_app (goodIn_of _ (by decide +kernel)) ggX6_rows_X6_told
set_option maxRecDepth 20000 in
theorem ggX6_rows_X0_allRows : GoodIn wsX6_rows wsX0_allRows := goodIn_r _ [25, 26, 27, 33, 34, 35, 36, 37] (by decide +kernel) (by decide +kernel)
set_option maxRecDepth 20000 in
theorem gX6_rows_X0_allRows : GoodIn wsX6_rows (wsV RX6 142 RX0 yX0_allRows wsX0_allRows) := goodIn_app (goodIn_of _ (by decide +kernel)) ggX6_rows_X0_allRows
set_option maxRecDepth 20000 in
theorem ggX6_rows_X0_valuesWithRows : GoodIn wsX6_rows wsX0_valuesWithRows := goodIn_r _ [31, 32, 33, 34, 35, 36, 37] (by decide +kernel) (by decide +kernel)
set_option maxRecDepth 20000 in
theorem gX6_rows_X0_valuesWithRows : GoodIn wsX6_rows (wsV RX6 146 RX0 yX0_valuesWithRows wsX0_valuesWithRows) := goodIn_app (goodIn_of _ (by decide +kernel)) ggX6_rows_X0_valuesWithRows
theorem dX6_rows_0 : decode cX6_rows 0 = .ok (.aload_n 0, 1) := by decide +kernel
theorem dX6_rows_1 : decode cX6_rows 1 = .ok (.iload_n 1, 1) := by decide +kernel
theorem dX6_rows_2 : decode cX6_rows 2 = .ok (.invokevirtual 108, 3) := by decide +kernel
theorem dX6_rows_5 : decode cX6_rows 5 = .ok (.astore_n 3, 1) := by decide +kernel
theorem dX6_rows_6 : decode cX6_rows 6 = .ok (.aload_n 3, 1) := by decide +kernel
theorem dX6_rows_7 : decode cX6_rows 7 = .ok (.ifnonnull 9, 3) := by decide +kernel
theorem dX6_rows_10 : decode cX6_rows 10 = .ok (.aload_n 0, 1) := by decide +kernel
theorem dX6_rows_11 : decode cX6_rows 11 = .ok (.iconst 1, 1) := by decide +kernel
theorem dX6_rows_12 : decode cX6_rows 12 = .ok (.invokevirtual 95, 3) := by decide +kernel
theorem dX6_rows_15 : decode cX6_rows 15 = .ok (.ireturn, 1) := by decide +kernel
theorem dX6_rows_16 : decode cX6_rows 16 = .ok (.iload_n 2, 1) := by decide +kernel
theorem dX6_rows_17 : decode cX6_rows 17 = .ok (.tableswitch 54 0 2 #[27, 36, 45], 27) := by decide +kernel
theorem dX6_rows_44 : decode cX6_rows 44 = .ok (.aload_n 0, 1) := by decide +kernel
theorem dX6_rows_45 : decode cX6_rows 45 = .ok (.aload_n 3, 1) := by decide +kernel
theorem dX6_rows_46 : decode cX6_rows 46 = .ok (.getfield 139, 3) := by decide +kernel
theorem dX6_rows_49 : decode cX6_rows 49 = .ok (.invokevirtual 136, 3) := by decide +kernel
theorem dX6_rows_52 : decode cX6_rows 52 = .ok (.ireturn, 1) := by decide +kernel
theorem dX6_rows_53 : decode cX6_rows 53 = .ok (.aload_n 0, 1) := by decide +kernel
theorem dX6_rows_54 : decode cX6_rows 54 = .ok (.aload_n 3, 1) := by decide +kernel
theorem dX6_rows_55 : decode cX6_rows 55 = .ok (.invokevirtual 142, 3) := by decide +kernel
theorem dX6_rows_58 : decode cX6_rows 58 = .ok (.invokevirtual 136, 3) := by decide +kernel
theorem dX6_rows_61 : decode cX6_rows 61 = .ok (.ireturn, 1) := by decide +kernel
theorem dX6_rows_62 : decode cX6_rows 62 = .ok (.aload_n 0, 1) := by decide +kernel
theorem dX6_rows_63 : decode cX6_rows 63 = .ok (.aload_n 3, 1) := by decide +kernel
theorem dX6_rows_64 : decode cX6_rows 64 = .ok (.invokevirtual 146, 3) := by decide +kernel
theorem dX6_rows_67 : decode cX6_rows 67 = .ok (.invokevirtual 136, 3) := by decide +kernel
theorem dX6_rows_70 : decode cX6_rows 70 = .ok (.ireturn, 1) := by decide +kernel
theorem dX6_rows_71 : decode cX6_rows 71 = .ok (.aload_n 0, 1) := by decide +kernel
theorem dX6_rows_72 : decode cX6_rows 72 = .ok (.iconst 1, 1) := by decide +kernel
theorem dX6_rows_73 : decode cX6_rows 73 = .ok (.invokevirtual 95, 3) := by decide +kernel
theorem dX6_rows_76 : decode cX6_rows 76 = .ok (.ireturn, 1) := by decide +kernel
set_option maxRecDepth 20000 in
theorem ggX6_make_X6_columnAt : GoodIn wsX6_make wsX6_columnAt := goodIn_r _ [13, 14, 15, 16, 17, 12, 18, 114, 115, 116, 117, 118, 119] (by decide +kernel) (by decide +kernel)
set_option maxRecDepth 20000 in
theorem gX6_make_X6_columnAt : GoodIn wsX6_make (wsV RX6 108 RX6 yX6_columnAt wsX6_columnAt) := goodIn_app (goodIn_of _ (by decide +kernel)) ggX6_make_X6_columnAt
set_option maxRecDepth 20000 in
theorem ggX6_make_X6_within : GoodIn wsX6_make wsX6_within := goodIn_r _ [18] (by decide +kernel) (by decide +kernel)
set_option maxRecDepth 20000 in
theorem gX6_make_X6_within : GoodIn wsX6_make (va_wsS RX6 61 yX6_within wsX6_within) := goodIn_app (goodIn_of _ (by decide +kernel)) ggX6_make_X6_within
set_option maxRecDepth 20000 in
theorem ggX6_make_X6_none : GoodIn wsX6_make wsX6_none := goodIn_r _ [22, 23, 114, 115, 116, 117, 118, 119] (by decide +kernel) (by decide +kernel)
set_option maxRecDepth 20000 in
theorem gX6_make_X6_none : GoodIn wsX6_make (wsV RX6 95 RX6 yX6_none wsX6_none) := goodIn_app (goodIn_of _ (by decide +kernel)) ggX6_make_X6_none
set_option maxRecDepth 20000 in
theorem ggX6_make_X4_chooseHeavy : GoodIn wsX6_make wsX4_chooseHeavy := goodIn_r _ [28, 29, 30, 31, 32, 33, 27, 34, 120, 121, 122, 123, 124, 125, 126] (by decide +kernel) (by decide +kernel)
set_option maxRecDepth 20000 in
theorem gX6_make_X4_chooseHeavy : GoodIn wsX6_make (wsV RX6 158 RX4 yX4_chooseHeavy wsX4_chooseHeavy) := goodIn_app (goodIn_of _ (by decide +kernel)) ggX6_make_X4_chooseHeavy
set_option maxRecDepth 20000 in
theorem ggX6_make_X2_lookAt : GoodIn wsX6_make wsX2_lookAt := goodIn_r _ [39, 40, 127, 128, 129, 130, 131] (by decide +kernel) (by decide +kernel)
set_option maxRecDepth 20000 in
theorem gX6_make_X2_lookAt : GoodIn wsX6_make (wsV RX6 166 RX2 yX2_lookAt wsX2_lookAt) := goodIn_app (goodIn_of _ (by decide +kernel)) ggX6_make_X2_lookAt
set_option maxRecDepth 20000 in
theorem ggX6_make_X2_plan : GoodIn wsX6_make wsX2_plan := goodIn_r _ [44, 45, 46, 47, 48, 38, 49, 50, 51, 52, 53, 54, 55, 56, 57, 58, 59, 60, 61, 62, 63, 64, 40, 65, 66, 67, 68, 69, 70, 71, 72, 73, 74, 75, 76, 77, 78, 79, 80, 81, 82, 83, 84, 85, 86, 87, 88, 89, 90, 91, 127, 128, 129, 130, 131] (by decide +kernel) (by decide +kernel)
set_option maxRecDepth 20000 in
theorem gX6_make_X2_plan : GoodIn wsX6_make (wsV RX6 170 RX2 yX2_plan wsX2_plan) := goodIn_app (goodIn_of _ (by decide +kernel)) ggX6_make_X2_plan
set_option maxRecDepth 20000 in
theorem ggX6_make_X4_begin : GoodIn wsX6_make wsX4_begin := goodIn_r _ [95, 96, 97, 98, 99, 100, 29, 101, 102, 103, 27, 104, 120, 121, 122, 123, 124, 125, 126] (by decide +kernel) (by decide +kernel)
set_option maxRecDepth 20000 in
theorem gX6_make_X4_begin : GoodIn wsX6_make (wsV RX6 176 RX4 yX4_begin wsX4_begin) := goodIn_app (goodIn_of _ (by decide +kernel)) ggX6_make_X4_begin
set_option maxRecDepth 20000 in
theorem ggX6_make_X6_told : GoodIn wsX6_make wsX6_told := goodIn_r _ [108, 23, 114, 115, 116, 117, 118, 119] (by decide +kernel) (by decide +kernel)
set_option maxRecDepth 20000 in
theorem gX6_make_X6_told : GoodIn wsX6_make (wsV RX6 136 RX6 yX6_told wsX6_told) := goodIn_app (goodIn_of _ (by decide +kernel)) ggX6_make_X6_told
theorem dX6_make_0 : decode cX6_make 0 = .ok (.aload_n 0, 1) := by decide +kernel
theorem dX6_make_1 : decode cX6_make 1 = .ok (.iload_n 1, 1) := by decide +kernel
theorem dX6_make_2 : decode cX6_make 2 = .ok (.invokevirtual 108, 3) := by decide +kernel
theorem dX6_make_5 : decode cX6_make 5 = .ok (.astore 5, 2) := by decide +kernel
theorem dX6_make_7 : decode cX6_make 7 = .ok (.aload 5, 2) := by decide +kernel
theorem dX6_make_9 : decode cX6_make 9 = .ok (.ifnull 40, 3) := by decide +kernel
theorem dX6_make_12 : decode cX6_make 12 = .ok (.iload_n 2, 1) := by decide +kernel
theorem dX6_make_13 : decode cX6_make 13 = .ok (.i2l, 1) := by decide +kernel
theorem dX6_make_14 : decode cX6_make 14 = .ok (.lconst 1, 1) := by decide +kernel
theorem dX6_make_15 : decode cX6_make 15 = .ok (.ldc2_w 149, 3) := by decide +kernel
theorem dX6_make_18 : decode cX6_make 18 = .ok (.invokestatic 61, 3) := by decide +kernel
theorem dX6_make_21 : decode cX6_make 21 = .ok (.ifCond .eq 28, 3) := by decide +kernel
theorem dX6_make_24 : decode cX6_make 24 = .ok (.iload 4, 2) := by decide +kernel
theorem dX6_make_26 : decode cX6_make 26 = .ok (.i2l, 1) := by decide +kernel
theorem dX6_make_27 : decode cX6_make 27 = .ok (.lconst 1, 1) := by decide +kernel
theorem dX6_make_28 : decode cX6_make 28 = .ok (.ldc2_w 116, 3) := by decide +kernel
theorem dX6_make_31 : decode cX6_make 31 = .ok (.invokestatic 61, 3) := by decide +kernel
theorem dX6_make_34 : decode cX6_make 34 = .ok (.ifCond .eq 15, 3) := by decide +kernel
theorem dX6_make_37 : decode cX6_make 37 = .ok (.iload_n 3, 1) := by decide +kernel
theorem dX6_make_38 : decode cX6_make 38 = .ok (.i2l, 1) := by decide +kernel
theorem dX6_make_39 : decode cX6_make 39 = .ok (.lconst 0, 1) := by decide +kernel
theorem dX6_make_40 : decode cX6_make 40 = .ok (.iload 4, 2) := by decide +kernel
theorem dX6_make_42 : decode cX6_make 42 = .ok (.i2l, 1) := by decide +kernel
theorem dX6_make_43 : decode cX6_make 43 = .ok (.invokestatic 61, 3) := by decide +kernel
theorem dX6_make_46 : decode cX6_make 46 = .ok (.ifCond .ne 9, 3) := by decide +kernel
theorem dX6_make_49 : decode cX6_make 49 = .ok (.aload_n 0, 1) := by decide +kernel
theorem dX6_make_50 : decode cX6_make 50 = .ok (.iconst 1, 1) := by decide +kernel
theorem dX6_make_51 : decode cX6_make 51 = .ok (.invokevirtual 95, 3) := by decide +kernel
theorem dX6_make_54 : decode cX6_make 54 = .ok (.ireturn, 1) := by decide +kernel
theorem dX6_make_55 : decode cX6_make 55 = .ok (.aload 5, 2) := by decide +kernel
theorem dX6_make_57 : decode cX6_make 57 = .ok (.getfield 151, 3) := by decide +kernel
theorem dX6_make_60 : decode cX6_make 60 = .ok (.aload 5, 2) := by decide +kernel
theorem dX6_make_62 : decode cX6_make 62 = .ok (.getfield 154, 3) := by decide +kernel
theorem dX6_make_65 : decode cX6_make 65 = .ok (.aload 5, 2) := by decide +kernel
theorem dX6_make_67 : decode cX6_make 67 = .ok (.getfield 139, 3) := by decide +kernel
theorem dX6_make_70 : decode cX6_make 70 = .ok (.iload_n 3, 1) := by decide +kernel
theorem dX6_make_71 : decode cX6_make 71 = .ok (.iload 4, 2) := by decide +kernel
theorem dX6_make_73 : decode cX6_make 73 = .ok (.invokevirtual 158, 3) := by decide +kernel
theorem dX6_make_76 : decode cX6_make 76 = .ok (.aload_n 0, 1) := by decide +kernel
theorem dX6_make_77 : decode cX6_make 77 = .ok (.getfield 24, 3) := by decide +kernel
theorem dX6_make_80 : decode cX6_make 80 = .ok (.aload 5, 2) := by decide +kernel
theorem dX6_make_82 : decode cX6_make 82 = .ok (.getfield 154, 3) := by decide +kernel
theorem dX6_make_85 : decode cX6_make 85 = .ok (.aload 5, 2) := by decide +kernel
theorem dX6_make_87 : decode cX6_make 87 = .ok (.getfield 151, 3) := by decide +kernel
theorem dX6_make_90 : decode cX6_make 90 = .ok (.getfield 162, 3) := by decide +kernel
theorem dX6_make_93 : decode cX6_make 93 = .ok (.invokevirtual 166, 3) := by decide +kernel
theorem dX6_make_96 : decode cX6_make 96 = .ok (.aload_n 0, 1) := by decide +kernel
theorem dX6_make_97 : decode cX6_make 97 = .ok (.getfield 24, 3) := by decide +kernel
theorem dX6_make_100 : decode cX6_make 100 = .ok (.iload_n 2, 1) := by decide +kernel
theorem dX6_make_101 : decode cX6_make 101 = .ok (.invokevirtual 170, 3) := by decide +kernel
theorem dX6_make_104 : decode cX6_make 104 = .ok (.istore 6, 2) := by decide +kernel
theorem dX6_make_106 : decode cX6_make 106 = .ok (.aload 5, 2) := by decide +kernel
theorem dX6_make_108 : decode cX6_make 108 = .ok (.getfield 151, 3) := by decide +kernel
theorem dX6_make_111 : decode cX6_make 111 = .ok (.aload_n 0, 1) := by decide +kernel
theorem dX6_make_112 : decode cX6_make 112 = .ok (.getfield 24, 3) := by decide +kernel
theorem dX6_make_115 : decode cX6_make 115 = .ok (.getfield 173, 3) := by decide +kernel
theorem dX6_make_118 : decode cX6_make 118 = .ok (.iload_n 2, 1) := by decide +kernel
theorem dX6_make_119 : decode cX6_make 119 = .ok (.aload 5, 2) := by decide +kernel
theorem dX6_make_121 : decode cX6_make 121 = .ok (.getfield 154, 3) := by decide +kernel
theorem dX6_make_124 : decode cX6_make 124 = .ok (.invokevirtual 176, 3) := by decide +kernel
theorem dX6_make_127 : decode cX6_make 127 = .ok (.aload_n 0, 1) := by decide +kernel
theorem dX6_make_128 : decode cX6_make 128 = .ok (.iload 6, 2) := by decide +kernel
theorem dX6_make_130 : decode cX6_make 130 = .ok (.invokevirtual 136, 3) := by decide +kernel
theorem dX6_make_133 : decode cX6_make 133 = .ok (.ireturn, 1) := by decide +kernel
set_option maxRecDepth 20000 in
theorem ggX6_away_X6_columnAt : GoodIn wsX6_away wsX6_columnAt := goodIn_r _ [7, 8, 9, 10, 11, 6, 12, 40, 41, 42, 43, 44, 45] (by decide +kernel) (by decide +kernel)
set_option maxRecDepth 20000 in
theorem gX6_away_X6_columnAt : GoodIn wsX6_away (wsV RX6 108 RX6 yX6_columnAt wsX6_columnAt) := goodIn_app (goodIn_of _ (by decide +kernel)) ggX6_away_X6_columnAt
set_option maxRecDepth 20000 in
theorem ggX6_away_X6_no : GoodIn wsX6_away wsX6_no := goodIn_r _ [16, 17, 40, 41, 42, 43, 44, 45] (by decide +kernel) (by decide +kernel)
set_option maxRecDepth 20000 in
theorem gX6_away_X6_no : GoodIn wsX6_away (wsV RX6 67 RX6 yX6_no wsX6_no) := goodIn_app (goodIn_of _ (by decide +kernel)) ggX6_away_X6_no
set_option maxRecDepth 20000 in
theorem ggX6_away_X4_isThere : GoodIn wsX6_away wsX4_isThere := goodIn_r _ [22, 23, 33, 34, 35, 36, 37, 38, 39] (by decide +kernel) (by decide +kernel)
set_option maxRecDepth 20000 in
theorem gX6_away_X4_isThere : GoodIn wsX6_away (wsV RX6 180 RX4 yX4_isThere wsX4_isThere) := goodIn_app (goodIn_of _ (by decide +kernel)) ggX6_away_X4_isThere
set_option maxRecDepth 20000 in
theorem ggX6_away_X6_yes : GoodIn wsX6_away wsX6_yes := goodIn_r _ [27, 17, 40, 41, 42, 43, 44, 45] (by decide +kernel) (by decide +kernel)
set_option maxRecDepth 20000 in
theorem gX6_away_X6_yes : GoodIn wsX6_away (wsV RX6 75 RX6 yX6_yes wsX6_yes) := goodIn_app (goodIn_of _ (by decide +kernel)) ggX6_away_X6_yes
theorem dX6_away_0 : decode cX6_away 0 = .ok (.aload_n 0, 1) := by decide +kernel
theorem dX6_away_1 : decode cX6_away 1 = .ok (.iload_n 1, 1) := by decide +kernel
theorem dX6_away_2 : decode cX6_away 2 = .ok (.invokevirtual 108, 3) := by decide +kernel
theorem dX6_away_5 : decode cX6_away 5 = .ok (.astore_n 2, 1) := by decide +kernel
theorem dX6_away_6 : decode cX6_away 6 = .ok (.aload_n 2, 1) := by decide +kernel
theorem dX6_away_7 : decode cX6_away 7 = .ok (.ifnonnull 9, 3) := by decide +kernel
theorem dX6_away_10 : decode cX6_away 10 = .ok (.aload_n 0, 1) := by decide +kernel
theorem dX6_away_11 : decode cX6_away 11 = .ok (.iconst 1, 1) := by decide +kernel
theorem dX6_away_12 : decode cX6_away 12 = .ok (.invokevirtual 67, 3) := by decide +kernel
theorem dX6_away_15 : decode cX6_away 15 = .ok (.ireturn, 1) := by decide +kernel
theorem dX6_away_16 : decode cX6_away 16 = .ok (.aload_n 2, 1) := by decide +kernel
theorem dX6_away_17 : decode cX6_away 17 = .ok (.getfield 151, 3) := by decide +kernel
theorem dX6_away_20 : decode cX6_away 20 = .ok (.invokevirtual 180, 3) := by decide +kernel
theorem dX6_away_23 : decode cX6_away 23 = .ok (.ifCond .ne 9, 3) := by decide +kernel
theorem dX6_away_26 : decode cX6_away 26 = .ok (.aload_n 0, 1) := by decide +kernel
theorem dX6_away_27 : decode cX6_away 27 = .ok (.iconst 5, 1) := by decide +kernel
theorem dX6_away_28 : decode cX6_away 28 = .ok (.invokevirtual 67, 3) := by decide +kernel
theorem dX6_away_31 : decode cX6_away 31 = .ok (.ireturn, 1) := by decide +kernel
theorem dX6_away_32 : decode cX6_away 32 = .ok (.aload_n 2, 1) := by decide +kernel
theorem dX6_away_33 : decode cX6_away 33 = .ok (.getfield 151, 3) := by decide +kernel
theorem dX6_away_36 : decode cX6_away 36 = .ok (.iconst 0, 1) := by decide +kernel
theorem dX6_away_37 : decode cX6_away 37 = .ok (.putfield 183, 3) := by decide +kernel
theorem dX6_away_40 : decode cX6_away 40 = .ok (.aload_n 0, 1) := by decide +kernel
theorem dX6_away_41 : decode cX6_away 41 = .ok (.invokevirtual 75, 3) := by decide +kernel
theorem dX6_away_44 : decode cX6_away 44 = .ok (.ireturn, 1) := by decide +kernel
set_option maxRecDepth 20000 in
theorem ggX6_sketch_X6_columnAt : GoodIn wsX6_sketch wsX6_columnAt := goodIn_r _ [8, 9, 10, 11, 12, 7, 13, 64, 65, 66, 67, 68, 69] (by decide +kernel) (by decide +kernel)
set_option maxRecDepth 20000 in
theorem gX6_sketch_X6_columnAt : GoodIn wsX6_sketch (wsV RX6 108 RX6 yX6_columnAt wsX6_columnAt) := goodIn_app (goodIn_of _ (by decide +kernel)) ggX6_sketch_X6_columnAt
set_option maxRecDepth 20000 in
theorem ggX6_sketch_X6_within : GoodIn wsX6_sketch wsX6_within := goodIn_r _ [13] (by decide +kernel) (by decide +kernel)
set_option maxRecDepth 20000 in
theorem gX6_sketch_X6_within : GoodIn wsX6_sketch (va_wsS RX6 61 yX6_within wsX6_within) := goodIn_app (goodIn_of _ (by decide +kernel)) ggX6_sketch_X6_within
set_option maxRecDepth 20000 in
theorem ggX6_sketch_X6_none : GoodIn wsX6_sketch wsX6_none := goodIn_r _ [17, 18, 64, 65, 66, 67, 68, 69] (by decide +kernel) (by decide +kernel)
set_option maxRecDepth 20000 in
theorem gX6_sketch_X6_none : GoodIn wsX6_sketch (wsV RX6 95 RX6 yX6_none wsX6_none) := goodIn_app (goodIn_of _ (by decide +kernel)) ggX6_sketch_X6_none
set_option maxRecDepth 20000 in
theorem ggX6_sketch_X4_isThere : GoodIn wsX6_sketch wsX4_isThere := goodIn_r _ [23, 24, 57, 58, 59, 60, 61, 62, 63] (by decide +kernel) (by decide +kernel)
set_option maxRecDepth 20000 in
theorem gX6_sketch_X4_isThere : GoodIn wsX6_sketch (wsV RX6 180 RX4 yX4_isThere wsX4_isThere) := goodIn_app (goodIn_of _ (by decide +kernel)) ggX6_sketch_X4_isThere
set_option maxRecDepth 20000 in
theorem ggX6_sketch_X6_told : GoodIn wsX6_sketch wsX6_told := goodIn_r _ [28, 18, 64, 65, 66, 67, 68, 69] (by decide +kernel) (by decide +kernel)
set_option maxRecDepth 20000 in
theorem gX6_sketch_X6_told : GoodIn wsX6_sketch (wsV RX6 136 RX6 yX6_told wsX6_told) := goodIn_app (goodIn_of _ (by decide +kernel)) ggX6_sketch_X6_told
set_option maxRecDepth 20000 in
theorem ggX6_sketch_X4_heavyMany : GoodIn wsX6_sketch wsX4_heavyMany := goodIn_r _ [32, 33, 34, 35, 22, 36, 37, 38, 39, 40, 41, 57, 58, 59, 60, 61, 62, 63] (by decide +kernel) (by decide +kernel)
set_option maxRecDepth 20000 in
theorem gX6_sketch_X4_heavyMany : GoodIn wsX6_sketch (wsV RX6 184 RX4 yX4_heavyMany wsX4_heavyMany) := goodIn_app (goodIn_of _ (by decide +kernel)) ggX6_sketch_X4_heavyMany
set_option maxRecDepth 20000 in
theorem ggX6_sketch_X4_allDoubts : GoodIn wsX6_sketch wsX4_allDoubts := goodIn_r _ [45, 24, 46, 57, 58, 59, 60, 61, 62, 63] (by decide +kernel) (by decide +kernel)
set_option maxRecDepth 20000 in
theorem gX6_sketch_X4_allDoubts : GoodIn wsX6_sketch (wsV RX6 187 RX4 yX4_allDoubts wsX4_allDoubts) := goodIn_app (goodIn_of _ (by decide +kernel)) ggX6_sketch_X4_allDoubts
set_option maxRecDepth 20000 in
theorem ggX6_sketch_X4_allCounts : GoodIn wsX6_sketch wsX4_allCounts := goodIn_r _ [50, 24, 51, 57, 58, 59, 60, 61, 62, 63] (by decide +kernel) (by decide +kernel)
set_option maxRecDepth 20000 in
theorem gX6_sketch_X4_allCounts : GoodIn wsX6_sketch (wsV RX6 190 RX4 yX4_allCounts wsX4_allCounts) := goodIn_app (goodIn_of _ (by decide +kernel)) ggX6_sketch_X4_allCounts
theorem dX6_sketch_0 : decode cX6_sketch 0 = .ok (.aload_n 0, 1) := by decide +kernel
theorem dX6_sketch_1 : decode cX6_sketch 1 = .ok (.iload_n 1, 1) := by decide +kernel
theorem dX6_sketch_2 : decode cX6_sketch 2 = .ok (.invokevirtual 108, 3) := by decide +kernel
theorem dX6_sketch_5 : decode cX6_sketch 5 = .ok (.astore_n 3, 1) := by decide +kernel
theorem dX6_sketch_6 : decode cX6_sketch 6 = .ok (.aload_n 3, 1) := by decide +kernel
theorem dX6_sketch_7 : decode cX6_sketch 7 = .ok (.ifnull 15, 3) := by decide +kernel
theorem dX6_sketch_10 : decode cX6_sketch 10 = .ok (.iload_n 2, 1) := by decide +kernel
theorem dX6_sketch_11 : decode cX6_sketch 11 = .ok (.i2l, 1) := by decide +kernel
theorem dX6_sketch_12 : decode cX6_sketch 12 = .ok (.lconst 0, 1) := by decide +kernel
theorem dX6_sketch_13 : decode cX6_sketch 13 = .ok (.ldc2_w 59, 3) := by decide +kernel
theorem dX6_sketch_16 : decode cX6_sketch 16 = .ok (.invokestatic 61, 3) := by decide +kernel
theorem dX6_sketch_19 : decode cX6_sketch 19 = .ok (.ifCond .ne 9, 3) := by decide +kernel
theorem dX6_sketch_22 : decode cX6_sketch 22 = .ok (.aload_n 0, 1) := by decide +kernel
theorem dX6_sketch_23 : decode cX6_sketch 23 = .ok (.iconst 1, 1) := by decide +kernel
theorem dX6_sketch_24 : decode cX6_sketch 24 = .ok (.invokevirtual 95, 3) := by decide +kernel
theorem dX6_sketch_27 : decode cX6_sketch 27 = .ok (.ireturn, 1) := by decide +kernel
theorem dX6_sketch_28 : decode cX6_sketch 28 = .ok (.aload_n 3, 1) := by decide +kernel
theorem dX6_sketch_29 : decode cX6_sketch 29 = .ok (.getfield 151, 3) := by decide +kernel
theorem dX6_sketch_32 : decode cX6_sketch 32 = .ok (.invokevirtual 180, 3) := by decide +kernel
theorem dX6_sketch_35 : decode cX6_sketch 35 = .ok (.ifCond .ne 9, 3) := by decide +kernel
theorem dX6_sketch_38 : decode cX6_sketch 38 = .ok (.aload_n 0, 1) := by decide +kernel
theorem dX6_sketch_39 : decode cX6_sketch 39 = .ok (.iconst 5, 1) := by decide +kernel
theorem dX6_sketch_40 : decode cX6_sketch 40 = .ok (.invokevirtual 95, 3) := by decide +kernel
theorem dX6_sketch_43 : decode cX6_sketch 43 = .ok (.ireturn, 1) := by decide +kernel
theorem dX6_sketch_44 : decode cX6_sketch 44 = .ok (.iload_n 2, 1) := by decide +kernel
theorem dX6_sketch_45 : decode cX6_sketch 45 = .ok (.tableswitch 63 0 2 #[27, 39, 51], 27) := by decide +kernel
theorem dX6_sketch_72 : decode cX6_sketch 72 = .ok (.aload_n 0, 1) := by decide +kernel
theorem dX6_sketch_73 : decode cX6_sketch 73 = .ok (.aload_n 3, 1) := by decide +kernel
theorem dX6_sketch_74 : decode cX6_sketch 74 = .ok (.getfield 151, 3) := by decide +kernel
theorem dX6_sketch_77 : decode cX6_sketch 77 = .ok (.getfield 183, 3) := by decide +kernel
theorem dX6_sketch_80 : decode cX6_sketch 80 = .ok (.invokevirtual 136, 3) := by decide +kernel
theorem dX6_sketch_83 : decode cX6_sketch 83 = .ok (.ireturn, 1) := by decide +kernel
theorem dX6_sketch_84 : decode cX6_sketch 84 = .ok (.aload_n 0, 1) := by decide +kernel
theorem dX6_sketch_85 : decode cX6_sketch 85 = .ok (.aload_n 3, 1) := by decide +kernel
theorem dX6_sketch_86 : decode cX6_sketch 86 = .ok (.getfield 151, 3) := by decide +kernel
theorem dX6_sketch_89 : decode cX6_sketch 89 = .ok (.invokevirtual 184, 3) := by decide +kernel
theorem dX6_sketch_92 : decode cX6_sketch 92 = .ok (.invokevirtual 136, 3) := by decide +kernel
theorem dX6_sketch_95 : decode cX6_sketch 95 = .ok (.ireturn, 1) := by decide +kernel
theorem dX6_sketch_96 : decode cX6_sketch 96 = .ok (.aload_n 0, 1) := by decide +kernel
theorem dX6_sketch_97 : decode cX6_sketch 97 = .ok (.aload_n 3, 1) := by decide +kernel
theorem dX6_sketch_98 : decode cX6_sketch 98 = .ok (.getfield 151, 3) := by decide +kernel
theorem dX6_sketch_101 : decode cX6_sketch 101 = .ok (.invokevirtual 187, 3) := by decide +kernel
theorem dX6_sketch_104 : decode cX6_sketch 104 = .ok (.invokevirtual 136, 3) := by decide +kernel
theorem dX6_sketch_107 : decode cX6_sketch 107 = .ok (.ireturn, 1) := by decide +kernel
theorem dX6_sketch_108 : decode cX6_sketch 108 = .ok (.aload_n 0, 1) := by decide +kernel
theorem dX6_sketch_109 : decode cX6_sketch 109 = .ok (.aload_n 3, 1) := by decide +kernel
theorem dX6_sketch_110 : decode cX6_sketch 110 = .ok (.getfield 151, 3) := by decide +kernel
theorem dX6_sketch_113 : decode cX6_sketch 113 = .ok (.invokevirtual 190, 3) := by decide +kernel
theorem dX6_sketch_116 : decode cX6_sketch 116 = .ok (.invokevirtual 136, 3) := by decide +kernel
theorem dX6_sketch_119 : decode cX6_sketch 119 = .ok (.ireturn, 1) := by decide +kernel
set_option maxRecDepth 20000 in
theorem ggX6_span_X6_columnAt : GoodIn wsX6_span wsX6_columnAt := goodIn_r _ [10, 11, 12, 13, 14, 9, 15, 62, 63, 64, 65, 66, 67] (by decide +kernel) (by decide +kernel)
set_option maxRecDepth 20000 in
theorem gX6_span_X6_columnAt : GoodIn wsX6_span (wsV RX6 108 RX6 yX6_columnAt wsX6_columnAt) := goodIn_app (goodIn_of _ (by decide +kernel)) ggX6_span_X6_columnAt
set_option maxRecDepth 20000 in
theorem ggX6_span_X6_none : GoodIn wsX6_span wsX6_none := goodIn_r _ [19, 20, 62, 63, 64, 65, 66, 67] (by decide +kernel) (by decide +kernel)
set_option maxRecDepth 20000 in
theorem gX6_span_X6_none : GoodIn wsX6_span (wsV RX6 95 RX6 yX6_none wsX6_none) := goodIn_app (goodIn_of _ (by decide +kernel)) ggX6_span_X6_none
set_option maxRecDepth 20000 in
theorem ggX6_span_X4_isThere : GoodIn wsX6_span wsX4_isThere := goodIn_r _ [25, 26, 55, 56, 57, 58, 59, 60, 61] (by decide +kernel) (by decide +kernel)
set_option maxRecDepth 20000 in
theorem gX6_span_X4_isThere : GoodIn wsX6_span (wsV RX6 180 RX4 yX4_isThere wsX4_isThere) := goodIn_app (goodIn_of _ (by decide +kernel)) ggX6_span_X4_isThere
set_option maxRecDepth 20000 in
theorem ggX6_span_X6_within : GoodIn wsX6_span wsX6_within := goodIn_r _ [15] (by decide +kernel) (by decide +kernel)
set_option maxRecDepth 20000 in
theorem gX6_span_X6_within : GoodIn wsX6_span (va_wsS RX6 61 yX6_within wsX6_within) := goodIn_app (goodIn_of _ (by decide +kernel)) ggX6_span_X6_within
set_option maxRecDepth 20000 in
theorem ggX6_span_X4_firstOf : GoodIn wsX6_span wsX4_firstOf := goodIn_r _ [30, 31, 55, 56, 57, 58, 59, 60, 61] (by decide +kernel) (by decide +kernel)
set_option maxRecDepth 20000 in
theorem gX6_span_X4_firstOf : GoodIn wsX6_span (wsV RX6 193 RX4 yX4_firstOf wsX4_firstOf) := goodIn_app (goodIn_of _ (by decide +kernel)) ggX6_span_X4_firstOf
set_option maxRecDepth 20000 in
theorem ggX6_span_X6_told : GoodIn wsX6_span wsX6_told := goodIn_r _ [35, 20, 62, 63, 64, 65, 66, 67] (by decide +kernel) (by decide +kernel)
set_option maxRecDepth 20000 in
theorem gX6_span_X6_told : GoodIn wsX6_span (wsV RX6 136 RX6 yX6_told wsX6_told) := goodIn_app (goodIn_of _ (by decide +kernel)) ggX6_span_X6_told
set_option maxRecDepth 20000 in
theorem ggX6_span_X4_longOf : GoodIn wsX6_span wsX4_longOf := goodIn_r _ [39, 31, 40, 28, 29, 24, 30, 41, 42, 43, 44, 45, 46, 47, 48, 49, 55, 56, 57, 58, 59, 60, 61] (by decide +kernel) (by decide +kernel)
set_option maxRecDepth 20000 in
theorem gX6_span_X4_longOf : GoodIn wsX6_span (wsV RX6 201 RX4 yX4_longOf wsX4_longOf) := goodIn_app (goodIn_of _ (by decide +kernel)) ggX6_span_X4_longOf
theorem dX6_span_0 : decode cX6_span 0 = .ok (.aload_n 0, 1) := by decide +kernel
theorem dX6_span_1 : decode cX6_span 1 = .ok (.iload_n 1, 1) := by decide +kernel
theorem dX6_span_2 : decode cX6_span 2 = .ok (.invokevirtual 108, 3) := by decide +kernel
theorem dX6_span_5 : decode cX6_span 5 = .ok (.astore 4, 2) := by decide +kernel
theorem dX6_span_7 : decode cX6_span 7 = .ok (.aload 4, 2) := by decide +kernel
theorem dX6_span_9 : decode cX6_span 9 = .ok (.ifnonnull 9, 3) := by decide +kernel
theorem dX6_span_12 : decode cX6_span 12 = .ok (.aload_n 0, 1) := by decide +kernel
theorem dX6_span_13 : decode cX6_span 13 = .ok (.iconst 1, 1) := by decide +kernel
theorem dX6_span_14 : decode cX6_span 14 = .ok (.invokevirtual 95, 3) := by decide +kernel
theorem dX6_span_17 : decode cX6_span 17 = .ok (.ireturn, 1) := by decide +kernel
theorem dX6_span_18 : decode cX6_span 18 = .ok (.aload 4, 2) := by decide +kernel
