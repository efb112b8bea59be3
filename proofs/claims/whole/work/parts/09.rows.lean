theorem dX7_changes_101 : decode cX7_changes 101 = .ok (.aload_n 0, 1) := by decide +kernel
theorem dX7_changes_102 : decode cX7_changes 102 = .ok (.iload_n 1, 1) := by decide +kernel
theorem dX7_changes_103 : decode cX7_changes 103 = .ok (.iload_n 2, 1) := by decide +kernel
theorem dX7_changes_104 : decode cX7_changes 104 = .ok (.invokevirtual 117, 3) := by decide +kernel
theorem dX7_changes_107 : decode cX7_changes 107 = .ok (.iadd, 1) := by decide +kernel
theorem dX7_changes_108 : decode cX7_changes 108 = .ok (.dup2, 1) := by decide +kernel
theorem dX7_changes_109 : decode cX7_changes 109 = .ok (.iaload, 1) := by decide +kernel
theorem dX7_changes_110 : decode cX7_changes 110 = .ok (.iload_n 3, 1) := by decide +kernel
theorem dX7_changes_111 : decode cX7_changes 111 = .ok (.iadd, 1) := by decide +kernel
theorem dX7_changes_112 : decode cX7_changes 112 = .ok (.iastore, 1) := by decide +kernel
theorem dX7_changes_113 : decode cX7_changes 113 = .ok (.return_, 1) := by decide +kernel
set_option maxRecDepth 20000 in
theorem ggX7_put_X7_isColumn : GoodIn wsX7_put wsX7_isColumn := goodIn_r _ [4] (by decide +kernel) (by decide +kernel)
set_option maxRecDepth 20000 in
theorem gX7_put_X7_isColumn : GoodIn wsX7_put (va_wsS RX7 120 yX7_isColumn wsX7_isColumn) := goodIn_app (goodIn_of _ (by decide +kernel)) ggX7_put_X7_isColumn
set_option maxRecDepth 20000 in
theorem ggX7_put_X7_isValue : GoodIn wsX7_put wsX7_isValue := goodIn_r _ [7] (by decide +kernel) (by decide +kernel)
set_option maxRecDepth 20000 in
theorem gX7_put_X7_isValue : GoodIn wsX7_put (va_wsS RX7 123 yX7_isValue wsX7_isValue) := goodIn_app (goodIn_of _ (by decide +kernel)) ggX7_put_X7_isValue
set_option maxRecDepth 20000 in
theorem ggX7_put_X7_is : GoodIn wsX7_put wsX7_is := goodIn_r _ [11, 12, 46, 47, 48, 49, 50, 51, 52, 53, 54, 55, 56, 57, 58, 59, 60, 61, 62, 63, 64, 65, 66, 67, 68, 69, 70, 71, 72, 73, 74, 75] (by decide +kernel) (by decide +kernel)
set_option maxRecDepth 20000 in
theorem gX7_put_X7_is : GoodIn wsX7_put (wsV RX7 96 RX7 yX7_is wsX7_is) := goodIn_app (goodIn_of _ (by decide +kernel)) ggX7_put_X7_is
set_option maxRecDepth 20000 in
theorem ggX7_put_X7_all : GoodIn wsX7_put wsX7_all := goodIn_r _ [16, 17, 18, 46, 47, 48, 49, 50, 51, 52, 53, 54, 55, 56, 57, 58, 59, 60, 61, 62, 63, 64, 65, 66, 67, 68, 69, 70, 71, 72, 73, 74, 75] (by decide +kernel) (by decide +kernel)
set_option maxRecDepth 20000 in
theorem gX7_put_X7_all : GoodIn wsX7_put (wsV RX7 126 RX7 yX7_all wsX7_all) := goodIn_app (goodIn_of _ (by decide +kernel)) ggX7_put_X7_all
set_option maxRecDepth 20000 in
theorem ggX7_put_X7_changes : GoodIn wsX7_put wsX7_changes := goodIn_r _ [22, 18, 23, 17, 24, 25, 26, 27, 28, 29, 30, 31, 3, 32, 33, 46, 47, 48, 49, 50, 51, 52, 53, 54, 55, 56, 57, 58, 59, 60, 61, 62, 63, 64, 65, 66, 67, 68, 69, 70, 71, 72, 73, 74, 75] (by decide +kernel) (by decide +kernel)
set_option maxRecDepth 20000 in
theorem gX7_put_X7_changes : GoodIn wsX7_put (wsV RX7 130 RX7 yX7_changes wsX7_changes) := goodIn_app (goodIn_of _ (by decide +kernel)) ggX7_put_X7_changes
set_option maxRecDepth 20000 in
theorem ggX7_put_X7_draw : GoodIn wsX7_put wsX7_draw := goodIn_r _ [37, 38, 39, 40, 41, 42, 43, 44, 45, 46, 47, 48, 49, 50, 51, 52, 53, 54, 55, 56, 57, 58, 59, 60, 61, 62, 63, 64, 65, 66, 67, 68, 69, 70, 71, 72, 73, 74, 75] (by decide +kernel) (by decide +kernel)
set_option maxRecDepth 20000 in
theorem gX7_put_X7_draw : GoodIn wsX7_put (wsV RX7 134 RX7 yX7_draw wsX7_draw) := goodIn_app (goodIn_of _ (by decide +kernel)) ggX7_put_X7_draw
theorem dX7_put_0 : decode cX7_put 0 = .ok (.iload_n 1, 1) := by decide +kernel
theorem dX7_put_1 : decode cX7_put 1 = .ok (.invokestatic 120, 3) := by decide +kernel
theorem dX7_put_4 : decode cX7_put 4 = .ok (.ifCond .eq 27, 3) := by decide +kernel
theorem dX7_put_7 : decode cX7_put 7 = .ok (.iload_n 2, 1) := by decide +kernel
theorem dX7_put_8 : decode cX7_put 8 = .ok (.iconst (-1), 1) := by decide +kernel
theorem dX7_put_9 : decode cX7_put 9 = .ok (.if_icmp .eq 10, 3) := by decide +kernel
theorem dX7_put_12 : decode cX7_put 12 = .ok (.iload_n 2, 1) := by decide +kernel
theorem dX7_put_13 : decode cX7_put 13 = .ok (.invokestatic 123, 3) := by decide +kernel
theorem dX7_put_16 : decode cX7_put 16 = .ok (.ifCond .eq 15, 3) := by decide +kernel
theorem dX7_put_19 : decode cX7_put 19 = .ok (.iload_n 3, 1) := by decide +kernel
theorem dX7_put_20 : decode cX7_put 20 = .ok (.iconst 1, 1) := by decide +kernel
theorem dX7_put_21 : decode cX7_put 21 = .ok (.if_icmp .lt 10, 3) := by decide +kernel
theorem dX7_put_24 : decode cX7_put 24 = .ok (.iload_n 3, 1) := by decide +kernel
theorem dX7_put_25 : decode cX7_put 25 = .ok (.sipush 1000, 3) := by decide +kernel
theorem dX7_put_28 : decode cX7_put 28 = .ok (.if_icmp .le 9, 3) := by decide +kernel
theorem dX7_put_31 : decode cX7_put 31 = .ok (.aload_n 0, 1) := by decide +kernel
theorem dX7_put_32 : decode cX7_put 32 = .ok (.iconst 1, 1) := by decide +kernel
theorem dX7_put_33 : decode cX7_put 33 = .ok (.invokevirtual 96, 3) := by decide +kernel
theorem dX7_put_36 : decode cX7_put 36 = .ok (.ireturn, 1) := by decide +kernel
theorem dX7_put_37 : decode cX7_put 37 = .ok (.aload_n 0, 1) := by decide +kernel
theorem dX7_put_38 : decode cX7_put 38 = .ok (.iload_n 1, 1) := by decide +kernel
theorem dX7_put_39 : decode cX7_put 39 = .ok (.invokevirtual 126, 3) := by decide +kernel
theorem dX7_put_42 : decode cX7_put 42 = .ok (.iload_n 3, 1) := by decide +kernel
theorem dX7_put_43 : decode cX7_put 43 = .ok (.iadd, 1) := by decide +kernel
theorem dX7_put_44 : decode cX7_put 44 = .ok (.sipush 10000, 3) := by decide +kernel
theorem dX7_put_47 : decode cX7_put 47 = .ok (.if_icmp .le 9, 3) := by decide +kernel
theorem dX7_put_50 : decode cX7_put 50 = .ok (.aload_n 0, 1) := by decide +kernel
theorem dX7_put_51 : decode cX7_put 51 = .ok (.iconst 4, 1) := by decide +kernel
theorem dX7_put_52 : decode cX7_put 52 = .ok (.invokevirtual 96, 3) := by decide +kernel
theorem dX7_put_55 : decode cX7_put 55 = .ok (.ireturn, 1) := by decide +kernel
theorem dX7_put_56 : decode cX7_put 56 = .ok (.iconst 0, 1) := by decide +kernel
theorem dX7_put_57 : decode cX7_put 57 = .ok (.istore 4, 2) := by decide +kernel
theorem dX7_put_59 : decode cX7_put 59 = .ok (.iload 4, 2) := by decide +kernel
theorem dX7_put_61 : decode cX7_put 61 = .ok (.iload_n 3, 1) := by decide +kernel
theorem dX7_put_62 : decode cX7_put 62 = .ok (.if_icmp .ge 22, 3) := by decide +kernel
theorem dX7_put_65 : decode cX7_put 65 = .ok (.aload_n 0, 1) := by decide +kernel
theorem dX7_put_66 : decode cX7_put 66 = .ok (.iload_n 1, 1) := by decide +kernel
theorem dX7_put_67 : decode cX7_put 67 = .ok (.iload_n 2, 1) := by decide +kernel
theorem dX7_put_68 : decode cX7_put 68 = .ok (.iconst 1, 1) := by decide +kernel
theorem dX7_put_69 : decode cX7_put 69 = .ok (.invokevirtual 130, 3) := by decide +kernel
theorem dX7_put_72 : decode cX7_put 72 = .ok (.aload_n 0, 1) := by decide +kernel
theorem dX7_put_73 : decode cX7_put 73 = .ok (.iload_n 1, 1) := by decide +kernel
theorem dX7_put_74 : decode cX7_put 74 = .ok (.iload_n 2, 1) := by decide +kernel
theorem dX7_put_75 : decode cX7_put 75 = .ok (.invokevirtual 134, 3) := by decide +kernel
theorem dX7_put_78 : decode cX7_put 78 = .ok (.iinc 4 1, 3) := by decide +kernel
theorem dX7_put_81 : decode cX7_put 81 = .ok (.goto (-22), 3) := by decide +kernel
theorem dX7_put_84 : decode cX7_put 84 = .ok (.aload_n 0, 1) := by decide +kernel
theorem dX7_put_85 : decode cX7_put 85 = .ok (.iconst 0, 1) := by decide +kernel
theorem dX7_put_86 : decode cX7_put 86 = .ok (.invokevirtual 96, 3) := by decide +kernel
theorem dX7_put_89 : decode cX7_put 89 = .ok (.ireturn, 1) := by decide +kernel
set_option maxRecDepth 20000 in
theorem ggX7_strike_X7_isColumn : GoodIn wsX7_strike wsX7_isColumn := goodIn_r _ [6] (by decide +kernel) (by decide +kernel)
set_option maxRecDepth 20000 in
theorem gX7_strike_X7_isColumn : GoodIn wsX7_strike (va_wsS RX7 120 yX7_isColumn wsX7_isColumn) := goodIn_app (goodIn_of _ (by decide +kernel)) ggX7_strike_X7_isColumn
set_option maxRecDepth 20000 in
theorem ggX7_strike_X7_isValue : GoodIn wsX7_strike wsX7_isValue := goodIn_r _ [9] (by decide +kernel) (by decide +kernel)
set_option maxRecDepth 20000 in
theorem gX7_strike_X7_isValue : GoodIn wsX7_strike (va_wsS RX7 123 yX7_isValue wsX7_isValue) := goodIn_app (goodIn_of _ (by decide +kernel)) ggX7_strike_X7_isValue
set_option maxRecDepth 20000 in
theorem ggX7_strike_X7_is : GoodIn wsX7_strike wsX7_is := goodIn_r _ [13, 14, 30, 31, 32, 33, 34, 35, 36, 37, 38, 39, 40, 41, 42, 43, 44, 45, 46, 47, 48, 49, 50, 51, 52, 53, 54, 55, 56, 57, 58, 59] (by decide +kernel) (by decide +kernel)
set_option maxRecDepth 20000 in
theorem gX7_strike_X7_is : GoodIn wsX7_strike (wsV RX7 96 RX7 yX7_is wsX7_is) := goodIn_app (goodIn_of _ (by decide +kernel)) ggX7_strike_X7_is
set_option maxRecDepth 20000 in
theorem ggX7_strike_X7_changes : GoodIn wsX7_strike wsX7_changes := goodIn_r _ [18, 1, 2, 19, 20, 21, 22, 23, 24, 25, 26, 27, 5, 28, 29, 30, 31, 32, 33, 34, 35, 36, 37, 38, 39, 40, 41, 42, 43, 44, 45, 46, 47, 48, 49, 50, 51, 52, 53, 54, 55, 56, 57, 58, 59] (by decide +kernel) (by decide +kernel)
set_option maxRecDepth 20000 in
theorem gX7_strike_X7_changes : GoodIn wsX7_strike (wsV RX7 130 RX7 yX7_changes wsX7_changes) := goodIn_app (goodIn_of _ (by decide +kernel)) ggX7_strike_X7_changes
theorem dX7_strike_0 : decode cX7_strike 0 = .ok (.iload_n 1, 1) := by decide +kernel
theorem dX7_strike_1 : decode cX7_strike 1 = .ok (.invokestatic 120, 3) := by decide +kernel
theorem dX7_strike_4 : decode cX7_strike 4 = .ok (.ifCond .eq 27, 3) := by decide +kernel
theorem dX7_strike_7 : decode cX7_strike 7 = .ok (.iload_n 2, 1) := by decide +kernel
theorem dX7_strike_8 : decode cX7_strike 8 = .ok (.iconst (-1), 1) := by decide +kernel
theorem dX7_strike_9 : decode cX7_strike 9 = .ok (.if_icmp .eq 10, 3) := by decide +kernel
theorem dX7_strike_12 : decode cX7_strike 12 = .ok (.iload_n 2, 1) := by decide +kernel
theorem dX7_strike_13 : decode cX7_strike 13 = .ok (.invokestatic 123, 3) := by decide +kernel
theorem dX7_strike_16 : decode cX7_strike 16 = .ok (.ifCond .eq 15, 3) := by decide +kernel
theorem dX7_strike_19 : decode cX7_strike 19 = .ok (.iload_n 3, 1) := by decide +kernel
theorem dX7_strike_20 : decode cX7_strike 20 = .ok (.iconst 1, 1) := by decide +kernel
theorem dX7_strike_21 : decode cX7_strike 21 = .ok (.if_icmp .lt 10, 3) := by decide +kernel
theorem dX7_strike_24 : decode cX7_strike 24 = .ok (.iload_n 3, 1) := by decide +kernel
theorem dX7_strike_25 : decode cX7_strike 25 = .ok (.sipush 1000, 3) := by decide +kernel
theorem dX7_strike_28 : decode cX7_strike 28 = .ok (.if_icmp .le 9, 3) := by decide +kernel
theorem dX7_strike_31 : decode cX7_strike 31 = .ok (.aload_n 0, 1) := by decide +kernel
theorem dX7_strike_32 : decode cX7_strike 32 = .ok (.iconst 1, 1) := by decide +kernel
theorem dX7_strike_33 : decode cX7_strike 33 = .ok (.invokevirtual 96, 3) := by decide +kernel
theorem dX7_strike_36 : decode cX7_strike 36 = .ok (.ireturn, 1) := by decide +kernel
theorem dX7_strike_37 : decode cX7_strike 37 = .ok (.iload_n 2, 1) := by decide +kernel
theorem dX7_strike_38 : decode cX7_strike 38 = .ok (.iconst (-1), 1) := by decide +kernel
theorem dX7_strike_39 : decode cX7_strike 39 = .ok (.if_icmp .ne 12, 3) := by decide +kernel
theorem dX7_strike_42 : decode cX7_strike 42 = .ok (.aload_n 0, 1) := by decide +kernel
theorem dX7_strike_43 : decode cX7_strike 43 = .ok (.getfield 27, 3) := by decide +kernel
theorem dX7_strike_46 : decode cX7_strike 46 = .ok (.iload_n 1, 1) := by decide +kernel
theorem dX7_strike_47 : decode cX7_strike 47 = .ok (.iaload, 1) := by decide +kernel
theorem dX7_strike_48 : decode cX7_strike 48 = .ok (.goto 14, 3) := by decide +kernel
theorem dX7_strike_51 : decode cX7_strike 51 = .ok (.aload_n 0, 1) := by decide +kernel
theorem dX7_strike_52 : decode cX7_strike 52 = .ok (.getfield 24, 3) := by decide +kernel
theorem dX7_strike_55 : decode cX7_strike 55 = .ok (.bipush 40, 2) := by decide +kernel
theorem dX7_strike_57 : decode cX7_strike 57 = .ok (.iload_n 1, 1) := by decide +kernel
theorem dX7_strike_58 : decode cX7_strike 58 = .ok (.imul, 1) := by decide +kernel
theorem dX7_strike_59 : decode cX7_strike 59 = .ok (.iload_n 2, 1) := by decide +kernel
theorem dX7_strike_60 : decode cX7_strike 60 = .ok (.iadd, 1) := by decide +kernel
theorem dX7_strike_61 : decode cX7_strike 61 = .ok (.iaload, 1) := by decide +kernel
theorem dX7_strike_62 : decode cX7_strike 62 = .ok (.iload_n 3, 1) := by decide +kernel
theorem dX7_strike_63 : decode cX7_strike 63 = .ok (.if_icmp .ge 9, 3) := by decide +kernel
theorem dX7_strike_66 : decode cX7_strike 66 = .ok (.aload_n 0, 1) := by decide +kernel
theorem dX7_strike_67 : decode cX7_strike 67 = .ok (.iconst 4, 1) := by decide +kernel
theorem dX7_strike_68 : decode cX7_strike 68 = .ok (.invokevirtual 96, 3) := by decide +kernel
theorem dX7_strike_71 : decode cX7_strike 71 = .ok (.ireturn, 1) := by decide +kernel
theorem dX7_strike_72 : decode cX7_strike 72 = .ok (.iconst 0, 1) := by decide +kernel
theorem dX7_strike_73 : decode cX7_strike 73 = .ok (.istore 4, 2) := by decide +kernel
theorem dX7_strike_75 : decode cX7_strike 75 = .ok (.iload 4, 2) := by decide +kernel
theorem dX7_strike_77 : decode cX7_strike 77 = .ok (.iload_n 3, 1) := by decide +kernel
theorem dX7_strike_78 : decode cX7_strike 78 = .ok (.if_icmp .ge 16, 3) := by decide +kernel
theorem dX7_strike_81 : decode cX7_strike 81 = .ok (.aload_n 0, 1) := by decide +kernel
theorem dX7_strike_82 : decode cX7_strike 82 = .ok (.iload_n 1, 1) := by decide +kernel
theorem dX7_strike_83 : decode cX7_strike 83 = .ok (.iload_n 2, 1) := by decide +kernel
theorem dX7_strike_84 : decode cX7_strike 84 = .ok (.iconst (-1), 1) := by decide +kernel
theorem dX7_strike_85 : decode cX7_strike 85 = .ok (.invokevirtual 130, 3) := by decide +kernel
theorem dX7_strike_88 : decode cX7_strike 88 = .ok (.iinc 4 1, 3) := by decide +kernel
theorem dX7_strike_91 : decode cX7_strike 91 = .ok (.goto (-16), 3) := by decide +kernel
theorem dX7_strike_94 : decode cX7_strike 94 = .ok (.aload_n 0, 1) := by decide +kernel
theorem dX7_strike_95 : decode cX7_strike 95 = .ok (.iconst 0, 1) := by decide +kernel
theorem dX7_strike_96 : decode cX7_strike 96 = .ok (.invokevirtual 96, 3) := by decide +kernel
theorem dX7_strike_99 : decode cX7_strike 99 = .ok (.ireturn, 1) := by decide +kernel
set_option maxRecDepth 20000 in
theorem ggX7_pack_X7_isColumn : GoodIn wsX7_pack wsX7_isColumn := goodIn_r _ [9] (by decide +kernel) (by decide +kernel)
set_option maxRecDepth 20000 in
theorem gX7_pack_X7_isColumn : GoodIn wsX7_pack (va_wsS RX7 120 yX7_isColumn wsX7_isColumn) := goodIn_app (goodIn_of _ (by decide +kernel)) ggX7_pack_X7_isColumn
set_option maxRecDepth 20000 in
theorem ggX7_pack_X7_isTray : GoodIn wsX7_pack wsX7_isTray := goodIn_r _ [12] (by decide +kernel) (by decide +kernel)
set_option maxRecDepth 20000 in
theorem gX7_pack_X7_isTray : GoodIn wsX7_pack (va_wsS RX7 92 yX7_isTray wsX7_isTray) := goodIn_app (goodIn_of _ (by decide +kernel)) ggX7_pack_X7_isTray
set_option maxRecDepth 20000 in
theorem ggX7_pack_X7_refuse : GoodIn wsX7_pack wsX7_refuse := goodIn_r _ [16, 5, 50, 51, 52, 53, 54, 55, 56, 57, 58, 59, 60, 61, 62, 63, 64, 65, 66, 67, 68, 69, 70, 71, 72, 73, 74, 75, 76, 77, 78, 79] (by decide +kernel) (by decide +kernel)
set_option maxRecDepth 20000 in
theorem gX7_pack_X7_refuse : GoodIn wsX7_pack (wsV RX7 138 RX7 yX7_refuse wsX7_refuse) := goodIn_app (goodIn_of _ (by decide +kernel)) ggX7_pack_X7_refuse
set_option maxRecDepth 20000 in
theorem ggX7_pack_X7_all : GoodIn wsX7_pack wsX7_all := goodIn_r _ [20, 21, 22, 50, 51, 52, 53, 54, 55, 56, 57, 58, 59, 60, 61, 62, 63, 64, 65, 66, 67, 68, 69, 70, 71, 72, 73, 74, 75, 76, 77, 78, 79] (by decide +kernel) (by decide +kernel)
set_option maxRecDepth 20000 in
theorem gX7_pack_X7_all : GoodIn wsX7_pack (wsV RX7 126 RX7 yX7_all wsX7_all) := goodIn_app (goodIn_of _ (by decide +kernel)) ggX7_pack_X7_all
set_option maxRecDepth 20000 in
theorem ggX7_pack_X7_changes : GoodIn wsX7_pack wsX7_changes := goodIn_r _ [26, 22, 27, 21, 28, 29, 30, 31, 32, 33, 34, 35, 8, 36, 37, 50, 51, 52, 53, 54, 55, 56, 57, 58, 59, 60, 61, 62, 63, 64, 65, 66, 67, 68, 69, 70, 71, 72, 73, 74, 75, 76, 77, 78, 79] (by decide +kernel) (by decide +kernel)
set_option maxRecDepth 20000 in
theorem gX7_pack_X7_changes : GoodIn wsX7_pack (wsV RX7 130 RX7 yX7_changes wsX7_changes) := goodIn_app (goodIn_of _ (by decide +kernel)) ggX7_pack_X7_changes
set_option maxRecDepth 20000 in
theorem ggX7_pack_X7_draw : GoodIn wsX7_pack wsX7_draw := goodIn_r _ [41, 42, 43, 44, 45, 46, 47, 48, 49, 50, 51, 52, 53, 54, 55, 56, 57, 58, 59, 60, 61, 62, 63, 64, 65, 66, 67, 68, 69, 70, 71, 72, 73, 74, 75, 76, 77, 78, 79] (by decide +kernel) (by decide +kernel)
set_option maxRecDepth 20000 in
theorem gX7_pack_X7_draw : GoodIn wsX7_pack (wsV RX7 134 RX7 yX7_draw wsX7_draw) := goodIn_app (goodIn_of _ (by decide +kernel)) ggX7_pack_X7_draw
theorem dX7_pack_0 : decode cX7_pack 0 = .ok (.iload_n 1, 1) := by decide +kernel
theorem dX7_pack_1 : decode cX7_pack 1 = .ok (.invokestatic 120, 3) := by decide +kernel
theorem dX7_pack_4 : decode cX7_pack 4 = .ok (.ifCond .eq 10, 3) := by decide +kernel
theorem dX7_pack_7 : decode cX7_pack 7 = .ok (.iload_n 2, 1) := by decide +kernel
theorem dX7_pack_8 : decode cX7_pack 8 = .ok (.invokestatic 92, 3) := by decide +kernel
theorem dX7_pack_11 : decode cX7_pack 11 = .ok (.ifCond .ne 9, 3) := by decide +kernel
theorem dX7_pack_14 : decode cX7_pack 14 = .ok (.aload_n 0, 1) := by decide +kernel
theorem dX7_pack_15 : decode cX7_pack 15 = .ok (.iconst 1, 1) := by decide +kernel
theorem dX7_pack_16 : decode cX7_pack 16 = .ok (.invokevirtual 138, 3) := by decide +kernel
theorem dX7_pack_19 : decode cX7_pack 19 = .ok (.ireturn, 1) := by decide +kernel
theorem dX7_pack_20 : decode cX7_pack 20 = .ok (.aload_n 0, 1) := by decide +kernel
theorem dX7_pack_21 : decode cX7_pack 21 = .ok (.getfield 17, 3) := by decide +kernel
theorem dX7_pack_24 : decode cX7_pack 24 = .ok (.iload_n 2, 1) := by decide +kernel
theorem dX7_pack_25 : decode cX7_pack 25 = .ok (.iaload, 1) := by decide +kernel
theorem dX7_pack_26 : decode cX7_pack 26 = .ok (.iconst (-1), 1) := by decide +kernel
theorem dX7_pack_27 : decode cX7_pack 27 = .ok (.if_icmp .ne 9, 3) := by decide +kernel
theorem dX7_pack_30 : decode cX7_pack 30 = .ok (.aload_n 0, 1) := by decide +kernel
theorem dX7_pack_31 : decode cX7_pack 31 = .ok (.iconst 2, 1) := by decide +kernel
theorem dX7_pack_32 : decode cX7_pack 32 = .ok (.invokevirtual 138, 3) := by decide +kernel
theorem dX7_pack_35 : decode cX7_pack 35 = .ok (.ireturn, 1) := by decide +kernel
theorem dX7_pack_36 : decode cX7_pack 36 = .ok (.iconst 0, 1) := by decide +kernel
theorem dX7_pack_37 : decode cX7_pack 37 = .ok (.istore_n 3, 1) := by decide +kernel
theorem dX7_pack_38 : decode cX7_pack 38 = .ok (.iload_n 3, 1) := by decide +kernel
theorem dX7_pack_39 : decode cX7_pack 39 = .ok (.aload_n 0, 1) := by decide +kernel
theorem dX7_pack_40 : decode cX7_pack 40 = .ok (.getfield 17, 3) := by decide +kernel
theorem dX7_pack_43 : decode cX7_pack 43 = .ok (.iload_n 2, 1) := by decide +kernel
theorem dX7_pack_44 : decode cX7_pack 44 = .ok (.iaload, 1) := by decide +kernel
theorem dX7_pack_45 : decode cX7_pack 45 = .ok (.if_icmp .ge 51, 3) := by decide +kernel
theorem dX7_pack_48 : decode cX7_pack 48 = .ok (.aload_n 0, 1) := by decide +kernel
theorem dX7_pack_49 : decode cX7_pack 49 = .ok (.getfield 20, 3) := by decide +kernel
theorem dX7_pack_52 : decode cX7_pack 52 = .ok (.bipush 100, 2) := by decide +kernel
theorem dX7_pack_54 : decode cX7_pack 54 = .ok (.iload_n 2, 1) := by decide +kernel
theorem dX7_pack_55 : decode cX7_pack 55 = .ok (.imul, 1) := by decide +kernel
theorem dX7_pack_56 : decode cX7_pack 56 = .ok (.iload_n 3, 1) := by decide +kernel
theorem dX7_pack_57 : decode cX7_pack 57 = .ok (.iadd, 1) := by decide +kernel
theorem dX7_pack_58 : decode cX7_pack 58 = .ok (.laload, 1) := by decide +kernel
theorem dX7_pack_59 : decode cX7_pack 59 = .ok (.ldc2_w 107, 3) := by decide +kernel
theorem dX7_pack_62 : decode cX7_pack 62 = .ok (.lcmp, 1) := by decide +kernel
theorem dX7_pack_63 : decode cX7_pack 63 = .ok (.ifCond .lt 21, 3) := by decide +kernel
theorem dX7_pack_66 : decode cX7_pack 66 = .ok (.aload_n 0, 1) := by decide +kernel
theorem dX7_pack_67 : decode cX7_pack 67 = .ok (.getfield 20, 3) := by decide +kernel
theorem dX7_pack_70 : decode cX7_pack 70 = .ok (.bipush 100, 2) := by decide +kernel
theorem dX7_pack_72 : decode cX7_pack 72 = .ok (.iload_n 2, 1) := by decide +kernel
theorem dX7_pack_73 : decode cX7_pack 73 = .ok (.imul, 1) := by decide +kernel
theorem dX7_pack_74 : decode cX7_pack 74 = .ok (.iload_n 3, 1) := by decide +kernel
theorem dX7_pack_75 : decode cX7_pack 75 = .ok (.iadd, 1) := by decide +kernel
theorem dX7_pack_76 : decode cX7_pack 76 = .ok (.laload, 1) := by decide +kernel
theorem dX7_pack_77 : decode cX7_pack 77 = .ok (.ldc2_w 141, 3) := by decide +kernel
theorem dX7_pack_80 : decode cX7_pack 80 = .ok (.lcmp, 1) := by decide +kernel
theorem dX7_pack_81 : decode cX7_pack 81 = .ok (.ifCond .lt 9, 3) := by decide +kernel
theorem dX7_pack_84 : decode cX7_pack 84 = .ok (.aload_n 0, 1) := by decide +kernel
theorem dX7_pack_85 : decode cX7_pack 85 = .ok (.iconst 1, 1) := by decide +kernel
theorem dX7_pack_86 : decode cX7_pack 86 = .ok (.invokevirtual 138, 3) := by decide +kernel
theorem dX7_pack_89 : decode cX7_pack 89 = .ok (.ireturn, 1) := by decide +kernel
theorem dX7_pack_90 : decode cX7_pack 90 = .ok (.iinc 3 1, 3) := by decide +kernel
theorem dX7_pack_93 : decode cX7_pack 93 = .ok (.goto (-55), 3) := by decide +kernel
theorem dX7_pack_96 : decode cX7_pack 96 = .ok (.aload_n 0, 1) := by decide +kernel
theorem dX7_pack_97 : decode cX7_pack 97 = .ok (.iload_n 1, 1) := by decide +kernel
theorem dX7_pack_98 : decode cX7_pack 98 = .ok (.invokevirtual 126, 3) := by decide +kernel
theorem dX7_pack_101 : decode cX7_pack 101 = .ok (.aload_n 0, 1) := by decide +kernel
theorem dX7_pack_102 : decode cX7_pack 102 = .ok (.getfield 17, 3) := by decide +kernel
theorem dX7_pack_105 : decode cX7_pack 105 = .ok (.iload_n 2, 1) := by decide +kernel
theorem dX7_pack_106 : decode cX7_pack 106 = .ok (.iaload, 1) := by decide +kernel
theorem dX7_pack_107 : decode cX7_pack 107 = .ok (.iadd, 1) := by decide +kernel
theorem dX7_pack_108 : decode cX7_pack 108 = .ok (.sipush 10000, 3) := by decide +kernel
theorem dX7_pack_111 : decode cX7_pack 111 = .ok (.if_icmp .le 9, 3) := by decide +kernel
theorem dX7_pack_114 : decode cX7_pack 114 = .ok (.aload_n 0, 1) := by decide +kernel
theorem dX7_pack_115 : decode cX7_pack 115 = .ok (.iconst 4, 1) := by decide +kernel
theorem dX7_pack_116 : decode cX7_pack 116 = .ok (.invokevirtual 138, 3) := by decide +kernel
theorem dX7_pack_119 : decode cX7_pack 119 = .ok (.ireturn, 1) := by decide +kernel
theorem dX7_pack_120 : decode cX7_pack 120 = .ok (.iconst 0, 1) := by decide +kernel
theorem dX7_pack_121 : decode cX7_pack 121 = .ok (.istore_n 3, 1) := by decide +kernel
theorem dX7_pack_122 : decode cX7_pack 122 = .ok (.iload_n 3, 1) := by decide +kernel
theorem dX7_pack_123 : decode cX7_pack 123 = .ok (.aload_n 0, 1) := by decide +kernel
theorem dX7_pack_124 : decode cX7_pack 124 = .ok (.getfield 17, 3) := by decide +kernel
theorem dX7_pack_127 : decode cX7_pack 127 = .ok (.iload_n 2, 1) := by decide +kernel
theorem dX7_pack_128 : decode cX7_pack 128 = .ok (.iaload, 1) := by decide +kernel
theorem dX7_pack_129 : decode cX7_pack 129 = .ok (.if_icmp .ge 38, 3) := by decide +kernel
theorem dX7_pack_132 : decode cX7_pack 132 = .ok (.aload_n 0, 1) := by decide +kernel
theorem dX7_pack_133 : decode cX7_pack 133 = .ok (.getfield 20, 3) := by decide +kernel
theorem dX7_pack_136 : decode cX7_pack 136 = .ok (.bipush 100, 2) := by decide +kernel
theorem dX7_pack_138 : decode cX7_pack 138 = .ok (.iload_n 2, 1) := by decide +kernel
theorem dX7_pack_139 : decode cX7_pack 139 = .ok (.imul, 1) := by decide +kernel
theorem dX7_pack_140 : decode cX7_pack 140 = .ok (.iload_n 3, 1) := by decide +kernel
theorem dX7_pack_141 : decode cX7_pack 141 = .ok (.iadd, 1) := by decide +kernel
theorem dX7_pack_142 : decode cX7_pack 142 = .ok (.laload, 1) := by decide +kernel
theorem dX7_pack_143 : decode cX7_pack 143 = .ok (.l2i, 1) := by decide +kernel
theorem dX7_pack_144 : decode cX7_pack 144 = .ok (.istore 4, 2) := by decide +kernel
theorem dX7_pack_146 : decode cX7_pack 146 = .ok (.aload_n 0, 1) := by decide +kernel
theorem dX7_pack_147 : decode cX7_pack 147 = .ok (.iload_n 1, 1) := by decide +kernel
theorem dX7_pack_148 : decode cX7_pack 148 = .ok (.iload 4, 2) := by decide +kernel
theorem dX7_pack_150 : decode cX7_pack 150 = .ok (.iconst 1, 1) := by decide +kernel
theorem dX7_pack_151 : decode cX7_pack 151 = .ok (.invokevirtual 130, 3) := by decide +kernel
theorem dX7_pack_154 : decode cX7_pack 154 = .ok (.aload_n 0, 1) := by decide +kernel
theorem dX7_pack_155 : decode cX7_pack 155 = .ok (.iload_n 1, 1) := by decide +kernel
theorem dX7_pack_156 : decode cX7_pack 156 = .ok (.iload 4, 2) := by decide +kernel
theorem dX7_pack_158 : decode cX7_pack 158 = .ok (.invokevirtual 134, 3) := by decide +kernel
theorem dX7_pack_161 : decode cX7_pack 161 = .ok (.iinc 3 1, 3) := by decide +kernel
theorem dX7_pack_164 : decode cX7_pack 164 = .ok (.goto (-42), 3) := by decide +kernel
theorem dX7_pack_167 : decode cX7_pack 167 = .ok (.aload_n 0, 1) := by decide +kernel
theorem dX7_pack_168 : decode cX7_pack 168 = .ok (.iconst 0, 1) := by decide +kernel
theorem dX7_pack_169 : decode cX7_pack 169 = .ok (.putfield 85, 3) := by decide +kernel
theorem dX7_pack_172 : decode cX7_pack 172 = .ok (.aload_n 0, 1) := by decide +kernel
theorem dX7_pack_173 : decode cX7_pack 173 = .ok (.getfield 17, 3) := by decide +kernel
theorem dX7_pack_176 : decode cX7_pack 176 = .ok (.iload_n 2, 1) := by decide +kernel
theorem dX7_pack_177 : decode cX7_pack 177 = .ok (.iaload, 1) := by decide +kernel
theorem dX7_pack_178 : decode cX7_pack 178 = .ok (.ireturn, 1) := by decide +kernel
set_option maxRecDepth 20000 in
theorem ggX7_truly_X7_isColumn : GoodIn wsX7_truly wsX7_isColumn := goodIn_r _ [7] (by decide +kernel) (by decide +kernel)
set_option maxRecDepth 20000 in
theorem gX7_truly_X7_isColumn : GoodIn wsX7_truly (va_wsS RX7 120 yX7_isColumn wsX7_isColumn) := goodIn_app (goodIn_of _ (by decide +kernel)) ggX7_truly_X7_isColumn
set_option maxRecDepth 20000 in
theorem ggX7_truly_X7_isValue : GoodIn wsX7_truly wsX7_isValue := goodIn_r _ [10] (by decide +kernel) (by decide +kernel)
set_option maxRecDepth 20000 in
theorem gX7_truly_X7_isValue : GoodIn wsX7_truly (va_wsS RX7 123 yX7_isValue wsX7_isValue) := goodIn_app (goodIn_of _ (by decide +kernel)) ggX7_truly_X7_isValue
set_option maxRecDepth 20000 in
theorem ggX7_truly_X7_refuse : GoodIn wsX7_truly wsX7_refuse := goodIn_r _ [14, 1, 15, 16, 17, 18, 19, 20, 21, 22, 23, 24, 25, 26, 27, 28, 29, 30, 31, 32, 33, 34, 35, 36, 37, 38, 39, 40, 41, 42, 43, 44] (by decide +kernel) (by decide +kernel)
set_option maxRecDepth 20000 in
theorem gX7_truly_X7_refuse : GoodIn wsX7_truly (wsV RX7 138 RX7 yX7_refuse wsX7_refuse) := goodIn_app (goodIn_of _ (by decide +kernel)) ggX7_truly_X7_refuse
theorem dX7_truly_0 : decode cX7_truly 0 = .ok (.iload_n 1, 1) := by decide +kernel
theorem dX7_truly_1 : decode cX7_truly 1 = .ok (.invokestatic 120, 3) := by decide +kernel
theorem dX7_truly_4 : decode cX7_truly 4 = .ok (.ifCond .eq 15, 3) := by decide +kernel
theorem dX7_truly_7 : decode cX7_truly 7 = .ok (.iload_n 2, 1) := by decide +kernel
theorem dX7_truly_8 : decode cX7_truly 8 = .ok (.iconst (-1), 1) := by decide +kernel
theorem dX7_truly_9 : decode cX7_truly 9 = .ok (.if_icmp .eq 16, 3) := by decide +kernel
theorem dX7_truly_12 : decode cX7_truly 12 = .ok (.iload_n 2, 1) := by decide +kernel
theorem dX7_truly_13 : decode cX7_truly 13 = .ok (.invokestatic 123, 3) := by decide +kernel
theorem dX7_truly_16 : decode cX7_truly 16 = .ok (.ifCond .ne 9, 3) := by decide +kernel
theorem dX7_truly_19 : decode cX7_truly 19 = .ok (.aload_n 0, 1) := by decide +kernel
theorem dX7_truly_20 : decode cX7_truly 20 = .ok (.iconst 1, 1) := by decide +kernel
theorem dX7_truly_21 : decode cX7_truly 21 = .ok (.invokevirtual 138, 3) := by decide +kernel
theorem dX7_truly_24 : decode cX7_truly 24 = .ok (.ireturn, 1) := by decide +kernel
theorem dX7_truly_25 : decode cX7_truly 25 = .ok (.aload_n 0, 1) := by decide +kernel
theorem dX7_truly_26 : decode cX7_truly 26 = .ok (.iconst 0, 1) := by decide +kernel
theorem dX7_truly_27 : decode cX7_truly 27 = .ok (.putfield 85, 3) := by decide +kernel
theorem dX7_truly_30 : decode cX7_truly 30 = .ok (.iload_n 2, 1) := by decide +kernel
theorem dX7_truly_31 : decode cX7_truly 31 = .ok (.iconst (-1), 1) := by decide +kernel
theorem dX7_truly_32 : decode cX7_truly 32 = .ok (.if_icmp .ne 12, 3) := by decide +kernel
theorem dX7_truly_35 : decode cX7_truly 35 = .ok (.aload_n 0, 1) := by decide +kernel
theorem dX7_truly_36 : decode cX7_truly 36 = .ok (.getfield 27, 3) := by decide +kernel
theorem dX7_truly_39 : decode cX7_truly 39 = .ok (.iload_n 1, 1) := by decide +kernel
theorem dX7_truly_40 : decode cX7_truly 40 = .ok (.iaload, 1) := by decide +kernel
theorem dX7_truly_41 : decode cX7_truly 41 = .ok (.goto 14, 3) := by decide +kernel
theorem dX7_truly_44 : decode cX7_truly 44 = .ok (.aload_n 0, 1) := by decide +kernel
theorem dX7_truly_45 : decode cX7_truly 45 = .ok (.getfield 24, 3) := by decide +kernel
theorem dX7_truly_48 : decode cX7_truly 48 = .ok (.bipush 40, 2) := by decide +kernel
theorem dX7_truly_50 : decode cX7_truly 50 = .ok (.iload_n 1, 1) := by decide +kernel
theorem dX7_truly_51 : decode cX7_truly 51 = .ok (.imul, 1) := by decide +kernel
theorem dX7_truly_52 : decode cX7_truly 52 = .ok (.iload_n 2, 1) := by decide +kernel
theorem dX7_truly_53 : decode cX7_truly 53 = .ok (.iadd, 1) := by decide +kernel
theorem dX7_truly_54 : decode cX7_truly 54 = .ok (.iaload, 1) := by decide +kernel
theorem dX7_truly_55 : decode cX7_truly 55 = .ok (.ireturn, 1) := by decide +kernel
set_option maxRecDepth 20000 in
theorem ggX7_rows_X7_isColumn : GoodIn wsX7_rows wsX7_isColumn := goodIn_r _ [7] (by decide +kernel) (by decide +kernel)
set_option maxRecDepth 20000 in
theorem gX7_rows_X7_isColumn : GoodIn wsX7_rows (va_wsS RX7 120 yX7_isColumn wsX7_isColumn) := goodIn_app (goodIn_of _ (by decide +kernel)) ggX7_rows_X7_isColumn
set_option maxRecDepth 20000 in
theorem ggX7_rows_X7_refuse : GoodIn wsX7_rows wsX7_refuse := goodIn_r _ [11, 1, 17, 18, 19, 20, 21, 22, 23, 24, 25, 26, 27, 28, 29, 30, 31, 32, 33, 34, 35, 36, 37, 38, 39, 40, 41, 42, 43, 44, 45, 46] (by decide +kernel) (by decide +kernel)
set_option maxRecDepth 20000 in
theorem gX7_rows_X7_refuse : GoodIn wsX7_rows (wsV RX7 138 RX7 yX7_refuse wsX7_refuse) := goodIn_app (goodIn_of _ (by decide +kernel)) ggX7_rows_X7_refuse
set_option maxRecDepth 20000 in
theorem ggX7_rows_X7_all : GoodIn wsX7_rows wsX7_all := goodIn_r _ [15, 3, 16, 17, 18, 19, 20, 21, 22, 23, 24, 25, 26, 27, 28, 29, 30, 31, 32, 33, 34, 35, 36, 37, 38, 39, 40, 41, 42, 43, 44, 45, 46] (by decide +kernel) (by decide +kernel)
set_option maxRecDepth 20000 in
theorem gX7_rows_X7_all : GoodIn wsX7_rows (wsV RX7 126 RX7 yX7_all wsX7_all) := goodIn_app (goodIn_of _ (by decide +kernel)) ggX7_rows_X7_all
theorem dX7_rows_0 : decode cX7_rows 0 = .ok (.iload_n 1, 1) := by decide +kernel
theorem dX7_rows_1 : decode cX7_rows 1 = .ok (.invokestatic 120, 3) := by decide +kernel
theorem dX7_rows_4 : decode cX7_rows 4 = .ok (.ifCond .eq 12, 3) := by decide +kernel
theorem dX7_rows_7 : decode cX7_rows 7 = .ok (.iload_n 2, 1) := by decide +kernel
theorem dX7_rows_8 : decode cX7_rows 8 = .ok (.ifCond .lt 8, 3) := by decide +kernel
theorem dX7_rows_11 : decode cX7_rows 11 = .ok (.iload_n 2, 1) := by decide +kernel
theorem dX7_rows_12 : decode cX7_rows 12 = .ok (.iconst 2, 1) := by decide +kernel
theorem dX7_rows_13 : decode cX7_rows 13 = .ok (.if_icmp .le 9, 3) := by decide +kernel
theorem dX7_rows_16 : decode cX7_rows 16 = .ok (.aload_n 0, 1) := by decide +kernel
theorem dX7_rows_17 : decode cX7_rows 17 = .ok (.iconst 1, 1) := by decide +kernel
theorem dX7_rows_18 : decode cX7_rows 18 = .ok (.invokevirtual 138, 3) := by decide +kernel
theorem dX7_rows_21 : decode cX7_rows 21 = .ok (.ireturn, 1) := by decide +kernel
theorem dX7_rows_22 : decode cX7_rows 22 = .ok (.aload_n 0, 1) := by decide +kernel
theorem dX7_rows_23 : decode cX7_rows 23 = .ok (.iconst 0, 1) := by decide +kernel
theorem dX7_rows_24 : decode cX7_rows 24 = .ok (.putfield 85, 3) := by decide +kernel
theorem dX7_rows_27 : decode cX7_rows 27 = .ok (.iconst 0, 1) := by decide +kernel
theorem dX7_rows_28 : decode cX7_rows 28 = .ok (.istore_n 3, 1) := by decide +kernel
theorem dX7_rows_29 : decode cX7_rows 29 = .ok (.iconst 0, 1) := by decide +kernel
theorem dX7_rows_30 : decode cX7_rows 30 = .ok (.istore 4, 2) := by decide +kernel
theorem dX7_rows_32 : decode cX7_rows 32 = .ok (.iload 4, 2) := by decide +kernel
theorem dX7_rows_34 : decode cX7_rows 34 = .ok (.bipush 40, 2) := by decide +kernel
theorem dX7_rows_36 : decode cX7_rows 36 = .ok (.if_icmp .ge 32, 3) := by decide +kernel
theorem dX7_rows_39 : decode cX7_rows 39 = .ok (.iload_n 3, 1) := by decide +kernel
theorem dX7_rows_40 : decode cX7_rows 40 = .ok (.aload_n 0, 1) := by decide +kernel
theorem dX7_rows_41 : decode cX7_rows 41 = .ok (.getfield 24, 3) := by decide +kernel
theorem dX7_rows_44 : decode cX7_rows 44 = .ok (.bipush 40, 2) := by decide +kernel
theorem dX7_rows_46 : decode cX7_rows 46 = .ok (.iload_n 1, 1) := by decide +kernel
theorem dX7_rows_47 : decode cX7_rows 47 = .ok (.imul, 1) := by decide +kernel
theorem dX7_rows_48 : decode cX7_rows 48 = .ok (.iload 4, 2) := by decide +kernel
theorem dX7_rows_50 : decode cX7_rows 50 = .ok (.iadd, 1) := by decide +kernel
theorem dX7_rows_51 : decode cX7_rows 51 = .ok (.iaload, 1) := by decide +kernel
theorem dX7_rows_52 : decode cX7_rows 52 = .ok (.ifCond .le 7, 3) := by decide +kernel
theorem dX7_rows_55 : decode cX7_rows 55 = .ok (.iconst 1, 1) := by decide +kernel
theorem dX7_rows_56 : decode cX7_rows 56 = .ok (.goto 4, 3) := by decide +kernel
theorem dX7_rows_59 : decode cX7_rows 59 = .ok (.iconst 0, 1) := by decide +kernel
theorem dX7_rows_60 : decode cX7_rows 60 = .ok (.iadd, 1) := by decide +kernel
theorem dX7_rows_61 : decode cX7_rows 61 = .ok (.istore_n 3, 1) := by decide +kernel
theorem dX7_rows_62 : decode cX7_rows 62 = .ok (.iinc 4 1, 3) := by decide +kernel
theorem dX7_rows_65 : decode cX7_rows 65 = .ok (.goto (-33), 3) := by decide +kernel
theorem dX7_rows_68 : decode cX7_rows 68 = .ok (.iload_n 2, 1) := by decide +kernel
theorem dX7_rows_69 : decode cX7_rows 69 = .ok (.ifCond .ne 12, 3) := by decide +kernel
theorem dX7_rows_72 : decode cX7_rows 72 = .ok (.aload_n 0, 1) := by decide +kernel
theorem dX7_rows_73 : decode cX7_rows 73 = .ok (.getfield 30, 3) := by decide +kernel
theorem dX7_rows_76 : decode cX7_rows 76 = .ok (.iload_n 1, 1) := by decide +kernel
theorem dX7_rows_77 : decode cX7_rows 77 = .ok (.iaload, 1) := by decide +kernel
theorem dX7_rows_78 : decode cX7_rows 78 = .ok (.goto 17, 3) := by decide +kernel
theorem dX7_rows_81 : decode cX7_rows 81 = .ok (.iload_n 2, 1) := by decide +kernel
theorem dX7_rows_82 : decode cX7_rows 82 = .ok (.iconst 1, 1) := by decide +kernel
theorem dX7_rows_83 : decode cX7_rows 83 = .ok (.if_icmp .ne 11, 3) := by decide +kernel
theorem dX7_rows_86 : decode cX7_rows 86 = .ok (.aload_n 0, 1) := by decide +kernel
theorem dX7_rows_87 : decode cX7_rows 87 = .ok (.iload_n 1, 1) := by decide +kernel
theorem dX7_rows_88 : decode cX7_rows 88 = .ok (.invokevirtual 126, 3) := by decide +kernel
theorem dX7_rows_91 : decode cX7_rows 91 = .ok (.goto 4, 3) := by decide +kernel
theorem dX7_rows_94 : decode cX7_rows 94 = .ok (.iload_n 3, 1) := by decide +kernel
theorem dX7_rows_95 : decode cX7_rows 95 = .ok (.ireturn, 1) := by decide +kernel
theorem dX7_spanOf_0 : decode cX7_spanOf 0 = .ok (.iconst 0, 1) := by decide +kernel
theorem dX7_spanOf_1 : decode cX7_spanOf 1 = .ok (.istore_n 3, 1) := by decide +kernel
theorem dX7_spanOf_2 : decode cX7_spanOf 2 = .ok (.aload_n 0, 1) := by decide +kernel
theorem dX7_spanOf_3 : decode cX7_spanOf 3 = .ok (.getfield 58, 3) := by decide +kernel
theorem dX7_spanOf_6 : decode cX7_spanOf 6 = .ok (.bipush 40, 2) := by decide +kernel
theorem dX7_spanOf_8 : decode cX7_spanOf 8 = .ok (.iload_n 1, 1) := by decide +kernel
theorem dX7_spanOf_9 : decode cX7_spanOf 9 = .ok (.imul, 1) := by decide +kernel
theorem dX7_spanOf_10 : decode cX7_spanOf 10 = .ok (.iload_n 3, 1) := by decide +kernel
theorem dX7_spanOf_11 : decode cX7_spanOf 11 = .ok (.iadd, 1) := by decide +kernel
theorem dX7_spanOf_12 : decode cX7_spanOf 12 = .ok (.iaload, 1) := by decide +kernel
theorem dX7_spanOf_13 : decode cX7_spanOf 13 = .ok (.iload_n 2, 1) := by decide +kernel
theorem dX7_spanOf_14 : decode cX7_spanOf 14 = .ok (.if_icmp .ge 9, 3) := by decide +kernel
theorem dX7_spanOf_17 : decode cX7_spanOf 17 = .ok (.iinc 3 1, 3) := by decide +kernel
theorem dX7_spanOf_20 : decode cX7_spanOf 20 = .ok (.goto (-18), 3) := by decide +kernel
theorem dX7_spanOf_23 : decode cX7_spanOf 23 = .ok (.iload_n 3, 1) := by decide +kernel
theorem dX7_spanOf_24 : decode cX7_spanOf 24 = .ok (.ireturn, 1) := by decide +kernel
theorem dX7_begins_0 : decode cX7_begins 0 = .ok (.iload_n 2, 1) := by decide +kernel
theorem dX7_begins_1 : decode cX7_begins 1 = .ok (.ifCond .ne 7, 3) := by decide +kernel
theorem dX7_begins_4 : decode cX7_begins 4 = .ok (.iconst 0, 1) := by decide +kernel
theorem dX7_begins_5 : decode cX7_begins 5 = .ok (.goto 18, 3) := by decide +kernel
theorem dX7_begins_8 : decode cX7_begins 8 = .ok (.aload_n 0, 1) := by decide +kernel
theorem dX7_begins_9 : decode cX7_begins 9 = .ok (.getfield 58, 3) := by decide +kernel
theorem dX7_begins_12 : decode cX7_begins 12 = .ok (.bipush 40, 2) := by decide +kernel
theorem dX7_begins_14 : decode cX7_begins 14 = .ok (.iload_n 1, 1) := by decide +kernel
theorem dX7_begins_15 : decode cX7_begins 15 = .ok (.imul, 1) := by decide +kernel
theorem dX7_begins_16 : decode cX7_begins 16 = .ok (.iload_n 2, 1) := by decide +kernel
theorem dX7_begins_17 : decode cX7_begins 17 = .ok (.iadd, 1) := by decide +kernel
theorem dX7_begins_18 : decode cX7_begins 18 = .ok (.iconst 1, 1) := by decide +kernel
theorem dX7_begins_19 : decode cX7_begins 19 = .ok (.isub, 1) := by decide +kernel
theorem dX7_begins_20 : decode cX7_begins 20 = .ok (.iaload, 1) := by decide +kernel
theorem dX7_begins_21 : decode cX7_begins 21 = .ok (.iconst 1, 1) := by decide +kernel
theorem dX7_begins_22 : decode cX7_begins 22 = .ok (.iadd, 1) := by decide +kernel
theorem dX7_begins_23 : decode cX7_begins 23 = .ok (.ireturn, 1) := by decide +kernel
theorem dX7_light_0 : decode cX7_light 0 = .ok (.iconst 0, 1) := by decide +kernel
theorem dX7_light_1 : decode cX7_light 1 = .ok (.istore 4, 2) := by decide +kernel
theorem dX7_light_3 : decode cX7_light 3 = .ok (.iload_n 2, 1) := by decide +kernel
theorem dX7_light_4 : decode cX7_light 4 = .ok (.istore 5, 2) := by decide +kernel
theorem dX7_light_6 : decode cX7_light 6 = .ok (.iload 5, 2) := by decide +kernel
theorem dX7_light_8 : decode cX7_light 8 = .ok (.iload_n 3, 1) := by decide +kernel
theorem dX7_light_9 : decode cX7_light 9 = .ok (.if_icmp .gt 34, 3) := by decide +kernel
theorem dX7_light_12 : decode cX7_light 12 = .ok (.iload 4, 2) := by decide +kernel
theorem dX7_light_14 : decode cX7_light 14 = .ok (.aload_n 0, 1) := by decide +kernel
theorem dX7_light_15 : decode cX7_light 15 = .ok (.getfield 54, 3) := by decide +kernel
theorem dX7_light_18 : decode cX7_light 18 = .ok (.bipush 40, 2) := by decide +kernel
theorem dX7_light_20 : decode cX7_light 20 = .ok (.iload_n 1, 1) := by decide +kernel
theorem dX7_light_21 : decode cX7_light 21 = .ok (.imul, 1) := by decide +kernel
theorem dX7_light_22 : decode cX7_light 22 = .ok (.iload 5, 2) := by decide +kernel
theorem dX7_light_24 : decode cX7_light 24 = .ok (.iadd, 1) := by decide +kernel
theorem dX7_light_25 : decode cX7_light 25 = .ok (.baload, 1) := by decide +kernel
theorem dX7_light_26 : decode cX7_light 26 = .ok (.ifCond .eq 7, 3) := by decide +kernel
theorem dX7_light_29 : decode cX7_light 29 = .ok (.iconst 0, 1) := by decide +kernel
theorem dX7_light_30 : decode cX7_light 30 = .ok (.goto 4, 3) := by decide +kernel
theorem dX7_light_33 : decode cX7_light 33 = .ok (.iconst 1, 1) := by decide +kernel
theorem dX7_light_34 : decode cX7_light 34 = .ok (.iadd, 1) := by decide +kernel
theorem dX7_light_35 : decode cX7_light 35 = .ok (.istore 4, 2) := by decide +kernel
theorem dX7_light_37 : decode cX7_light 37 = .ok (.iinc 5 1, 3) := by decide +kernel
theorem dX7_light_40 : decode cX7_light 40 = .ok (.goto (-34), 3) := by decide +kernel
theorem dX7_light_43 : decode cX7_light 43 = .ok (.iload 4, 2) := by decide +kernel
theorem dX7_light_45 : decode cX7_light 45 = .ok (.ireturn, 1) := by decide +kernel
set_option maxRecDepth 20000 in
theorem ggX7_longOf_X7_begins : GoodIn wsX7_longOf wsX7_begins := goodIn_r _ [6, 1, 12, 13, 14, 15, 16, 17, 18, 19, 20, 21, 22, 23, 24, 25, 26, 27, 28, 29, 30, 31, 32, 33, 34, 35, 36, 37, 38, 39, 40, 41] (by decide +kernel) (by decide +kernel)
set_option maxRecDepth 20000 in
theorem gX7_longOf_X7_begins : GoodIn wsX7_longOf (wsV RX7 143 RX7 yX7_begins wsX7_begins) := goodIn_app (goodIn_of _ (by decide +kernel)) ggX7_longOf_X7_begins
set_option maxRecDepth 20000 in
theorem ggX7_longOf_X7_light : GoodIn wsX7_longOf wsX7_light := goodIn_r _ [10, 11, 12, 13, 14, 15, 16, 17, 18, 19, 20, 21, 22, 23, 24, 25, 26, 27, 28, 29, 30, 31, 32, 33, 34, 35, 36, 37, 38, 39, 40, 41] (by decide +kernel) (by decide +kernel)
set_option maxRecDepth 20000 in
theorem gX7_longOf_X7_light : GoodIn wsX7_longOf (wsV RX7 146 RX7 yX7_light wsX7_light) := goodIn_app (goodIn_of _ (by decide +kernel)) ggX7_longOf_X7_light
theorem dX7_longOf_0 : decode cX7_longOf 0 = .ok (.aload_n 0, 1) := by decide +kernel
theorem dX7_longOf_1 : decode cX7_longOf 1 = .ok (.iload_n 1, 1) := by decide +kernel
theorem dX7_longOf_2 : decode cX7_longOf 2 = .ok (.aload_n 0, 1) := by decide +kernel
theorem dX7_longOf_3 : decode cX7_longOf 3 = .ok (.iload_n 1, 1) := by decide +kernel
theorem dX7_longOf_4 : decode cX7_longOf 4 = .ok (.iload_n 2, 1) := by decide +kernel
theorem dX7_longOf_5 : decode cX7_longOf 5 = .ok (.invokevirtual 143, 3) := by decide +kernel
theorem dX7_longOf_8 : decode cX7_longOf 8 = .ok (.aload_n 0, 1) := by decide +kernel
theorem dX7_longOf_9 : decode cX7_longOf 9 = .ok (.getfield 58, 3) := by decide +kernel
theorem dX7_longOf_12 : decode cX7_longOf 12 = .ok (.bipush 40, 2) := by decide +kernel
theorem dX7_longOf_14 : decode cX7_longOf 14 = .ok (.iload_n 1, 1) := by decide +kernel
theorem dX7_longOf_15 : decode cX7_longOf 15 = .ok (.imul, 1) := by decide +kernel
theorem dX7_longOf_16 : decode cX7_longOf 16 = .ok (.iload_n 2, 1) := by decide +kernel
theorem dX7_longOf_17 : decode cX7_longOf 17 = .ok (.iadd, 1) := by decide +kernel
theorem dX7_longOf_18 : decode cX7_longOf 18 = .ok (.iaload, 1) := by decide +kernel
theorem dX7_longOf_19 : decode cX7_longOf 19 = .ok (.invokevirtual 146, 3) := by decide +kernel
theorem dX7_longOf_22 : decode cX7_longOf 22 = .ok (.ireturn, 1) := by decide +kernel
theorem dX7_errors_0 : decode cX7_errors 0 = .ok (.iconst 0, 1) := by decide +kernel
theorem dX7_errors_1 : decode cX7_errors 1 = .ok (.istore_n 2, 1) := by decide +kernel
theorem dX7_errors_2 : decode cX7_errors 2 = .ok (.iload_n 2, 1) := by decide +kernel
theorem dX7_errors_3 : decode cX7_errors 3 = .ok (.bipush 40, 2) := by decide +kernel
theorem dX7_errors_5 : decode cX7_errors 5 = .ok (.if_icmp .ge 108, 3) := by decide +kernel
theorem dX7_errors_8 : decode cX7_errors 8 = .ok (.ldc 150, 2) := by decide +kernel
theorem dX7_errors_10 : decode cX7_errors 10 = .ok (.istore_n 3, 1) := by decide +kernel
theorem dX7_errors_11 : decode cX7_errors 11 = .ok (.iconst (-1), 1) := by decide +kernel
theorem dX7_errors_12 : decode cX7_errors 12 = .ok (.istore 4, 2) := by decide +kernel
theorem dX7_errors_14 : decode cX7_errors 14 = .ok (.iload_n 2, 1) := by decide +kernel
theorem dX7_errors_15 : decode cX7_errors 15 = .ok (.istore 5, 2) := by decide +kernel
theorem dX7_errors_17 : decode cX7_errors 17 = .ok (.iload 5, 2) := by decide +kernel
theorem dX7_errors_19 : decode cX7_errors 19 = .ok (.bipush 40, 2) := by decide +kernel
theorem dX7_errors_21 : decode cX7_errors 21 = .ok (.if_icmp .ge 86, 3) := by decide +kernel
theorem dX7_errors_24 : decode cX7_errors 24 = .ok (.aload_n 0, 1) := by decide +kernel
theorem dX7_errors_25 : decode cX7_errors 25 = .ok (.getfield 54, 3) := by decide +kernel
theorem dX7_errors_28 : decode cX7_errors 28 = .ok (.bipush 40, 2) := by decide +kernel
theorem dX7_errors_30 : decode cX7_errors 30 = .ok (.iload_n 1, 1) := by decide +kernel
theorem dX7_errors_31 : decode cX7_errors 31 = .ok (.imul, 1) := by decide +kernel
theorem dX7_errors_32 : decode cX7_errors 32 = .ok (.iload 5, 2) := by decide +kernel
theorem dX7_errors_34 : decode cX7_errors 34 = .ok (.iadd, 1) := by decide +kernel
theorem dX7_errors_35 : decode cX7_errors 35 = .ok (.baload, 1) := by decide +kernel
theorem dX7_errors_36 : decode cX7_errors 36 = .ok (.ifCond .ne 39, 3) := by decide +kernel
theorem dX7_errors_39 : decode cX7_errors 39 = .ok (.iload_n 3, 1) := by decide +kernel
theorem dX7_errors_40 : decode cX7_errors 40 = .ok (.aload_n 0, 1) := by decide +kernel
theorem dX7_errors_41 : decode cX7_errors 41 = .ok (.getfield 24, 3) := by decide +kernel
theorem dX7_errors_44 : decode cX7_errors 44 = .ok (.bipush 40, 2) := by decide +kernel
theorem dX7_errors_46 : decode cX7_errors 46 = .ok (.iload_n 1, 1) := by decide +kernel
theorem dX7_errors_47 : decode cX7_errors 47 = .ok (.imul, 1) := by decide +kernel
theorem dX7_errors_48 : decode cX7_errors 48 = .ok (.iload 5, 2) := by decide +kernel
theorem dX7_errors_50 : decode cX7_errors 50 = .ok (.iadd, 1) := by decide +kernel
theorem dX7_errors_51 : decode cX7_errors 51 = .ok (.iaload, 1) := by decide +kernel
theorem dX7_errors_52 : decode cX7_errors 52 = .ok (.invokestatic 151, 3) := by decide +kernel
theorem dX7_errors_55 : decode cX7_errors 55 = .ok (.istore_n 3, 1) := by decide +kernel
theorem dX7_errors_56 : decode cX7_errors 56 = .ok (.iload 4, 2) := by decide +kernel
theorem dX7_errors_58 : decode cX7_errors 58 = .ok (.aload_n 0, 1) := by decide +kernel
theorem dX7_errors_59 : decode cX7_errors 59 = .ok (.getfield 24, 3) := by decide +kernel
theorem dX7_errors_62 : decode cX7_errors 62 = .ok (.bipush 40, 2) := by decide +kernel
theorem dX7_errors_64 : decode cX7_errors 64 = .ok (.iload_n 1, 1) := by decide +kernel
theorem dX7_errors_65 : decode cX7_errors 65 = .ok (.imul, 1) := by decide +kernel
theorem dX7_errors_66 : decode cX7_errors 66 = .ok (.iload 5, 2) := by decide +kernel
theorem dX7_errors_68 : decode cX7_errors 68 = .ok (.iadd, 1) := by decide +kernel
theorem dX7_errors_69 : decode cX7_errors 69 = .ok (.iaload, 1) := by decide +kernel
theorem dX7_errors_70 : decode cX7_errors 70 = .ok (.invokestatic 156, 3) := by decide +kernel
theorem dX7_errors_73 : decode cX7_errors 73 = .ok (.istore 4, 2) := by decide +kernel
theorem dX7_errors_75 : decode cX7_errors 75 = .ok (.aload_n 0, 1) := by decide +kernel
theorem dX7_errors_76 : decode cX7_errors 76 = .ok (.getfield 67, 3) := by decide +kernel
theorem dX7_errors_79 : decode cX7_errors 79 = .ok (.bipush 40, 2) := by decide +kernel
theorem dX7_errors_81 : decode cX7_errors 81 = .ok (.iload_n 2, 1) := by decide +kernel
theorem dX7_errors_82 : decode cX7_errors 82 = .ok (.imul, 1) := by decide +kernel
theorem dX7_errors_83 : decode cX7_errors 83 = .ok (.iload 5, 2) := by decide +kernel
theorem dX7_errors_85 : decode cX7_errors 85 = .ok (.iadd, 1) := by decide +kernel
theorem dX7_errors_86 : decode cX7_errors 86 = .ok (.iload 4, 2) := by decide +kernel
theorem dX7_errors_88 : decode cX7_errors 88 = .ok (.iconst (-1), 1) := by decide +kernel
theorem dX7_errors_89 : decode cX7_errors 89 = .ok (.if_icmp .ne 7, 3) := by decide +kernel
theorem dX7_errors_92 : decode cX7_errors 92 = .ok (.iconst 0, 1) := by decide +kernel
theorem dX7_errors_93 : decode cX7_errors 93 = .ok (.goto 7, 3) := by decide +kernel
theorem dX7_errors_96 : decode cX7_errors 96 = .ok (.iload 4, 2) := by decide +kernel
theorem dX7_errors_98 : decode cX7_errors 98 = .ok (.iload_n 3, 1) := by decide +kernel
theorem dX7_errors_99 : decode cX7_errors 99 = .ok (.isub, 1) := by decide +kernel
theorem dX7_errors_100 : decode cX7_errors 100 = .ok (.iastore, 1) := by decide +kernel
theorem dX7_errors_101 : decode cX7_errors 101 = .ok (.iinc 5 1, 3) := by decide +kernel
theorem dX7_errors_104 : decode cX7_errors 104 = .ok (.goto (-87), 3) := by decide +kernel
theorem dX7_errors_107 : decode cX7_errors 107 = .ok (.iinc 2 1, 3) := by decide +kernel
theorem dX7_errors_110 : decode cX7_errors 110 = .ok (.goto (-108), 3) := by decide +kernel
theorem dX7_errors_113 : decode cX7_errors 113 = .ok (.return_, 1) := by decide +kernel
theorem dX7_at_0 : decode cX7_at 0 = .ok (.bipush 101, 2) := by decide +kernel
theorem dX7_at_2 : decode cX7_at 2 = .ok (.iload_n 0, 1) := by decide +kernel
theorem dX7_at_3 : decode cX7_at 3 = .ok (.imul, 1) := by decide +kernel
theorem dX7_at_4 : decode cX7_at 4 = .ok (.iload_n 1, 1) := by decide +kernel
theorem dX7_at_5 : decode cX7_at 5 = .ok (.iadd, 1) := by decide +kernel
theorem dX7_at_6 : decode cX7_at 6 = .ok (.ireturn, 1) := by decide +kernel
set_option maxRecDepth 20000 in
theorem ggX7_make_X7_isColumn : GoodIn wsX7_make wsX7_isColumn := goodIn_r _ [25] (by decide +kernel) (by decide +kernel)
set_option maxRecDepth 20000 in
theorem gX7_make_X7_isColumn : GoodIn wsX7_make (va_wsS RX7 120 yX7_isColumn wsX7_isColumn) := goodIn_app (goodIn_of _ (by decide +kernel)) ggX7_make_X7_isColumn
set_option maxRecDepth 20000 in
theorem ggX7_make_X7_refuse : GoodIn wsX7_make wsX7_refuse := goodIn_r _ [29, 21, 37, 38, 39, 40, 41, 42, 43, 44, 45, 46, 47, 48, 49, 50, 51, 52, 53, 54, 55, 56, 57, 58, 59, 60, 61, 62, 63, 64, 65, 66] (by decide +kernel) (by decide +kernel)
set_option maxRecDepth 20000 in
theorem gX7_make_X7_refuse : GoodIn wsX7_make (wsV RX7 138 RX7 yX7_refuse wsX7_refuse) := goodIn_app (goodIn_of _ (by decide +kernel)) ggX7_make_X7_refuse
set_option maxRecDepth 20000 in
theorem ggX7_make_X7_errors : GoodIn wsX7_make wsX7_errors := goodIn_r _ [33, 6, 1, 2, 13, 14, 11, 15, 9, 10, 12, 8, 37, 38, 39, 40, 41, 42, 43, 44, 45, 46, 47, 48, 49, 50, 51, 52, 53, 54, 55, 56, 57, 58, 59, 60, 61, 62, 63, 64, 65, 66] (by decide +kernel) (by decide +kernel)
set_option maxRecDepth 20000 in
theorem gX7_make_X7_errors : GoodIn wsX7_make (wsV RX7 159 RX7 yX7_errors wsX7_errors) := goodIn_app (goodIn_of _ (by decide +kernel)) ggX7_make_X7_errors
set_option maxRecDepth 20000 in
theorem ggX7_make_X7_at : GoodIn wsX7_make wsX7_at := goodIn_r _ [36] (by decide +kernel) (by decide +kernel)
set_option maxRecDepth 20000 in
theorem gX7_make_X7_at : GoodIn wsX7_make (va_wsS RX7 163 yX7_at wsX7_at) := goodIn_app (goodIn_of _ (by decide +kernel)) ggX7_make_X7_at
theorem dX7_make_0 : decode cX7_make 0 = .ok (.iload_n 1, 1) := by decide +kernel
theorem dX7_make_1 : decode cX7_make 1 = .ok (.invokestatic 120, 3) := by decide +kernel
theorem dX7_make_4 : decode cX7_make 4 = .ok (.ifCond .eq 38, 3) := by decide +kernel
theorem dX7_make_7 : decode cX7_make 7 = .ok (.iload_n 2, 1) := by decide +kernel
theorem dX7_make_8 : decode cX7_make 8 = .ok (.iconst 1, 1) := by decide +kernel
theorem dX7_make_9 : decode cX7_make 9 = .ok (.if_icmp .lt 33, 3) := by decide +kernel
theorem dX7_make_12 : decode cX7_make 12 = .ok (.iload_n 2, 1) := by decide +kernel
theorem dX7_make_13 : decode cX7_make 13 = .ok (.bipush 12, 2) := by decide +kernel
theorem dX7_make_15 : decode cX7_make 15 = .ok (.if_icmp .gt 27, 3) := by decide +kernel
theorem dX7_make_18 : decode cX7_make 18 = .ok (.iload 4, 2) := by decide +kernel
theorem dX7_make_20 : decode cX7_make 20 = .ok (.iconst 1, 1) := by decide +kernel
theorem dX7_make_21 : decode cX7_make 21 = .ok (.if_icmp .lt 21, 3) := by decide +kernel
theorem dX7_make_24 : decode cX7_make 24 = .ok (.iload 4, 2) := by decide +kernel
theorem dX7_make_26 : decode cX7_make 26 = .ok (.sipush 1000, 3) := by decide +kernel
theorem dX7_make_29 : decode cX7_make 29 = .ok (.if_icmp .gt 13, 3) := by decide +kernel
theorem dX7_make_32 : decode cX7_make 32 = .ok (.iload_n 3, 1) := by decide +kernel
theorem dX7_make_33 : decode cX7_make 33 = .ok (.ifCond .lt 9, 3) := by decide +kernel
theorem dX7_make_36 : decode cX7_make 36 = .ok (.iload_n 3, 1) := by decide +kernel
theorem dX7_make_37 : decode cX7_make 37 = .ok (.iload 4, 2) := by decide +kernel
theorem dX7_make_39 : decode cX7_make 39 = .ok (.if_icmp .le 9, 3) := by decide +kernel
theorem dX7_make_42 : decode cX7_make 42 = .ok (.aload_n 0, 1) := by decide +kernel
theorem dX7_make_43 : decode cX7_make 43 = .ok (.iconst 1, 1) := by decide +kernel
theorem dX7_make_44 : decode cX7_make 44 = .ok (.invokevirtual 138, 3) := by decide +kernel
theorem dX7_make_47 : decode cX7_make 47 = .ok (.ireturn, 1) := by decide +kernel
theorem dX7_make_48 : decode cX7_make 48 = .ok (.iconst 0, 1) := by decide +kernel
theorem dX7_make_49 : decode cX7_make 49 = .ok (.istore 5, 2) := by decide +kernel
theorem dX7_make_51 : decode cX7_make 51 = .ok (.iload 5, 2) := by decide +kernel
theorem dX7_make_53 : decode cX7_make 53 = .ok (.bipush 40, 2) := by decide +kernel
theorem dX7_make_55 : decode cX7_make 55 = .ok (.if_icmp .ge 22, 3) := by decide +kernel
theorem dX7_make_58 : decode cX7_make 58 = .ok (.aload_n 0, 1) := by decide +kernel
theorem dX7_make_59 : decode cX7_make 59 = .ok (.getfield 54, 3) := by decide +kernel
theorem dX7_make_62 : decode cX7_make 62 = .ok (.bipush 40, 2) := by decide +kernel
theorem dX7_make_64 : decode cX7_make 64 = .ok (.iload_n 1, 1) := by decide +kernel
theorem dX7_make_65 : decode cX7_make 65 = .ok (.imul, 1) := by decide +kernel
theorem dX7_make_66 : decode cX7_make 66 = .ok (.iload 5, 2) := by decide +kernel
theorem dX7_make_68 : decode cX7_make 68 = .ok (.iadd, 1) := by decide +kernel
theorem dX7_make_69 : decode cX7_make 69 = .ok (.iconst 0, 1) := by decide +kernel
theorem dX7_make_70 : decode cX7_make 70 = .ok (.bastore, 1) := by decide +kernel
theorem dX7_make_71 : decode cX7_make 71 = .ok (.iinc 5 1, 3) := by decide +kernel
theorem dX7_make_74 : decode cX7_make 74 = .ok (.goto (-23), 3) := by decide +kernel
theorem dX7_make_77 : decode cX7_make 77 = .ok (.iconst 0, 1) := by decide +kernel
theorem dX7_make_78 : decode cX7_make 78 = .ok (.istore 5, 2) := by decide +kernel
theorem dX7_make_80 : decode cX7_make 80 = .ok (.iload 5, 2) := by decide +kernel
theorem dX7_make_82 : decode cX7_make 82 = .ok (.bipush 8, 2) := by decide +kernel
theorem dX7_make_84 : decode cX7_make 84 = .ok (.if_icmp .ge 159, 3) := by decide +kernel
theorem dX7_make_87 : decode cX7_make 87 = .ok (.iconst (-1), 1) := by decide +kernel
theorem dX7_make_88 : decode cX7_make 88 = .ok (.istore 6, 2) := by decide +kernel
theorem dX7_make_90 : decode cX7_make 90 = .ok (.iconst 0, 1) := by decide +kernel
theorem dX7_make_91 : decode cX7_make 91 = .ok (.istore 7, 2) := by decide +kernel
theorem dX7_make_93 : decode cX7_make 93 = .ok (.iload 7, 2) := by decide +kernel
theorem dX7_make_95 : decode cX7_make 95 = .ok (.bipush 40, 2) := by decide +kernel
theorem dX7_make_97 : decode cX7_make 97 = .ok (.if_icmp .ge 94, 3) := by decide +kernel
theorem dX7_make_100 : decode cX7_make 100 = .ok (.aload_n 0, 1) := by decide +kernel
theorem dX7_make_101 : decode cX7_make 101 = .ok (.getfield 24, 3) := by decide +kernel
theorem dX7_make_104 : decode cX7_make 104 = .ok (.bipush 40, 2) := by decide +kernel
theorem dX7_make_106 : decode cX7_make 106 = .ok (.iload_n 1, 1) := by decide +kernel
theorem dX7_make_107 : decode cX7_make 107 = .ok (.imul, 1) := by decide +kernel
theorem dX7_make_108 : decode cX7_make 108 = .ok (.iload 7, 2) := by decide +kernel
theorem dX7_make_110 : decode cX7_make 110 = .ok (.iadd, 1) := by decide +kernel
theorem dX7_make_111 : decode cX7_make 111 = .ok (.iaload, 1) := by decide +kernel
theorem dX7_make_112 : decode cX7_make 112 = .ok (.istore 8, 2) := by decide +kernel
theorem dX7_make_114 : decode cX7_make 114 = .ok (.iload 8, 2) := by decide +kernel
theorem dX7_make_116 : decode cX7_make 116 = .ok (.ifCond .eq 69, 3) := by decide +kernel
theorem dX7_make_119 : decode cX7_make 119 = .ok (.aload_n 0, 1) := by decide +kernel
theorem dX7_make_120 : decode cX7_make 120 = .ok (.getfield 54, 3) := by decide +kernel
theorem dX7_make_123 : decode cX7_make 123 = .ok (.bipush 40, 2) := by decide +kernel
theorem dX7_make_125 : decode cX7_make 125 = .ok (.iload_n 1, 1) := by decide +kernel
theorem dX7_make_126 : decode cX7_make 126 = .ok (.imul, 1) := by decide +kernel
theorem dX7_make_127 : decode cX7_make 127 = .ok (.iload 7, 2) := by decide +kernel
theorem dX7_make_129 : decode cX7_make 129 = .ok (.iadd, 1) := by decide +kernel
theorem dX7_make_130 : decode cX7_make 130 = .ok (.baload, 1) := by decide +kernel
theorem dX7_make_131 : decode cX7_make 131 = .ok (.ifCond .ne 54, 3) := by decide +kernel
theorem dX7_make_134 : decode cX7_make 134 = .ok (.iload 8, 2) := by decide +kernel
theorem dX7_make_136 : decode cX7_make 136 = .ok (.i2l, 1) := by decide +kernel
theorem dX7_make_137 : decode cX7_make 137 = .ok (.iload 4, 2) := by decide +kernel
theorem dX7_make_139 : decode cX7_make 139 = .ok (.i2l, 1) := by decide +kernel
theorem dX7_make_140 : decode cX7_make 140 = .ok (.lmul, 1) := by decide +kernel
theorem dX7_make_141 : decode cX7_make 141 = .ok (.aload_n 0, 1) := by decide +kernel
theorem dX7_make_142 : decode cX7_make 142 = .ok (.getfield 30, 3) := by decide +kernel
theorem dX7_make_145 : decode cX7_make 145 = .ok (.iload_n 1, 1) := by decide +kernel
theorem dX7_make_146 : decode cX7_make 146 = .ok (.iaload, 1) := by decide +kernel
theorem dX7_make_147 : decode cX7_make 147 = .ok (.i2l, 1) := by decide +kernel
theorem dX7_make_148 : decode cX7_make 148 = .ok (.iload_n 3, 1) := by decide +kernel
theorem dX7_make_149 : decode cX7_make 149 = .ok (.i2l, 1) := by decide +kernel
theorem dX7_make_150 : decode cX7_make 150 = .ok (.lmul, 1) := by decide +kernel
theorem dX7_make_151 : decode cX7_make 151 = .ok (.lcmp, 1) := by decide +kernel
theorem dX7_make_152 : decode cX7_make 152 = .ok (.ifCond .ge 6, 3) := by decide +kernel
theorem dX7_make_155 : decode cX7_make 155 = .ok (.goto 30, 3) := by decide +kernel
theorem dX7_make_158 : decode cX7_make 158 = .ok (.iload 6, 2) := by decide +kernel
theorem dX7_make_160 : decode cX7_make 160 = .ok (.iconst (-1), 1) := by decide +kernel
theorem dX7_make_161 : decode cX7_make 161 = .ok (.if_icmp .eq 20, 3) := by decide +kernel
theorem dX7_make_164 : decode cX7_make 164 = .ok (.iload 8, 2) := by decide +kernel
theorem dX7_make_166 : decode cX7_make 166 = .ok (.aload_n 0, 1) := by decide +kernel
theorem dX7_make_167 : decode cX7_make 167 = .ok (.getfield 24, 3) := by decide +kernel
theorem dX7_make_170 : decode cX7_make 170 = .ok (.bipush 40, 2) := by decide +kernel
theorem dX7_make_172 : decode cX7_make 172 = .ok (.iload_n 1, 1) := by decide +kernel
theorem dX7_make_173 : decode cX7_make 173 = .ok (.imul, 1) := by decide +kernel
theorem dX7_make_174 : decode cX7_make 174 = .ok (.iload 6, 2) := by decide +kernel
theorem dX7_make_176 : decode cX7_make 176 = .ok (.iadd, 1) := by decide +kernel
theorem dX7_make_177 : decode cX7_make 177 = .ok (.iaload, 1) := by decide +kernel
theorem dX7_make_178 : decode cX7_make 178 = .ok (.if_icmp .le 7, 3) := by decide +kernel
theorem dX7_make_181 : decode cX7_make 181 = .ok (.iload 7, 2) := by decide +kernel
theorem dX7_make_183 : decode cX7_make 183 = .ok (.istore 6, 2) := by decide +kernel
theorem dX7_make_185 : decode cX7_make 185 = .ok (.iinc 7 1, 3) := by decide +kernel
theorem dX7_make_188 : decode cX7_make 188 = .ok (.goto (-95), 3) := by decide +kernel
theorem dX7_make_191 : decode cX7_make 191 = .ok (.iload 6, 2) := by decide +kernel
theorem dX7_make_193 : decode cX7_make 193 = .ok (.iconst (-1), 1) := by decide +kernel
theorem dX7_make_194 : decode cX7_make 194 = .ok (.if_icmp .ne 6, 3) := by decide +kernel
theorem dX7_make_197 : decode cX7_make 197 = .ok (.goto 46, 3) := by decide +kernel
theorem dX7_make_200 : decode cX7_make 200 = .ok (.aload_n 0, 1) := by decide +kernel
theorem dX7_make_201 : decode cX7_make 201 = .ok (.getfield 54, 3) := by decide +kernel
theorem dX7_make_204 : decode cX7_make 204 = .ok (.bipush 40, 2) := by decide +kernel
theorem dX7_make_206 : decode cX7_make 206 = .ok (.iload_n 1, 1) := by decide +kernel
theorem dX7_make_207 : decode cX7_make 207 = .ok (.imul, 1) := by decide +kernel
theorem dX7_make_208 : decode cX7_make 208 = .ok (.iload 6, 2) := by decide +kernel
theorem dX7_make_210 : decode cX7_make 210 = .ok (.iadd, 1) := by decide +kernel
theorem dX7_make_211 : decode cX7_make 211 = .ok (.iconst 1, 1) := by decide +kernel
theorem dX7_make_212 : decode cX7_make 212 = .ok (.bastore, 1) := by decide +kernel
theorem dX7_make_213 : decode cX7_make 213 = .ok (.aload_n 0, 1) := by decide +kernel
theorem dX7_make_214 : decode cX7_make 214 = .ok (.getfield 51, 3) := by decide +kernel
theorem dX7_make_217 : decode cX7_make 217 = .ok (.bipush 40, 2) := by decide +kernel
theorem dX7_make_219 : decode cX7_make 219 = .ok (.iload_n 1, 1) := by decide +kernel
theorem dX7_make_220 : decode cX7_make 220 = .ok (.imul, 1) := by decide +kernel
theorem dX7_make_221 : decode cX7_make 221 = .ok (.iload 6, 2) := by decide +kernel
theorem dX7_make_223 : decode cX7_make 223 = .ok (.iadd, 1) := by decide +kernel
theorem dX7_make_224 : decode cX7_make 224 = .ok (.aload_n 0, 1) := by decide +kernel
theorem dX7_make_225 : decode cX7_make 225 = .ok (.getfield 24, 3) := by decide +kernel
theorem dX7_make_228 : decode cX7_make 228 = .ok (.bipush 40, 2) := by decide +kernel
theorem dX7_make_230 : decode cX7_make 230 = .ok (.iload_n 1, 1) := by decide +kernel
theorem dX7_make_231 : decode cX7_make 231 = .ok (.imul, 1) := by decide +kernel
theorem dX7_make_232 : decode cX7_make 232 = .ok (.iload 6, 2) := by decide +kernel
theorem dX7_make_234 : decode cX7_make 234 = .ok (.iadd, 1) := by decide +kernel
theorem dX7_make_235 : decode cX7_make 235 = .ok (.iaload, 1) := by decide +kernel
theorem dX7_make_236 : decode cX7_make 236 = .ok (.iastore, 1) := by decide +kernel
theorem dX7_make_237 : decode cX7_make 237 = .ok (.iinc 5 1, 3) := by decide +kernel
theorem dX7_make_240 : decode cX7_make 240 = .ok (.goto (-160), 3) := by decide +kernel
theorem dX7_make_243 : decode cX7_make 243 = .ok (.aload_n 0, 1) := by decide +kernel
theorem dX7_make_244 : decode cX7_make 244 = .ok (.iload_n 1, 1) := by decide +kernel
theorem dX7_make_245 : decode cX7_make 245 = .ok (.invokevirtual 159, 3) := by decide +kernel
theorem dX7_make_248 : decode cX7_make 248 = .ok (.iconst 0, 1) := by decide +kernel
theorem dX7_make_249 : decode cX7_make 249 = .ok (.istore 5, 2) := by decide +kernel
theorem dX7_make_251 : decode cX7_make 251 = .ok (.iload 5, 2) := by decide +kernel
theorem dX7_make_253 : decode cX7_make 253 = .ok (.bipush 40, 2) := by decide +kernel
theorem dX7_make_255 : decode cX7_make 255 = .ok (.if_icmp .gt 57, 3) := by decide +kernel
theorem dX7_make_258 : decode cX7_make 258 = .ok (.aload_n 0, 1) := by decide +kernel
theorem dX7_make_259 : decode cX7_make 259 = .ok (.getfield 70, 3) := by decide +kernel
theorem dX7_make_262 : decode cX7_make 262 = .ok (.iconst 0, 1) := by decide +kernel
theorem dX7_make_263 : decode cX7_make 263 = .ok (.iload 5, 2) := by decide +kernel
theorem dX7_make_265 : decode cX7_make 265 = .ok (.invokestatic 163, 3) := by decide +kernel
theorem dX7_make_268 : decode cX7_make 268 = .ok (.iload 5, 2) := by decide +kernel
theorem dX7_make_270 : decode cX7_make 270 = .ok (.bipush 40, 2) := by decide +kernel
theorem dX7_make_272 : decode cX7_make 272 = .ok (.if_icmp .ne 7, 3) := by decide +kernel
theorem dX7_make_275 : decode cX7_make 275 = .ok (.iconst 0, 1) := by decide +kernel
theorem dX7_make_276 : decode cX7_make 276 = .ok (.goto 5, 3) := by decide +kernel
theorem dX7_make_279 : decode cX7_make 279 = .ok (.ldc 150, 2) := by decide +kernel
theorem dX7_make_281 : decode cX7_make 281 = .ok (.iastore, 1) := by decide +kernel
theorem dX7_make_282 : decode cX7_make 282 = .ok (.aload_n 0, 1) := by decide +kernel
theorem dX7_make_283 : decode cX7_make 283 = .ok (.getfield 73, 3) := by decide +kernel
theorem dX7_make_286 : decode cX7_make 286 = .ok (.iconst 0, 1) := by decide +kernel
theorem dX7_make_287 : decode cX7_make 287 = .ok (.iload 5, 2) := by decide +kernel
theorem dX7_make_289 : decode cX7_make 289 = .ok (.invokestatic 163, 3) := by decide +kernel
theorem dX7_make_292 : decode cX7_make 292 = .ok (.iload 5, 2) := by decide +kernel
theorem dX7_make_294 : decode cX7_make 294 = .ok (.bipush 40, 2) := by decide +kernel
theorem dX7_make_296 : decode cX7_make 296 = .ok (.if_icmp .ne 7, 3) := by decide +kernel
theorem dX7_make_299 : decode cX7_make 299 = .ok (.iconst 0, 1) := by decide +kernel
theorem dX7_make_300 : decode cX7_make 300 = .ok (.goto 5, 3) := by decide +kernel
theorem dX7_make_303 : decode cX7_make 303 = .ok (.ldc 150, 2) := by decide +kernel
theorem dX7_make_305 : decode cX7_make 305 = .ok (.iastore, 1) := by decide +kernel
theorem dX7_make_306 : decode cX7_make 306 = .ok (.iinc 5 1, 3) := by decide +kernel
theorem dX7_make_309 : decode cX7_make 309 = .ok (.goto (-58), 3) := by decide +kernel
theorem dX7_make_312 : decode cX7_make 312 = .ok (.iconst 1, 1) := by decide +kernel
theorem dX7_make_313 : decode cX7_make 313 = .ok (.istore 5, 2) := by decide +kernel
theorem dX7_make_315 : decode cX7_make 315 = .ok (.iload 5, 2) := by decide +kernel
theorem dX7_make_317 : decode cX7_make 317 = .ok (.iload_n 2, 1) := by decide +kernel
theorem dX7_make_318 : decode cX7_make 318 = .ok (.if_icmp .gt 99, 3) := by decide +kernel
theorem dX7_make_321 : decode cX7_make 321 = .ok (.iconst 0, 1) := by decide +kernel
theorem dX7_make_322 : decode cX7_make 322 = .ok (.istore 6, 2) := by decide +kernel
theorem dX7_make_324 : decode cX7_make 324 = .ok (.iload 6, 2) := by decide +kernel
theorem dX7_make_326 : decode cX7_make 326 = .ok (.bipush 40, 2) := by decide +kernel
theorem dX7_make_328 : decode cX7_make 328 = .ok (.if_icmp .gt 83, 3) := by decide +kernel
theorem dX7_make_331 : decode cX7_make 331 = .ok (.ldc 150, 2) := by decide +kernel
theorem dX7_make_333 : decode cX7_make 333 = .ok (.istore 7, 2) := by decide +kernel
theorem dX7_make_335 : decode cX7_make 335 = .ok (.iload 6, 2) := by decide +kernel
theorem dX7_make_337 : decode cX7_make 337 = .ok (.istore 8, 2) := by decide +kernel
theorem dX7_make_339 : decode cX7_make 339 = .ok (.iload 8, 2) := by decide +kernel
theorem dX7_make_341 : decode cX7_make 341 = .ok (.bipush 40, 2) := by decide +kernel
theorem dX7_make_343 : decode cX7_make 343 = .ok (.if_icmp .ge 48, 3) := by decide +kernel
theorem dX7_make_346 : decode cX7_make 346 = .ok (.iload 7, 2) := by decide +kernel
theorem dX7_make_348 : decode cX7_make 348 = .ok (.aload_n 0, 1) := by decide +kernel
theorem dX7_make_349 : decode cX7_make 349 = .ok (.getfield 67, 3) := by decide +kernel
theorem dX7_make_352 : decode cX7_make 352 = .ok (.bipush 40, 2) := by decide +kernel
theorem dX7_make_354 : decode cX7_make 354 = .ok (.iload 6, 2) := by decide +kernel
theorem dX7_make_356 : decode cX7_make 356 = .ok (.imul, 1) := by decide +kernel
theorem dX7_make_357 : decode cX7_make 357 = .ok (.iload 8, 2) := by decide +kernel
theorem dX7_make_359 : decode cX7_make 359 = .ok (.iadd, 1) := by decide +kernel
theorem dX7_make_360 : decode cX7_make 360 = .ok (.iaload, 1) := by decide +kernel
theorem dX7_make_361 : decode cX7_make 361 = .ok (.aload_n 0, 1) := by decide +kernel
theorem dX7_make_362 : decode cX7_make 362 = .ok (.getfield 70, 3) := by decide +kernel
theorem dX7_make_365 : decode cX7_make 365 = .ok (.iload 5, 2) := by decide +kernel
theorem dX7_make_367 : decode cX7_make 367 = .ok (.iconst 1, 1) := by decide +kernel
theorem dX7_make_368 : decode cX7_make 368 = .ok (.isub, 1) := by decide +kernel
theorem dX7_make_369 : decode cX7_make 369 = .ok (.iload 8, 2) := by decide +kernel
theorem dX7_make_371 : decode cX7_make 371 = .ok (.iconst 1, 1) := by decide +kernel
theorem dX7_make_372 : decode cX7_make 372 = .ok (.iadd, 1) := by decide +kernel
theorem dX7_make_373 : decode cX7_make 373 = .ok (.invokestatic 163, 3) := by decide +kernel
theorem dX7_make_376 : decode cX7_make 376 = .ok (.iaload, 1) := by decide +kernel
theorem dX7_make_377 : decode cX7_make 377 = .ok (.invokestatic 156, 3) := by decide +kernel
theorem dX7_make_380 : decode cX7_make 380 = .ok (.invokestatic 151, 3) := by decide +kernel
theorem dX7_make_383 : decode cX7_make 383 = .ok (.istore 7, 2) := by decide +kernel
theorem dX7_make_385 : decode cX7_make 385 = .ok (.iinc 8 1, 3) := by decide +kernel
theorem dX7_make_388 : decode cX7_make 388 = .ok (.goto (-49), 3) := by decide +kernel
theorem dX7_make_391 : decode cX7_make 391 = .ok (.aload_n 0, 1) := by decide +kernel
theorem dX7_make_392 : decode cX7_make 392 = .ok (.getfield 70, 3) := by decide +kernel
theorem dX7_make_395 : decode cX7_make 395 = .ok (.iload 5, 2) := by decide +kernel
theorem dX7_make_397 : decode cX7_make 397 = .ok (.iload 6, 2) := by decide +kernel
theorem dX7_make_399 : decode cX7_make 399 = .ok (.invokestatic 163, 3) := by decide +kernel
theorem dX7_make_402 : decode cX7_make 402 = .ok (.iload 7, 2) := by decide +kernel
theorem dX7_make_404 : decode cX7_make 404 = .ok (.iastore, 1) := by decide +kernel
theorem dX7_make_405 : decode cX7_make 405 = .ok (.iinc 6 1, 3) := by decide +kernel
theorem dX7_make_408 : decode cX7_make 408 = .ok (.goto (-84), 3) := by decide +kernel
theorem dX7_make_411 : decode cX7_make 411 = .ok (.iinc 5 1, 3) := by decide +kernel
theorem dX7_make_414 : decode cX7_make 414 = .ok (.goto (-99), 3) := by decide +kernel
theorem dX7_make_417 : decode cX7_make 417 = .ok (.aload_n 0, 1) := by decide +kernel
theorem dX7_make_418 : decode cX7_make 418 = .ok (.getfield 70, 3) := by decide +kernel
theorem dX7_make_421 : decode cX7_make 421 = .ok (.iload_n 2, 1) := by decide +kernel
theorem dX7_make_422 : decode cX7_make 422 = .ok (.iconst 0, 1) := by decide +kernel
theorem dX7_make_423 : decode cX7_make 423 = .ok (.invokestatic 163, 3) := by decide +kernel
theorem dX7_make_426 : decode cX7_make 426 = .ok (.iaload, 1) := by decide +kernel
theorem dX7_make_427 : decode cX7_make 427 = .ok (.istore 5, 2) := by decide +kernel
theorem dX7_make_429 : decode cX7_make 429 = .ok (.iconst 1, 1) := by decide +kernel
theorem dX7_make_430 : decode cX7_make 430 = .ok (.istore 6, 2) := by decide +kernel
theorem dX7_make_432 : decode cX7_make 432 = .ok (.iload 6, 2) := by decide +kernel
theorem dX7_make_434 : decode cX7_make 434 = .ok (.iload_n 2, 1) := by decide +kernel
theorem dX7_make_435 : decode cX7_make 435 = .ok (.if_icmp .gt 136, 3) := by decide +kernel
theorem dX7_make_438 : decode cX7_make 438 = .ok (.iconst 0, 1) := by decide +kernel
theorem dX7_make_439 : decode cX7_make 439 = .ok (.istore 7, 2) := by decide +kernel
theorem dX7_make_441 : decode cX7_make 441 = .ok (.iload 7, 2) := by decide +kernel
theorem dX7_make_443 : decode cX7_make 443 = .ok (.bipush 40, 2) := by decide +kernel
theorem dX7_make_445 : decode cX7_make 445 = .ok (.if_icmp .gt 120, 3) := by decide +kernel
theorem dX7_make_448 : decode cX7_make 448 = .ok (.ldc 150, 2) := by decide +kernel
theorem dX7_make_450 : decode cX7_make 450 = .ok (.istore 8, 2) := by decide +kernel
theorem dX7_make_452 : decode cX7_make 452 = .ok (.iload 7, 2) := by decide +kernel
theorem dX7_make_454 : decode cX7_make 454 = .ok (.istore 9, 2) := by decide +kernel
theorem dX7_make_456 : decode cX7_make 456 = .ok (.iload 9, 2) := by decide +kernel
theorem dX7_make_458 : decode cX7_make 458 = .ok (.bipush 40, 2) := by decide +kernel
theorem dX7_make_460 : decode cX7_make 460 = .ok (.if_icmp .ge 85, 3) := by decide +kernel
theorem dX7_make_463 : decode cX7_make 463 = .ok (.aload_n 0, 1) := by decide +kernel
theorem dX7_make_464 : decode cX7_make 464 = .ok (.getfield 67, 3) := by decide +kernel
theorem dX7_make_467 : decode cX7_make 467 = .ok (.bipush 40, 2) := by decide +kernel
theorem dX7_make_469 : decode cX7_make 469 = .ok (.iload 7, 2) := by decide +kernel
theorem dX7_make_471 : decode cX7_make 471 = .ok (.imul, 1) := by decide +kernel
theorem dX7_make_472 : decode cX7_make 472 = .ok (.iload 9, 2) := by decide +kernel
theorem dX7_make_474 : decode cX7_make 474 = .ok (.iadd, 1) := by decide +kernel
theorem dX7_make_475 : decode cX7_make 475 = .ok (.iaload, 1) := by decide +kernel
theorem dX7_make_476 : decode cX7_make 476 = .ok (.iload 5, 2) := by decide +kernel
theorem dX7_make_478 : decode cX7_make 478 = .ok (.if_icmp .gt 61, 3) := by decide +kernel
theorem dX7_make_481 : decode cX7_make 481 = .ok (.aload_n 0, 1) := by decide +kernel
theorem dX7_make_482 : decode cX7_make 482 = .ok (.getfield 73, 3) := by decide +kernel
theorem dX7_make_485 : decode cX7_make 485 = .ok (.iload 6, 2) := by decide +kernel
theorem dX7_make_487 : decode cX7_make 487 = .ok (.iconst 1, 1) := by decide +kernel
theorem dX7_make_488 : decode cX7_make 488 = .ok (.isub, 1) := by decide +kernel
theorem dX7_make_489 : decode cX7_make 489 = .ok (.iload 9, 2) := by decide +kernel
theorem dX7_make_491 : decode cX7_make 491 = .ok (.iconst 1, 1) := by decide +kernel
theorem dX7_make_492 : decode cX7_make 492 = .ok (.iadd, 1) := by decide +kernel
theorem dX7_make_493 : decode cX7_make 493 = .ok (.invokestatic 163, 3) := by decide +kernel
theorem dX7_make_496 : decode cX7_make 496 = .ok (.iaload, 1) := by decide +kernel
theorem dX7_make_497 : decode cX7_make 497 = .ok (.ldc 150, 2) := by decide +kernel
theorem dX7_make_499 : decode cX7_make 499 = .ok (.if_icmp .ge 40, 3) := by decide +kernel
theorem dX7_make_502 : decode cX7_make 502 = .ok (.iload 8, 2) := by decide +kernel
theorem dX7_make_504 : decode cX7_make 504 = .ok (.aload_n 0, 1) := by decide +kernel
theorem dX7_make_505 : decode cX7_make 505 = .ok (.getfield 67, 3) := by decide +kernel
theorem dX7_make_508 : decode cX7_make 508 = .ok (.bipush 40, 2) := by decide +kernel
theorem dX7_make_510 : decode cX7_make 510 = .ok (.iload 7, 2) := by decide +kernel
theorem dX7_make_512 : decode cX7_make 512 = .ok (.imul, 1) := by decide +kernel
theorem dX7_make_513 : decode cX7_make 513 = .ok (.iload 9, 2) := by decide +kernel
theorem dX7_make_515 : decode cX7_make 515 = .ok (.iadd, 1) := by decide +kernel
theorem dX7_make_516 : decode cX7_make 516 = .ok (.iaload, 1) := by decide +kernel
theorem dX7_make_517 : decode cX7_make 517 = .ok (.aload_n 0, 1) := by decide +kernel
theorem dX7_make_518 : decode cX7_make 518 = .ok (.getfield 73, 3) := by decide +kernel
theorem dX7_make_521 : decode cX7_make 521 = .ok (.iload 6, 2) := by decide +kernel
theorem dX7_make_523 : decode cX7_make 523 = .ok (.iconst 1, 1) := by decide +kernel
theorem dX7_make_524 : decode cX7_make 524 = .ok (.isub, 1) := by decide +kernel
theorem dX7_make_525 : decode cX7_make 525 = .ok (.iload 9, 2) := by decide +kernel
theorem dX7_make_527 : decode cX7_make 527 = .ok (.iconst 1, 1) := by decide +kernel
theorem dX7_make_528 : decode cX7_make 528 = .ok (.iadd, 1) := by decide +kernel
theorem dX7_make_529 : decode cX7_make 529 = .ok (.invokestatic 163, 3) := by decide +kernel
theorem dX7_make_532 : decode cX7_make 532 = .ok (.iaload, 1) := by decide +kernel
theorem dX7_make_533 : decode cX7_make 533 = .ok (.iadd, 1) := by decide +kernel
theorem dX7_make_534 : decode cX7_make 534 = .ok (.invokestatic 151, 3) := by decide +kernel
theorem dX7_make_537 : decode cX7_make 537 = .ok (.istore 8, 2) := by decide +kernel
theorem dX7_make_539 : decode cX7_make 539 = .ok (.iinc 9 1, 3) := by decide +kernel
theorem dX7_make_542 : decode cX7_make 542 = .ok (.goto (-86), 3) := by decide +kernel
theorem dX7_make_545 : decode cX7_make 545 = .ok (.aload_n 0, 1) := by decide +kernel
theorem dX7_make_546 : decode cX7_make 546 = .ok (.getfield 73, 3) := by decide +kernel
theorem dX7_make_549 : decode cX7_make 549 = .ok (.iload 6, 2) := by decide +kernel
theorem dX7_make_551 : decode cX7_make 551 = .ok (.iload 7, 2) := by decide +kernel
theorem dX7_make_553 : decode cX7_make 553 = .ok (.invokestatic 163, 3) := by decide +kernel
theorem dX7_make_556 : decode cX7_make 556 = .ok (.iload 8, 2) := by decide +kernel
theorem dX7_make_558 : decode cX7_make 558 = .ok (.iastore, 1) := by decide +kernel
theorem dX7_make_559 : decode cX7_make 559 = .ok (.iinc 7 1, 3) := by decide +kernel
theorem dX7_make_562 : decode cX7_make 562 = .ok (.goto (-121), 3) := by decide +kernel
theorem dX7_make_565 : decode cX7_make 565 = .ok (.iinc 6 1, 3) := by decide +kernel
theorem dX7_make_568 : decode cX7_make 568 = .ok (.goto (-136), 3) := by decide +kernel
theorem dX7_make_571 : decode cX7_make 571 = .ok (.iconst 0, 1) := by decide +kernel
theorem dX7_make_572 : decode cX7_make 572 = .ok (.istore 6, 2) := by decide +kernel
theorem dX7_make_574 : decode cX7_make 574 = .ok (.iconst 0, 1) := by decide +kernel
theorem dX7_make_575 : decode cX7_make 575 = .ok (.istore 7, 2) := by decide +kernel
theorem dX7_make_577 : decode cX7_make 577 = .ok (.iload 7, 2) := by decide +kernel
theorem dX7_make_579 : decode cX7_make 579 = .ok (.iload_n 2, 1) := by decide +kernel
theorem dX7_make_580 : decode cX7_make 580 = .ok (.if_icmp .ge 218, 3) := by decide +kernel
theorem dX7_make_583 : decode cX7_make 583 = .ok (.iload 6, 2) := by decide +kernel
theorem dX7_make_585 : decode cX7_make 585 = .ok (.istore 8, 2) := by decide +kernel
theorem dX7_make_587 : decode cX7_make 587 = .ok (.aload_n 0, 1) := by decide +kernel
theorem dX7_make_588 : decode cX7_make 588 = .ok (.getfield 67, 3) := by decide +kernel
theorem dX7_make_591 : decode cX7_make 591 = .ok (.bipush 40, 2) := by decide +kernel
theorem dX7_make_593 : decode cX7_make 593 = .ok (.iload 6, 2) := by decide +kernel
theorem dX7_make_595 : decode cX7_make 595 = .ok (.imul, 1) := by decide +kernel
theorem dX7_make_596 : decode cX7_make 596 = .ok (.iload 8, 2) := by decide +kernel
theorem dX7_make_598 : decode cX7_make 598 = .ok (.iadd, 1) := by decide +kernel
theorem dX7_make_599 : decode cX7_make 599 = .ok (.iaload, 1) := by decide +kernel
theorem dX7_make_600 : decode cX7_make 600 = .ok (.iload 5, 2) := by decide +kernel
theorem dX7_make_602 : decode cX7_make 602 = .ok (.if_icmp .gt 75, 3) := by decide +kernel
theorem dX7_make_605 : decode cX7_make 605 = .ok (.aload_n 0, 1) := by decide +kernel
theorem dX7_make_606 : decode cX7_make 606 = .ok (.getfield 73, 3) := by decide +kernel
theorem dX7_make_609 : decode cX7_make 609 = .ok (.iload_n 2, 1) := by decide +kernel
theorem dX7_make_610 : decode cX7_make 610 = .ok (.iload 7, 2) := by decide +kernel
theorem dX7_make_612 : decode cX7_make 612 = .ok (.isub, 1) := by decide +kernel
theorem dX7_make_613 : decode cX7_make 613 = .ok (.iconst 1, 1) := by decide +kernel
theorem dX7_make_614 : decode cX7_make 614 = .ok (.isub, 1) := by decide +kernel
theorem dX7_make_615 : decode cX7_make 615 = .ok (.iload 8, 2) := by decide +kernel
theorem dX7_make_617 : decode cX7_make 617 = .ok (.iconst 1, 1) := by decide +kernel
theorem dX7_make_618 : decode cX7_make 618 = .ok (.iadd, 1) := by decide +kernel
theorem dX7_make_619 : decode cX7_make 619 = .ok (.invokestatic 163, 3) := by decide +kernel
theorem dX7_make_622 : decode cX7_make 622 = .ok (.iaload, 1) := by decide +kernel
theorem dX7_make_623 : decode cX7_make 623 = .ok (.ldc 150, 2) := by decide +kernel
theorem dX7_make_625 : decode cX7_make 625 = .ok (.if_icmp .eq 52, 3) := by decide +kernel
theorem dX7_make_628 : decode cX7_make 628 = .ok (.aload_n 0, 1) := by decide +kernel
theorem dX7_make_629 : decode cX7_make 629 = .ok (.getfield 67, 3) := by decide +kernel
theorem dX7_make_632 : decode cX7_make 632 = .ok (.bipush 40, 2) := by decide +kernel
theorem dX7_make_634 : decode cX7_make 634 = .ok (.iload 6, 2) := by decide +kernel
theorem dX7_make_636 : decode cX7_make 636 = .ok (.imul, 1) := by decide +kernel
theorem dX7_make_637 : decode cX7_make 637 = .ok (.iload 8, 2) := by decide +kernel
theorem dX7_make_639 : decode cX7_make 639 = .ok (.iadd, 1) := by decide +kernel
theorem dX7_make_640 : decode cX7_make 640 = .ok (.iaload, 1) := by decide +kernel
theorem dX7_make_641 : decode cX7_make 641 = .ok (.aload_n 0, 1) := by decide +kernel
theorem dX7_make_642 : decode cX7_make 642 = .ok (.getfield 73, 3) := by decide +kernel
theorem dX7_make_645 : decode cX7_make 645 = .ok (.iload_n 2, 1) := by decide +kernel
theorem dX7_make_646 : decode cX7_make 646 = .ok (.iload 7, 2) := by decide +kernel
theorem dX7_make_648 : decode cX7_make 648 = .ok (.isub, 1) := by decide +kernel
theorem dX7_make_649 : decode cX7_make 649 = .ok (.iconst 1, 1) := by decide +kernel
theorem dX7_make_650 : decode cX7_make 650 = .ok (.isub, 1) := by decide +kernel
theorem dX7_make_651 : decode cX7_make 651 = .ok (.iload 8, 2) := by decide +kernel
theorem dX7_make_653 : decode cX7_make 653 = .ok (.iconst 1, 1) := by decide +kernel
theorem dX7_make_654 : decode cX7_make 654 = .ok (.iadd, 1) := by decide +kernel
theorem dX7_make_655 : decode cX7_make 655 = .ok (.invokestatic 163, 3) := by decide +kernel
theorem dX7_make_658 : decode cX7_make 658 = .ok (.iaload, 1) := by decide +kernel
theorem dX7_make_659 : decode cX7_make 659 = .ok (.iadd, 1) := by decide +kernel
theorem dX7_make_660 : decode cX7_make 660 = .ok (.aload_n 0, 1) := by decide +kernel
theorem dX7_make_661 : decode cX7_make 661 = .ok (.getfield 73, 3) := by decide +kernel
theorem dX7_make_664 : decode cX7_make 664 = .ok (.iload_n 2, 1) := by decide +kernel
theorem dX7_make_665 : decode cX7_make 665 = .ok (.iload 7, 2) := by decide +kernel
theorem dX7_make_667 : decode cX7_make 667 = .ok (.isub, 1) := by decide +kernel
theorem dX7_make_668 : decode cX7_make 668 = .ok (.iload 6, 2) := by decide +kernel
theorem dX7_make_670 : decode cX7_make 670 = .ok (.invokestatic 163, 3) := by decide +kernel
theorem dX7_make_673 : decode cX7_make 673 = .ok (.iaload, 1) := by decide +kernel
theorem dX7_make_674 : decode cX7_make 674 = .ok (.if_icmp .eq 9, 3) := by decide +kernel
theorem dX7_make_677 : decode cX7_make 677 = .ok (.iinc 8 1, 3) := by decide +kernel
theorem dX7_make_680 : decode cX7_make 680 = .ok (.goto (-93), 3) := by decide +kernel
theorem dX7_make_683 : decode cX7_make 683 = .ok (.aload_n 0, 1) := by decide +kernel
theorem dX7_make_684 : decode cX7_make 684 = .ok (.getfield 58, 3) := by decide +kernel
theorem dX7_make_687 : decode cX7_make 687 = .ok (.bipush 40, 2) := by decide +kernel
theorem dX7_make_689 : decode cX7_make 689 = .ok (.iload_n 1, 1) := by decide +kernel
theorem dX7_make_690 : decode cX7_make 690 = .ok (.imul, 1) := by decide +kernel
theorem dX7_make_691 : decode cX7_make 691 = .ok (.iload 7, 2) := by decide +kernel
theorem dX7_make_693 : decode cX7_make 693 = .ok (.iadd, 1) := by decide +kernel
theorem dX7_make_694 : decode cX7_make 694 = .ok (.iload 8, 2) := by decide +kernel
theorem dX7_make_696 : decode cX7_make 696 = .ok (.iastore, 1) := by decide +kernel
theorem dX7_make_697 : decode cX7_make 697 = .ok (.aload_n 0, 1) := by decide +kernel
theorem dX7_make_698 : decode cX7_make 698 = .ok (.getfield 61, 3) := by decide +kernel
theorem dX7_make_701 : decode cX7_make 701 = .ok (.bipush 40, 2) := by decide +kernel
theorem dX7_make_703 : decode cX7_make 703 = .ok (.iload_n 1, 1) := by decide +kernel
theorem dX7_make_704 : decode cX7_make 704 = .ok (.imul, 1) := by decide +kernel
theorem dX7_make_705 : decode cX7_make 705 = .ok (.iload 7, 2) := by decide +kernel
theorem dX7_make_707 : decode cX7_make 707 = .ok (.iadd, 1) := by decide +kernel
theorem dX7_make_708 : decode cX7_make 708 = .ok (.iconst 0, 1) := by decide +kernel
theorem dX7_make_709 : decode cX7_make 709 = .ok (.iastore, 1) := by decide +kernel
theorem dX7_make_710 : decode cX7_make 710 = .ok (.aload_n 0, 1) := by decide +kernel
theorem dX7_make_711 : decode cX7_make 711 = .ok (.getfield 64, 3) := by decide +kernel
theorem dX7_make_714 : decode cX7_make 714 = .ok (.bipush 40, 2) := by decide +kernel
theorem dX7_make_716 : decode cX7_make 716 = .ok (.iload_n 1, 1) := by decide +kernel
theorem dX7_make_717 : decode cX7_make 717 = .ok (.imul, 1) := by decide +kernel
theorem dX7_make_718 : decode cX7_make 718 = .ok (.iload 7, 2) := by decide +kernel
theorem dX7_make_720 : decode cX7_make 720 = .ok (.iadd, 1) := by decide +kernel
theorem dX7_make_721 : decode cX7_make 721 = .ok (.iconst 0, 1) := by decide +kernel
theorem dX7_make_722 : decode cX7_make 722 = .ok (.iastore, 1) := by decide +kernel
theorem dX7_make_723 : decode cX7_make 723 = .ok (.iload 6, 2) := by decide +kernel
theorem dX7_make_725 : decode cX7_make 725 = .ok (.istore 9, 2) := by decide +kernel
theorem dX7_make_727 : decode cX7_make 727 = .ok (.iload 9, 2) := by decide +kernel
theorem dX7_make_729 : decode cX7_make 729 = .ok (.iload 8, 2) := by decide +kernel
theorem dX7_make_731 : decode cX7_make 731 = .ok (.if_icmp .gt 55, 3) := by decide +kernel
theorem dX7_make_734 : decode cX7_make 734 = .ok (.aload_n 0, 1) := by decide +kernel
theorem dX7_make_735 : decode cX7_make 735 = .ok (.getfield 61, 3) := by decide +kernel
theorem dX7_make_738 : decode cX7_make 738 = .ok (.bipush 40, 2) := by decide +kernel
theorem dX7_make_740 : decode cX7_make 740 = .ok (.iload_n 1, 1) := by decide +kernel
theorem dX7_make_741 : decode cX7_make 741 = .ok (.imul, 1) := by decide +kernel
theorem dX7_make_742 : decode cX7_make 742 = .ok (.iload 7, 2) := by decide +kernel
theorem dX7_make_744 : decode cX7_make 744 = .ok (.iadd, 1) := by decide +kernel
theorem dX7_make_745 : decode cX7_make 745 = .ok (.dup2, 1) := by decide +kernel
theorem dX7_make_746 : decode cX7_make 746 = .ok (.iaload, 1) := by decide +kernel
theorem dX7_make_747 : decode cX7_make 747 = .ok (.aload_n 0, 1) := by decide +kernel
theorem dX7_make_748 : decode cX7_make 748 = .ok (.getfield 54, 3) := by decide +kernel
theorem dX7_make_751 : decode cX7_make 751 = .ok (.bipush 40, 2) := by decide +kernel
theorem dX7_make_753 : decode cX7_make 753 = .ok (.iload_n 1, 1) := by decide +kernel
theorem dX7_make_754 : decode cX7_make 754 = .ok (.imul, 1) := by decide +kernel
theorem dX7_make_755 : decode cX7_make 755 = .ok (.iload 9, 2) := by decide +kernel
theorem dX7_make_757 : decode cX7_make 757 = .ok (.iadd, 1) := by decide +kernel
theorem dX7_make_758 : decode cX7_make 758 = .ok (.baload, 1) := by decide +kernel
theorem dX7_make_759 : decode cX7_make 759 = .ok (.ifCond .eq 7, 3) := by decide +kernel
theorem dX7_make_762 : decode cX7_make 762 = .ok (.iconst 0, 1) := by decide +kernel
theorem dX7_make_763 : decode cX7_make 763 = .ok (.goto 15, 3) := by decide +kernel
theorem dX7_make_766 : decode cX7_make 766 = .ok (.aload_n 0, 1) := by decide +kernel
theorem dX7_make_767 : decode cX7_make 767 = .ok (.getfield 24, 3) := by decide +kernel
theorem dX7_make_770 : decode cX7_make 770 = .ok (.bipush 40, 2) := by decide +kernel
theorem dX7_make_772 : decode cX7_make 772 = .ok (.iload_n 1, 1) := by decide +kernel
theorem dX7_make_773 : decode cX7_make 773 = .ok (.imul, 1) := by decide +kernel
theorem dX7_make_774 : decode cX7_make 774 = .ok (.iload 9, 2) := by decide +kernel
theorem dX7_make_776 : decode cX7_make 776 = .ok (.iadd, 1) := by decide +kernel
theorem dX7_make_777 : decode cX7_make 777 = .ok (.iaload, 1) := by decide +kernel
theorem dX7_make_778 : decode cX7_make 778 = .ok (.iadd, 1) := by decide +kernel
theorem dX7_make_779 : decode cX7_make 779 = .ok (.iastore, 1) := by decide +kernel
theorem dX7_make_780 : decode cX7_make 780 = .ok (.iinc 9 1, 3) := by decide +kernel
theorem dX7_make_783 : decode cX7_make 783 = .ok (.goto (-56), 3) := by decide +kernel
theorem dX7_make_786 : decode cX7_make 786 = .ok (.iload 8, 2) := by decide +kernel
theorem dX7_make_788 : decode cX7_make 788 = .ok (.iconst 1, 1) := by decide +kernel
theorem dX7_make_789 : decode cX7_make 789 = .ok (.iadd, 1) := by decide +kernel
theorem dX7_make_790 : decode cX7_make 790 = .ok (.istore 6, 2) := by decide +kernel
theorem dX7_make_792 : decode cX7_make 792 = .ok (.iinc 7 1, 3) := by decide +kernel
theorem dX7_make_795 : decode cX7_make 795 = .ok (.goto (-218), 3) := by decide +kernel
theorem dX7_make_798 : decode cX7_make 798 = .ok (.aload_n 0, 1) := by decide +kernel
theorem dX7_make_799 : decode cX7_make 799 = .ok (.getfield 45, 3) := by decide +kernel
theorem dX7_make_802 : decode cX7_make 802 = .ok (.iload_n 1, 1) := by decide +kernel
theorem dX7_make_803 : decode cX7_make 803 = .ok (.iload_n 2, 1) := by decide +kernel
theorem dX7_make_804 : decode cX7_make 804 = .ok (.iastore, 1) := by decide +kernel
theorem dX7_make_805 : decode cX7_make 805 = .ok (.aload_n 0, 1) := by decide +kernel
theorem dX7_make_806 : decode cX7_make 806 = .ok (.getfield 48, 3) := by decide +kernel
theorem dX7_make_809 : decode cX7_make 809 = .ok (.iload_n 1, 1) := by decide +kernel
theorem dX7_make_810 : decode cX7_make 810 = .ok (.iconst 0, 1) := by decide +kernel
theorem dX7_make_811 : decode cX7_make 811 = .ok (.iastore, 1) := by decide +kernel
theorem dX7_make_812 : decode cX7_make 812 = .ok (.aload_n 0, 1) := by decide +kernel
theorem dX7_make_813 : decode cX7_make 813 = .ok (.iconst 0, 1) := by decide +kernel
theorem dX7_make_814 : decode cX7_make 814 = .ok (.putfield 85, 3) := by decide +kernel
theorem dX7_make_817 : decode cX7_make 817 = .ok (.iload 5, 2) := by decide +kernel
theorem dX7_make_819 : decode cX7_make 819 = .ok (.ireturn, 1) := by decide +kernel
set_option maxRecDepth 20000 in
theorem ggX7_wrongSketch_X7_isColumn : GoodIn wsX7_wrongSketch wsX7_isColumn := goodIn_r _ [5] (by decide +kernel) (by decide +kernel)
set_option maxRecDepth 20000 in
theorem gX7_wrongSketch_X7_isColumn : GoodIn wsX7_wrongSketch (va_wsS RX7 120 yX7_isColumn wsX7_isColumn) := goodIn_app (goodIn_of _ (by decide +kernel)) ggX7_wrongSketch_X7_isColumn
theorem dX7_wrongSketch_0 : decode cX7_wrongSketch 0 = .ok (.iload_n 1, 1) := by decide +kernel
theorem dX7_wrongSketch_1 : decode cX7_wrongSketch 1 = .ok (.invokestatic 120, 3) := by decide +kernel
theorem dX7_wrongSketch_4 : decode cX7_wrongSketch 4 = .ok (.ifCond .ne 7, 3) := by decide +kernel
theorem dX7_wrongSketch_7 : decode cX7_wrongSketch 7 = .ok (.iconst 1, 1) := by decide +kernel
theorem dX7_wrongSketch_8 : decode cX7_wrongSketch 8 = .ok (.goto 17, 3) := by decide +kernel
theorem dX7_wrongSketch_11 : decode cX7_wrongSketch 11 = .ok (.aload_n 0, 1) := by decide +kernel
theorem dX7_wrongSketch_12 : decode cX7_wrongSketch 12 = .ok (.getfield 45, 3) := by decide +kernel
theorem dX7_wrongSketch_15 : decode cX7_wrongSketch 15 = .ok (.iload_n 1, 1) := by decide +kernel
theorem dX7_wrongSketch_16 : decode cX7_wrongSketch 16 = .ok (.iaload, 1) := by decide +kernel
theorem dX7_wrongSketch_17 : decode cX7_wrongSketch 17 = .ok (.ifCond .ne 7, 3) := by decide +kernel
theorem dX7_wrongSketch_20 : decode cX7_wrongSketch 20 = .ok (.iconst 5, 1) := by decide +kernel
theorem dX7_wrongSketch_21 : decode cX7_wrongSketch 21 = .ok (.goto 4, 3) := by decide +kernel
theorem dX7_wrongSketch_24 : decode cX7_wrongSketch 24 = .ok (.iconst 0, 1) := by decide +kernel
theorem dX7_wrongSketch_25 : decode cX7_wrongSketch 25 = .ok (.ireturn, 1) := by decide +kernel
set_option maxRecDepth 20000 in
theorem ggX7_away_X7_wrongSketch : GoodIn wsX7_away wsX7_wrongSketch := goodIn_r _ [6, 1, 7, 8, 5, 9, 15, 16, 17, 18, 19, 20, 21, 22, 23, 24, 25, 26, 27, 28, 29, 30, 31, 32, 33, 34, 35, 36, 37, 38, 39, 40, 41, 42, 43, 44] (by decide +kernel) (by decide +kernel)
set_option maxRecDepth 20000 in
theorem gX7_away_X7_wrongSketch : GoodIn wsX7_away (wsV RX7 166 RX7 yX7_wrongSketch wsX7_wrongSketch) := goodIn_app (goodIn_of _ (by decide +kernel)) ggX7_away_X7_wrongSketch
set_option maxRecDepth 20000 in
theorem ggX7_away_X7_is : GoodIn wsX7_away wsX7_is := goodIn_r _ [13, 14, 15, 16, 17, 18, 19, 20, 21, 22, 23, 24, 25, 26, 27, 28, 29, 30, 31, 32, 33, 34, 35, 36, 37, 38, 39, 40, 41, 42, 43, 44] (by decide +kernel) (by decide +kernel)
set_option maxRecDepth 20000 in
theorem gX7_away_X7_is : GoodIn wsX7_away (wsV RX7 96 RX7 yX7_is wsX7_is) := goodIn_app (goodIn_of _ (by decide +kernel)) ggX7_away_X7_is
theorem dX7_away_0 : decode cX7_away 0 = .ok (.aload_n 0, 1) := by decide +kernel
theorem dX7_away_1 : decode cX7_away 1 = .ok (.iload_n 1, 1) := by decide +kernel
theorem dX7_away_2 : decode cX7_away 2 = .ok (.invokevirtual 166, 3) := by decide +kernel
theorem dX7_away_5 : decode cX7_away 5 = .ok (.istore_n 2, 1) := by decide +kernel
theorem dX7_away_6 : decode cX7_away 6 = .ok (.iload_n 2, 1) := by decide +kernel
theorem dX7_away_7 : decode cX7_away 7 = .ok (.ifCond .ne 10, 3) := by decide +kernel
theorem dX7_away_10 : decode cX7_away 10 = .ok (.aload_n 0, 1) := by decide +kernel
theorem dX7_away_11 : decode cX7_away 11 = .ok (.getfield 45, 3) := by decide +kernel
theorem dX7_away_14 : decode cX7_away 14 = .ok (.iload_n 1, 1) := by decide +kernel
theorem dX7_away_15 : decode cX7_away 15 = .ok (.iconst 0, 1) := by decide +kernel
theorem dX7_away_16 : decode cX7_away 16 = .ok (.iastore, 1) := by decide +kernel
theorem dX7_away_17 : decode cX7_away 17 = .ok (.aload_n 0, 1) := by decide +kernel
theorem dX7_away_18 : decode cX7_away 18 = .ok (.iload_n 2, 1) := by decide +kernel
theorem dX7_away_19 : decode cX7_away 19 = .ok (.invokevirtual 96, 3) := by decide +kernel
theorem dX7_away_22 : decode cX7_away 22 = .ok (.ireturn, 1) := by decide +kernel
set_option maxRecDepth 20000 in
theorem ggX7_sketch_X7_wrongSketch : GoodIn wsX7_sketch wsX7_wrongSketch := goodIn_r _ [10, 2, 11, 12, 9, 13, 18, 19, 20, 21, 22, 23, 24, 25, 26, 27, 28, 29, 30, 31, 32, 33, 34, 35, 36, 37, 38, 39, 40, 41, 42, 43, 44, 45, 46, 47] (by decide +kernel) (by decide +kernel)
set_option maxRecDepth 20000 in
theorem gX7_sketch_X7_wrongSketch : GoodIn wsX7_sketch (wsV RX7 166 RX7 yX7_wrongSketch wsX7_wrongSketch) := goodIn_app (goodIn_of _ (by decide +kernel)) ggX7_sketch_X7_wrongSketch
set_option maxRecDepth 20000 in
theorem ggX7_sketch_X7_refuse : GoodIn wsX7_sketch wsX7_refuse := goodIn_r _ [17, 1, 18, 19, 20, 21, 22, 23, 24, 25, 26, 27, 28, 29, 30, 31, 32, 33, 34, 35, 36, 37, 38, 39, 40, 41, 42, 43, 44, 45, 46, 47] (by decide +kernel) (by decide +kernel)
set_option maxRecDepth 20000 in
theorem gX7_sketch_X7_refuse : GoodIn wsX7_sketch (wsV RX7 138 RX7 yX7_refuse wsX7_refuse) := goodIn_app (goodIn_of _ (by decide +kernel)) ggX7_sketch_X7_refuse
theorem dX7_sketch_0 : decode cX7_sketch 0 = .ok (.iload_n 2, 1) := by decide +kernel
theorem dX7_sketch_1 : decode cX7_sketch 1 = .ok (.ifCond .lt 8, 3) := by decide +kernel
theorem dX7_sketch_4 : decode cX7_sketch 4 = .ok (.iload_n 2, 1) := by decide +kernel
theorem dX7_sketch_5 : decode cX7_sketch 5 = .ok (.iconst 3, 1) := by decide +kernel
theorem dX7_sketch_6 : decode cX7_sketch 6 = .ok (.if_icmp .le 7, 3) := by decide +kernel
theorem dX7_sketch_9 : decode cX7_sketch 9 = .ok (.iconst 1, 1) := by decide +kernel
theorem dX7_sketch_10 : decode cX7_sketch 10 = .ok (.goto 8, 3) := by decide +kernel
theorem dX7_sketch_13 : decode cX7_sketch 13 = .ok (.aload_n 0, 1) := by decide +kernel
theorem dX7_sketch_14 : decode cX7_sketch 14 = .ok (.iload_n 1, 1) := by decide +kernel
theorem dX7_sketch_15 : decode cX7_sketch 15 = .ok (.invokevirtual 166, 3) := by decide +kernel
theorem dX7_sketch_18 : decode cX7_sketch 18 = .ok (.istore_n 3, 1) := by decide +kernel
theorem dX7_sketch_19 : decode cX7_sketch 19 = .ok (.iload_n 3, 1) := by decide +kernel
theorem dX7_sketch_20 : decode cX7_sketch 20 = .ok (.ifCond .le 9, 3) := by decide +kernel
theorem dX7_sketch_23 : decode cX7_sketch 23 = .ok (.aload_n 0, 1) := by decide +kernel
theorem dX7_sketch_24 : decode cX7_sketch 24 = .ok (.iload_n 3, 1) := by decide +kernel
theorem dX7_sketch_25 : decode cX7_sketch 25 = .ok (.invokevirtual 138, 3) := by decide +kernel
theorem dX7_sketch_28 : decode cX7_sketch 28 = .ok (.ireturn, 1) := by decide +kernel
theorem dX7_sketch_29 : decode cX7_sketch 29 = .ok (.aload_n 0, 1) := by decide +kernel
theorem dX7_sketch_30 : decode cX7_sketch 30 = .ok (.iconst 0, 1) := by decide +kernel
theorem dX7_sketch_31 : decode cX7_sketch 31 = .ok (.putfield 85, 3) := by decide +kernel
theorem dX7_sketch_34 : decode cX7_sketch 34 = .ok (.iconst 0, 1) := by decide +kernel
theorem dX7_sketch_35 : decode cX7_sketch 35 = .ok (.istore 4, 2) := by decide +kernel
theorem dX7_sketch_37 : decode cX7_sketch 37 = .ok (.iload_n 2, 1) := by decide +kernel
theorem dX7_sketch_38 : decode cX7_sketch 38 = .ok (.ifCond .ne 10, 3) := by decide +kernel
theorem dX7_sketch_41 : decode cX7_sketch 41 = .ok (.aload_n 0, 1) := by decide +kernel
theorem dX7_sketch_42 : decode cX7_sketch 42 = .ok (.getfield 45, 3) := by decide +kernel
theorem dX7_sketch_45 : decode cX7_sketch 45 = .ok (.iload_n 1, 1) := by decide +kernel
theorem dX7_sketch_46 : decode cX7_sketch 46 = .ok (.iaload, 1) := by decide +kernel
theorem dX7_sketch_47 : decode cX7_sketch 47 = .ok (.ireturn, 1) := by decide +kernel
theorem dX7_sketch_48 : decode cX7_sketch 48 = .ok (.iconst 0, 1) := by decide +kernel
theorem dX7_sketch_49 : decode cX7_sketch 49 = .ok (.istore 5, 2) := by decide +kernel
theorem dX7_sketch_51 : decode cX7_sketch 51 = .ok (.iload 5, 2) := by decide +kernel
theorem dX7_sketch_53 : decode cX7_sketch 53 = .ok (.bipush 40, 2) := by decide +kernel
theorem dX7_sketch_55 : decode cX7_sketch 55 = .ok (.if_icmp .ge 39, 3) := by decide +kernel
theorem dX7_sketch_58 : decode cX7_sketch 58 = .ok (.iload_n 2, 1) := by decide +kernel
theorem dX7_sketch_59 : decode cX7_sketch 59 = .ok (.iconst 1, 1) := by decide +kernel
theorem dX7_sketch_60 : decode cX7_sketch 60 = .ok (.if_icmp .ne 34, 3) := by decide +kernel
theorem dX7_sketch_63 : decode cX7_sketch 63 = .ok (.iload 4, 2) := by decide +kernel
theorem dX7_sketch_65 : decode cX7_sketch 65 = .ok (.aload_n 0, 1) := by decide +kernel
theorem dX7_sketch_66 : decode cX7_sketch 66 = .ok (.getfield 54, 3) := by decide +kernel
theorem dX7_sketch_69 : decode cX7_sketch 69 = .ok (.bipush 40, 2) := by decide +kernel
theorem dX7_sketch_71 : decode cX7_sketch 71 = .ok (.iload_n 1, 1) := by decide +kernel
theorem dX7_sketch_72 : decode cX7_sketch 72 = .ok (.imul, 1) := by decide +kernel
theorem dX7_sketch_73 : decode cX7_sketch 73 = .ok (.iload 5, 2) := by decide +kernel
theorem dX7_sketch_75 : decode cX7_sketch 75 = .ok (.iadd, 1) := by decide +kernel
theorem dX7_sketch_76 : decode cX7_sketch 76 = .ok (.baload, 1) := by decide +kernel
theorem dX7_sketch_77 : decode cX7_sketch 77 = .ok (.ifCond .eq 7, 3) := by decide +kernel
theorem dX7_sketch_80 : decode cX7_sketch 80 = .ok (.iconst 1, 1) := by decide +kernel
theorem dX7_sketch_81 : decode cX7_sketch 81 = .ok (.goto 4, 3) := by decide +kernel
theorem dX7_sketch_84 : decode cX7_sketch 84 = .ok (.iconst 0, 1) := by decide +kernel
theorem dX7_sketch_85 : decode cX7_sketch 85 = .ok (.iadd, 1) := by decide +kernel
theorem dX7_sketch_86 : decode cX7_sketch 86 = .ok (.istore 4, 2) := by decide +kernel
theorem dX7_sketch_88 : decode cX7_sketch 88 = .ok (.iinc 5 1, 3) := by decide +kernel
theorem dX7_sketch_91 : decode cX7_sketch 91 = .ok (.goto (-40), 3) := by decide +kernel
theorem dX7_sketch_94 : decode cX7_sketch 94 = .ok (.iconst 0, 1) := by decide +kernel
theorem dX7_sketch_95 : decode cX7_sketch 95 = .ok (.istore 5, 2) := by decide +kernel
theorem dX7_sketch_97 : decode cX7_sketch 97 = .ok (.iload 5, 2) := by decide +kernel
theorem dX7_sketch_99 : decode cX7_sketch 99 = .ok (.aload_n 0, 1) := by decide +kernel
theorem dX7_sketch_100 : decode cX7_sketch 100 = .ok (.getfield 45, 3) := by decide +kernel
theorem dX7_sketch_103 : decode cX7_sketch 103 = .ok (.iload_n 1, 1) := by decide +kernel
theorem dX7_sketch_104 : decode cX7_sketch 104 = .ok (.iaload, 1) := by decide +kernel
theorem dX7_sketch_105 : decode cX7_sketch 105 = .ok (.if_icmp .ge 51, 3) := by decide +kernel
theorem dX7_sketch_108 : decode cX7_sketch 108 = .ok (.iload_n 2, 1) := by decide +kernel
theorem dX7_sketch_109 : decode cX7_sketch 109 = .ok (.iconst 1, 1) := by decide +kernel
theorem dX7_sketch_110 : decode cX7_sketch 110 = .ok (.if_icmp .le 46, 3) := by decide +kernel
theorem dX7_sketch_113 : decode cX7_sketch 113 = .ok (.iload 4, 2) := by decide +kernel
theorem dX7_sketch_115 : decode cX7_sketch 115 = .ok (.iload_n 2, 1) := by decide +kernel
theorem dX7_sketch_116 : decode cX7_sketch 116 = .ok (.iconst 2, 1) := by decide +kernel
theorem dX7_sketch_117 : decode cX7_sketch 117 = .ok (.if_icmp .ne 18, 3) := by decide +kernel
theorem dX7_sketch_120 : decode cX7_sketch 120 = .ok (.aload_n 0, 1) := by decide +kernel
theorem dX7_sketch_121 : decode cX7_sketch 121 = .ok (.getfield 64, 3) := by decide +kernel
theorem dX7_sketch_124 : decode cX7_sketch 124 = .ok (.bipush 40, 2) := by decide +kernel
theorem dX7_sketch_126 : decode cX7_sketch 126 = .ok (.iload_n 1, 1) := by decide +kernel
theorem dX7_sketch_127 : decode cX7_sketch 127 = .ok (.imul, 1) := by decide +kernel
theorem dX7_sketch_128 : decode cX7_sketch 128 = .ok (.iload 5, 2) := by decide +kernel
theorem dX7_sketch_130 : decode cX7_sketch 130 = .ok (.iadd, 1) := by decide +kernel
theorem dX7_sketch_131 : decode cX7_sketch 131 = .ok (.iaload, 1) := by decide +kernel
theorem dX7_sketch_132 : decode cX7_sketch 132 = .ok (.goto 15, 3) := by decide +kernel
theorem dX7_sketch_135 : decode cX7_sketch 135 = .ok (.aload_n 0, 1) := by decide +kernel
theorem dX7_sketch_136 : decode cX7_sketch 136 = .ok (.getfield 61, 3) := by decide +kernel
theorem dX7_sketch_139 : decode cX7_sketch 139 = .ok (.bipush 40, 2) := by decide +kernel
theorem dX7_sketch_141 : decode cX7_sketch 141 = .ok (.iload_n 1, 1) := by decide +kernel
theorem dX7_sketch_142 : decode cX7_sketch 142 = .ok (.imul, 1) := by decide +kernel
theorem dX7_sketch_143 : decode cX7_sketch 143 = .ok (.iload 5, 2) := by decide +kernel
theorem dX7_sketch_145 : decode cX7_sketch 145 = .ok (.iadd, 1) := by decide +kernel
theorem dX7_sketch_146 : decode cX7_sketch 146 = .ok (.iaload, 1) := by decide +kernel
theorem dX7_sketch_147 : decode cX7_sketch 147 = .ok (.iadd, 1) := by decide +kernel
theorem dX7_sketch_148 : decode cX7_sketch 148 = .ok (.istore 4, 2) := by decide +kernel
theorem dX7_sketch_150 : decode cX7_sketch 150 = .ok (.iinc 5 1, 3) := by decide +kernel
theorem dX7_sketch_153 : decode cX7_sketch 153 = .ok (.goto (-56), 3) := by decide +kernel
theorem dX7_sketch_156 : decode cX7_sketch 156 = .ok (.iload 4, 2) := by decide +kernel
theorem dX7_sketch_158 : decode cX7_sketch 158 = .ok (.ireturn, 1) := by decide +kernel
set_option maxRecDepth 20000 in
theorem ggX7_span_X7_wrongSketch : GoodIn wsX7_span wsX7_wrongSketch := goodIn_r _ [10, 1, 11, 12, 9, 13, 31, 32, 33, 34, 35, 36, 37, 38, 39, 40, 41, 42, 43, 44, 45, 46, 47, 48, 49, 50, 51, 52, 53, 54, 55, 56, 57, 58, 59, 60] (by decide +kernel) (by decide +kernel)
set_option maxRecDepth 20000 in
theorem gX7_span_X7_wrongSketch : GoodIn wsX7_span (wsV RX7 166 RX7 yX7_wrongSketch wsX7_wrongSketch) := goodIn_app (goodIn_of _ (by decide +kernel)) ggX7_span_X7_wrongSketch
set_option maxRecDepth 20000 in
theorem ggX7_span_X7_refuse : GoodIn wsX7_span wsX7_refuse := goodIn_r _ [17, 2, 31, 32, 33, 34, 35, 36, 37, 38, 39, 40, 41, 42, 43, 44, 45, 46, 47, 48, 49, 50, 51, 52, 53, 54, 55, 56, 57, 58, 59, 60] (by decide +kernel) (by decide +kernel)
set_option maxRecDepth 20000 in
theorem gX7_span_X7_refuse : GoodIn wsX7_span (wsV RX7 138 RX7 yX7_refuse wsX7_refuse) := goodIn_app (goodIn_of _ (by decide +kernel)) ggX7_span_X7_refuse
set_option maxRecDepth 20000 in
theorem ggX7_span_X7_begins : GoodIn wsX7_span wsX7_begins := goodIn_r _ [21, 3, 31, 32, 33, 34, 35, 36, 37, 38, 39, 40, 41, 42, 43, 44, 45, 46, 47, 48, 49, 50, 51, 52, 53, 54, 55, 56, 57, 58, 59, 60] (by decide +kernel) (by decide +kernel)
set_option maxRecDepth 20000 in
theorem gX7_span_X7_begins : GoodIn wsX7_span (wsV RX7 143 RX7 yX7_begins wsX7_begins) := goodIn_app (goodIn_of _ (by decide +kernel)) ggX7_span_X7_begins
set_option maxRecDepth 20000 in
theorem ggX7_span_X7_longOf : GoodIn wsX7_span wsX7_longOf := goodIn_r _ [25, 3, 18, 19, 20, 9, 21, 26, 27, 28, 29, 30, 31, 32, 33, 34, 35, 36, 37, 38, 39, 40, 41, 42, 43, 44, 45, 46, 47, 48, 49, 50, 51, 52, 53, 54, 55, 56, 57, 58, 59, 60] (by decide +kernel) (by decide +kernel)
set_option maxRecDepth 20000 in
theorem gX7_span_X7_longOf : GoodIn wsX7_span (wsV RX7 169 RX7 yX7_longOf wsX7_longOf) := goodIn_app (goodIn_of _ (by decide +kernel)) ggX7_span_X7_longOf
theorem dX7_span_0 : decode cX7_span 0 = .ok (.aload_n 0, 1) := by decide +kernel
theorem dX7_span_1 : decode cX7_span 1 = .ok (.iload_n 1, 1) := by decide +kernel
theorem dX7_span_2 : decode cX7_span 2 = .ok (.invokevirtual 166, 3) := by decide +kernel
theorem dX7_span_5 : decode cX7_span 5 = .ok (.istore 4, 2) := by decide +kernel
theorem dX7_span_7 : decode cX7_span 7 = .ok (.iload 4, 2) := by decide +kernel
theorem dX7_span_9 : decode cX7_span 9 = .ok (.ifCond .ne 29, 3) := by decide +kernel
theorem dX7_span_12 : decode cX7_span 12 = .ok (.iload_n 2, 1) := by decide +kernel
theorem dX7_span_13 : decode cX7_span 13 = .ok (.ifCond .lt 22, 3) := by decide +kernel
theorem dX7_span_16 : decode cX7_span 16 = .ok (.iload_n 2, 1) := by decide +kernel
theorem dX7_span_17 : decode cX7_span 17 = .ok (.aload_n 0, 1) := by decide +kernel
theorem dX7_span_18 : decode cX7_span 18 = .ok (.getfield 45, 3) := by decide +kernel
theorem dX7_span_21 : decode cX7_span 21 = .ok (.iload_n 1, 1) := by decide +kernel
theorem dX7_span_22 : decode cX7_span 22 = .ok (.iaload, 1) := by decide +kernel
theorem dX7_span_23 : decode cX7_span 23 = .ok (.if_icmp .ge 12, 3) := by decide +kernel
theorem dX7_span_26 : decode cX7_span 26 = .ok (.iload_n 3, 1) := by decide +kernel
theorem dX7_span_27 : decode cX7_span 27 = .ok (.ifCond .lt 8, 3) := by decide +kernel
theorem dX7_span_30 : decode cX7_span 30 = .ok (.iload_n 3, 1) := by decide +kernel
theorem dX7_span_31 : decode cX7_span 31 = .ok (.iconst 4, 1) := by decide +kernel
theorem dX7_span_32 : decode cX7_span 32 = .ok (.if_icmp .le 6, 3) := by decide +kernel
theorem dX7_span_35 : decode cX7_span 35 = .ok (.iconst 1, 1) := by decide +kernel
theorem dX7_span_36 : decode cX7_span 36 = .ok (.istore 4, 2) := by decide +kernel
theorem dX7_span_38 : decode cX7_span 38 = .ok (.iload 4, 2) := by decide +kernel
theorem dX7_span_40 : decode cX7_span 40 = .ok (.ifCond .le 10, 3) := by decide +kernel
theorem dX7_span_43 : decode cX7_span 43 = .ok (.aload_n 0, 1) := by decide +kernel
theorem dX7_span_44 : decode cX7_span 44 = .ok (.iload 4, 2) := by decide +kernel
theorem dX7_span_46 : decode cX7_span 46 = .ok (.invokevirtual 138, 3) := by decide +kernel
theorem dX7_span_49 : decode cX7_span 49 = .ok (.ireturn, 1) := by decide +kernel
theorem dX7_span_50 : decode cX7_span 50 = .ok (.aload_n 0, 1) := by decide +kernel
theorem dX7_span_51 : decode cX7_span 51 = .ok (.iconst 0, 1) := by decide +kernel
theorem dX7_span_52 : decode cX7_span 52 = .ok (.putfield 85, 3) := by decide +kernel
theorem dX7_span_55 : decode cX7_span 55 = .ok (.iload_n 3, 1) := by decide +kernel
theorem dX7_span_56 : decode cX7_span 56 = .ok (.ifCond .ne 12, 3) := by decide +kernel
theorem dX7_span_59 : decode cX7_span 59 = .ok (.aload_n 0, 1) := by decide +kernel
theorem dX7_span_60 : decode cX7_span 60 = .ok (.iload_n 1, 1) := by decide +kernel
theorem dX7_span_61 : decode cX7_span 61 = .ok (.iload_n 2, 1) := by decide +kernel
theorem dX7_span_62 : decode cX7_span 62 = .ok (.invokevirtual 143, 3) := by decide +kernel
theorem dX7_span_65 : decode cX7_span 65 = .ok (.goto 66, 3) := by decide +kernel
theorem dX7_span_68 : decode cX7_span 68 = .ok (.iload_n 3, 1) := by decide +kernel
theorem dX7_span_69 : decode cX7_span 69 = .ok (.iconst 1, 1) := by decide +kernel
theorem dX7_span_70 : decode cX7_span 70 = .ok (.if_icmp .ne 17, 3) := by decide +kernel
theorem dX7_span_73 : decode cX7_span 73 = .ok (.aload_n 0, 1) := by decide +kernel
theorem dX7_span_74 : decode cX7_span 74 = .ok (.getfield 58, 3) := by decide +kernel
theorem dX7_span_77 : decode cX7_span 77 = .ok (.bipush 40, 2) := by decide +kernel
theorem dX7_span_79 : decode cX7_span 79 = .ok (.iload_n 1, 1) := by decide +kernel
theorem dX7_span_80 : decode cX7_span 80 = .ok (.imul, 1) := by decide +kernel
theorem dX7_span_81 : decode cX7_span 81 = .ok (.iload_n 2, 1) := by decide +kernel
theorem dX7_span_82 : decode cX7_span 82 = .ok (.iadd, 1) := by decide +kernel
theorem dX7_span_83 : decode cX7_span 83 = .ok (.iaload, 1) := by decide +kernel
theorem dX7_span_84 : decode cX7_span 84 = .ok (.goto 47, 3) := by decide +kernel
theorem dX7_span_87 : decode cX7_span 87 = .ok (.iload_n 3, 1) := by decide +kernel
theorem dX7_span_88 : decode cX7_span 88 = .ok (.iconst 2, 1) := by decide +kernel
theorem dX7_span_89 : decode cX7_span 89 = .ok (.if_icmp .ne 17, 3) := by decide +kernel
theorem dX7_span_92 : decode cX7_span 92 = .ok (.aload_n 0, 1) := by decide +kernel
theorem dX7_span_93 : decode cX7_span 93 = .ok (.getfield 61, 3) := by decide +kernel
theorem dX7_span_96 : decode cX7_span 96 = .ok (.bipush 40, 2) := by decide +kernel
theorem dX7_span_98 : decode cX7_span 98 = .ok (.iload_n 1, 1) := by decide +kernel
theorem dX7_span_99 : decode cX7_span 99 = .ok (.imul, 1) := by decide +kernel
theorem dX7_span_100 : decode cX7_span 100 = .ok (.iload_n 2, 1) := by decide +kernel
theorem dX7_span_101 : decode cX7_span 101 = .ok (.iadd, 1) := by decide +kernel
theorem dX7_span_102 : decode cX7_span 102 = .ok (.iaload, 1) := by decide +kernel
theorem dX7_span_103 : decode cX7_span 103 = .ok (.goto 28, 3) := by decide +kernel
theorem dX7_span_106 : decode cX7_span 106 = .ok (.iload_n 3, 1) := by decide +kernel
theorem dX7_span_107 : decode cX7_span 107 = .ok (.iconst 3, 1) := by decide +kernel
theorem dX7_span_108 : decode cX7_span 108 = .ok (.if_icmp .ne 17, 3) := by decide +kernel
theorem dX7_span_111 : decode cX7_span 111 = .ok (.aload_n 0, 1) := by decide +kernel
theorem dX7_span_112 : decode cX7_span 112 = .ok (.getfield 64, 3) := by decide +kernel
theorem dX7_span_115 : decode cX7_span 115 = .ok (.bipush 40, 2) := by decide +kernel
theorem dX7_span_117 : decode cX7_span 117 = .ok (.iload_n 1, 1) := by decide +kernel
theorem dX7_span_118 : decode cX7_span 118 = .ok (.imul, 1) := by decide +kernel
theorem dX7_span_119 : decode cX7_span 119 = .ok (.iload_n 2, 1) := by decide +kernel
theorem dX7_span_120 : decode cX7_span 120 = .ok (.iadd, 1) := by decide +kernel
theorem dX7_span_121 : decode cX7_span 121 = .ok (.iaload, 1) := by decide +kernel
theorem dX7_span_122 : decode cX7_span 122 = .ok (.goto 9, 3) := by decide +kernel
theorem dX7_span_125 : decode cX7_span 125 = .ok (.aload_n 0, 1) := by decide +kernel
theorem dX7_span_126 : decode cX7_span 126 = .ok (.iload_n 1, 1) := by decide +kernel
theorem dX7_span_127 : decode cX7_span 127 = .ok (.iload_n 2, 1) := by decide +kernel
theorem dX7_span_128 : decode cX7_span 128 = .ok (.invokevirtual 169, 3) := by decide +kernel
theorem dX7_span_131 : decode cX7_span 131 = .ok (.ireturn, 1) := by decide +kernel
set_option maxRecDepth 20000 in
theorem ggX7_heavy_X7_isValue : GoodIn wsX7_heavy wsX7_isValue := goodIn_r _ [7] (by decide +kernel) (by decide +kernel)
set_option maxRecDepth 20000 in
theorem gX7_heavy_X7_isValue : GoodIn wsX7_heavy (va_wsS RX7 123 yX7_isValue wsX7_isValue) := goodIn_app (goodIn_of _ (by decide +kernel)) ggX7_heavy_X7_isValue
set_option maxRecDepth 20000 in
theorem ggX7_heavy_X7_wrongSketch : GoodIn wsX7_heavy wsX7_wrongSketch := goodIn_r _ [11, 12, 13, 14, 6, 15, 20, 21, 22, 23, 24, 25, 26, 27, 28, 29, 30, 31, 32, 33, 34, 35, 36, 37, 38, 39, 40, 41, 42, 43, 44, 45, 46, 47, 48, 49] (by decide +kernel) (by decide +kernel)
set_option maxRecDepth 20000 in
theorem gX7_heavy_X7_wrongSketch : GoodIn wsX7_heavy (wsV RX7 166 RX7 yX7_wrongSketch wsX7_wrongSketch) := goodIn_app (goodIn_of _ (by decide +kernel)) ggX7_heavy_X7_wrongSketch
set_option maxRecDepth 20000 in
theorem ggX7_heavy_X7_refuse : GoodIn wsX7_heavy wsX7_refuse := goodIn_r _ [19, 2, 20, 21, 22, 23, 24, 25, 26, 27, 28, 29, 30, 31, 32, 33, 34, 35, 36, 37, 38, 39, 40, 41, 42, 43, 44, 45, 46, 47, 48, 49] (by decide +kernel) (by decide +kernel)
set_option maxRecDepth 20000 in
theorem gX7_heavy_X7_refuse : GoodIn wsX7_heavy (wsV RX7 138 RX7 yX7_refuse wsX7_refuse) := goodIn_app (goodIn_of _ (by decide +kernel)) ggX7_heavy_X7_refuse
theorem dX7_heavy_0 : decode cX7_heavy 0 = .ok (.iload_n 2, 1) := by decide +kernel
theorem dX7_heavy_1 : decode cX7_heavy 1 = .ok (.invokestatic 123, 3) := by decide +kernel
theorem dX7_heavy_4 : decode cX7_heavy 4 = .ok (.ifCond .ne 7, 3) := by decide +kernel
theorem dX7_heavy_7 : decode cX7_heavy 7 = .ok (.iconst 1, 1) := by decide +kernel
theorem dX7_heavy_8 : decode cX7_heavy 8 = .ok (.goto 8, 3) := by decide +kernel
theorem dX7_heavy_11 : decode cX7_heavy 11 = .ok (.aload_n 0, 1) := by decide +kernel
theorem dX7_heavy_12 : decode cX7_heavy 12 = .ok (.iload_n 1, 1) := by decide +kernel
theorem dX7_heavy_13 : decode cX7_heavy 13 = .ok (.invokevirtual 166, 3) := by decide +kernel
theorem dX7_heavy_16 : decode cX7_heavy 16 = .ok (.istore_n 3, 1) := by decide +kernel
theorem dX7_heavy_17 : decode cX7_heavy 17 = .ok (.iload_n 3, 1) := by decide +kernel
theorem dX7_heavy_18 : decode cX7_heavy 18 = .ok (.ifCond .ne 20, 3) := by decide +kernel
theorem dX7_heavy_21 : decode cX7_heavy 21 = .ok (.aload_n 0, 1) := by decide +kernel
theorem dX7_heavy_22 : decode cX7_heavy 22 = .ok (.getfield 54, 3) := by decide +kernel
theorem dX7_heavy_25 : decode cX7_heavy 25 = .ok (.bipush 40, 2) := by decide +kernel
theorem dX7_heavy_27 : decode cX7_heavy 27 = .ok (.iload_n 1, 1) := by decide +kernel
theorem dX7_heavy_28 : decode cX7_heavy 28 = .ok (.imul, 1) := by decide +kernel
theorem dX7_heavy_29 : decode cX7_heavy 29 = .ok (.iload_n 2, 1) := by decide +kernel
theorem dX7_heavy_30 : decode cX7_heavy 30 = .ok (.iadd, 1) := by decide +kernel
theorem dX7_heavy_31 : decode cX7_heavy 31 = .ok (.baload, 1) := by decide +kernel
theorem dX7_heavy_32 : decode cX7_heavy 32 = .ok (.ifCond .ne 6, 3) := by decide +kernel
theorem dX7_heavy_35 : decode cX7_heavy 35 = .ok (.bipush 6, 2) := by decide +kernel
theorem dX7_heavy_37 : decode cX7_heavy 37 = .ok (.istore_n 3, 1) := by decide +kernel
theorem dX7_heavy_38 : decode cX7_heavy 38 = .ok (.iload_n 3, 1) := by decide +kernel
theorem dX7_heavy_39 : decode cX7_heavy 39 = .ok (.ifCond .le 9, 3) := by decide +kernel
theorem dX7_heavy_42 : decode cX7_heavy 42 = .ok (.aload_n 0, 1) := by decide +kernel
theorem dX7_heavy_43 : decode cX7_heavy 43 = .ok (.iload_n 3, 1) := by decide +kernel
theorem dX7_heavy_44 : decode cX7_heavy 44 = .ok (.invokevirtual 138, 3) := by decide +kernel
theorem dX7_heavy_47 : decode cX7_heavy 47 = .ok (.ireturn, 1) := by decide +kernel
theorem dX7_heavy_48 : decode cX7_heavy 48 = .ok (.aload_n 0, 1) := by decide +kernel
theorem dX7_heavy_49 : decode cX7_heavy 49 = .ok (.iconst 0, 1) := by decide +kernel
theorem dX7_heavy_50 : decode cX7_heavy 50 = .ok (.putfield 85, 3) := by decide +kernel
theorem dX7_heavy_53 : decode cX7_heavy 53 = .ok (.aload_n 0, 1) := by decide +kernel
theorem dX7_heavy_54 : decode cX7_heavy 54 = .ok (.getfield 51, 3) := by decide +kernel
theorem dX7_heavy_57 : decode cX7_heavy 57 = .ok (.bipush 40, 2) := by decide +kernel
theorem dX7_heavy_59 : decode cX7_heavy 59 = .ok (.iload_n 1, 1) := by decide +kernel
theorem dX7_heavy_60 : decode cX7_heavy 60 = .ok (.imul, 1) := by decide +kernel
theorem dX7_heavy_61 : decode cX7_heavy 61 = .ok (.iload_n 2, 1) := by decide +kernel
theorem dX7_heavy_62 : decode cX7_heavy 62 = .ok (.iadd, 1) := by decide +kernel
theorem dX7_heavy_63 : decode cX7_heavy 63 = .ok (.iaload, 1) := by decide +kernel
theorem dX7_heavy_64 : decode cX7_heavy 64 = .ok (.ireturn, 1) := by decide +kernel
theorem dX7_capped_0 : decode cX7_capped 0 = .ok (.ldc 172, 2) := by decide +kernel
theorem dX7_capped_2 : decode cX7_capped 2 = .ok (.iload_n 0, 1) := by decide +kernel
theorem dX7_capped_3 : decode cX7_capped 3 = .ok (.invokestatic 151, 3) := by decide +kernel
theorem dX7_capped_6 : decode cX7_capped 6 = .ok (.ireturn, 1) := by decide +kernel
set_option maxRecDepth 20000 in
theorem ggX7_halves_X7_capped : GoodIn wsX7_halves wsX7_capped := goodIn_r _ [12, 13, 14, 15, 7, 16] (by decide +kernel) (by decide +kernel)
set_option maxRecDepth 20000 in
theorem gX7_halves_X7_capped : GoodIn wsX7_halves (va_wsS RX7 176 yX7_capped wsX7_capped) := goodIn_app (goodIn_of _ (by decide +kernel)) ggX7_halves_X7_capped
set_option maxRecDepth 20000 in
theorem ggX7_halves_J9_floorDiv_7cf53 : GoodIn wsX7_halves wsJ9_floorDiv_7cf53 := goodIn_r _ [20] (by decide +kernel) (by decide +kernel)
set_option maxRecDepth 20000 in
theorem gX7_halves_J9_floorDiv_7cf53 : GoodIn wsX7_halves (va_wsS RX7 188 yJ9_floorDiv_7cf53 wsJ9_floorDiv_7cf53) := goodIn_app (goodIn_of _ (by decide +kernel)) ggX7_halves_J9_floorDiv_7cf53
theorem dX7_halves_0 : decode cX7_halves 0 = .ok (.iload_n 3, 1) := by decide +kernel
theorem dX7_halves_1 : decode cX7_halves 1 = .ok (.ifCond .eq 8, 3) := by decide +kernel
theorem dX7_halves_4 : decode cX7_halves 4 = .ok (.iload 4, 2) := by decide +kernel
theorem dX7_halves_6 : decode cX7_halves 6 = .ok (.ifCond .ne 77, 3) := by decide +kernel
theorem dX7_halves_9 : decode cX7_halves 9 = .ok (.iload_n 3, 1) := by decide +kernel
theorem dX7_halves_10 : decode cX7_halves 10 = .ok (.ifCond .ne 7, 3) := by decide +kernel
theorem dX7_halves_13 : decode cX7_halves 13 = .ok (.iconst 1, 1) := by decide +kernel
theorem dX7_halves_14 : decode cX7_halves 14 = .ok (.goto 4, 3) := by decide +kernel
theorem dX7_halves_17 : decode cX7_halves 17 = .ok (.iconst 0, 1) := by decide +kernel
theorem dX7_halves_18 : decode cX7_halves 18 = .ok (.istore 5, 2) := by decide +kernel
theorem dX7_halves_20 : decode cX7_halves 20 = .ok (.aload_n 0, 1) := by decide +kernel
theorem dX7_halves_21 : decode cX7_halves 21 = .ok (.iload 5, 2) := by decide +kernel
theorem dX7_halves_23 : decode cX7_halves 23 = .ok (.ifCond .eq 7, 3) := by decide +kernel
theorem dX7_halves_26 : decode cX7_halves 26 = .ok (.iconst 0, 1) := by decide +kernel
theorem dX7_halves_27 : decode cX7_halves 27 = .ok (.goto 4, 3) := by decide +kernel
theorem dX7_halves_30 : decode cX7_halves 30 = .ok (.iload_n 1, 1) := by decide +kernel
theorem dX7_halves_31 : decode cX7_halves 31 = .ok (.putfield 173, 3) := by decide +kernel
theorem dX7_halves_34 : decode cX7_halves 34 = .ok (.aload_n 0, 1) := by decide +kernel
theorem dX7_halves_35 : decode cX7_halves 35 = .ok (.iload 5, 2) := by decide +kernel
theorem dX7_halves_37 : decode cX7_halves 37 = .ok (.ifCond .eq 7, 3) := by decide +kernel
theorem dX7_halves_40 : decode cX7_halves 40 = .ok (.iconst 0, 1) := by decide +kernel
theorem dX7_halves_41 : decode cX7_halves 41 = .ok (.goto 7, 3) := by decide +kernel
theorem dX7_halves_44 : decode cX7_halves 44 = .ok (.iload_n 2, 1) := by decide +kernel
theorem dX7_halves_45 : decode cX7_halves 45 = .ok (.invokestatic 176, 3) := by decide +kernel
theorem dX7_halves_48 : decode cX7_halves 48 = .ok (.putfield 179, 3) := by decide +kernel
theorem dX7_halves_51 : decode cX7_halves 51 = .ok (.aload_n 0, 1) := by decide +kernel
theorem dX7_halves_52 : decode cX7_halves 52 = .ok (.iload 5, 2) := by decide +kernel
theorem dX7_halves_54 : decode cX7_halves 54 = .ok (.ifCond .eq 7, 3) := by decide +kernel
theorem dX7_halves_57 : decode cX7_halves 57 = .ok (.iload_n 1, 1) := by decide +kernel
theorem dX7_halves_58 : decode cX7_halves 58 = .ok (.goto 4, 3) := by decide +kernel
theorem dX7_halves_61 : decode cX7_halves 61 = .ok (.iconst 0, 1) := by decide +kernel
theorem dX7_halves_62 : decode cX7_halves 62 = .ok (.putfield 182, 3) := by decide +kernel
theorem dX7_halves_65 : decode cX7_halves 65 = .ok (.aload_n 0, 1) := by decide +kernel
theorem dX7_halves_66 : decode cX7_halves 66 = .ok (.iload 5, 2) := by decide +kernel
theorem dX7_halves_68 : decode cX7_halves 68 = .ok (.ifCond .eq 10, 3) := by decide +kernel
theorem dX7_halves_71 : decode cX7_halves 71 = .ok (.iload_n 2, 1) := by decide +kernel
theorem dX7_halves_72 : decode cX7_halves 72 = .ok (.invokestatic 176, 3) := by decide +kernel
theorem dX7_halves_75 : decode cX7_halves 75 = .ok (.goto 4, 3) := by decide +kernel
theorem dX7_halves_78 : decode cX7_halves 78 = .ok (.iconst 0, 1) := by decide +kernel
theorem dX7_halves_79 : decode cX7_halves 79 = .ok (.putfield 185, 3) := by decide +kernel
theorem dX7_halves_82 : decode cX7_halves 82 = .ok (.return_, 1) := by decide +kernel
theorem dX7_halves_83 : decode cX7_halves 83 = .ok (.aload_n 0, 1) := by decide +kernel
theorem dX7_halves_84 : decode cX7_halves 84 = .ok (.iload_n 1, 1) := by decide +kernel
theorem dX7_halves_85 : decode cX7_halves 85 = .ok (.iload_n 3, 1) := by decide +kernel
theorem dX7_halves_86 : decode cX7_halves 86 = .ok (.imul, 1) := by decide +kernel
theorem dX7_halves_87 : decode cX7_halves 87 = .ok (.iload_n 3, 1) := by decide +kernel
theorem dX7_halves_88 : decode cX7_halves 88 = .ok (.iload 4, 2) := by decide +kernel
theorem dX7_halves_90 : decode cX7_halves 90 = .ok (.iadd, 1) := by decide +kernel
theorem dX7_halves_91 : decode cX7_halves 91 = .ok (.invokestatic 188, 3) := by decide +kernel
theorem dX7_halves_94 : decode cX7_halves 94 = .ok (.putfield 173, 3) := by decide +kernel
theorem dX7_halves_97 : decode cX7_halves 97 = .ok (.aload_n 0, 1) := by decide +kernel
theorem dX7_halves_98 : decode cX7_halves 98 = .ok (.iload_n 1, 1) := by decide +kernel
theorem dX7_halves_99 : decode cX7_halves 99 = .ok (.aload_n 0, 1) := by decide +kernel
theorem dX7_halves_100 : decode cX7_halves 100 = .ok (.getfield 173, 3) := by decide +kernel
theorem dX7_halves_103 : decode cX7_halves 103 = .ok (.isub, 1) := by decide +kernel
theorem dX7_halves_104 : decode cX7_halves 104 = .ok (.putfield 182, 3) := by decide +kernel
theorem dX7_halves_107 : decode cX7_halves 107 = .ok (.aload_n 0, 1) := by decide +kernel
theorem dX7_halves_108 : decode cX7_halves 108 = .ok (.iconst 0, 1) := by decide +kernel
theorem dX7_halves_109 : decode cX7_halves 109 = .ok (.aload_n 0, 1) := by decide +kernel
theorem dX7_halves_110 : decode cX7_halves 110 = .ok (.getfield 173, 3) := by decide +kernel
theorem dX7_halves_113 : decode cX7_halves 113 = .ok (.iload_n 1, 1) := by decide +kernel
theorem dX7_halves_114 : decode cX7_halves 114 = .ok (.iload_n 2, 1) := by decide +kernel
theorem dX7_halves_115 : decode cX7_halves 115 = .ok (.iadd, 1) := by decide +kernel
theorem dX7_halves_116 : decode cX7_halves 116 = .ok (.aload_n 0, 1) := by decide +kernel
theorem dX7_halves_117 : decode cX7_halves 117 = .ok (.getfield 173, 3) := by decide +kernel
theorem dX7_halves_120 : decode cX7_halves 120 = .ok (.isub, 1) := by decide +kernel
theorem dX7_halves_121 : decode cX7_halves 121 = .ok (.invokestatic 156, 3) := by decide +kernel
theorem dX7_halves_124 : decode cX7_halves 124 = .ok (.invokestatic 156, 3) := by decide +kernel
theorem dX7_halves_127 : decode cX7_halves 127 = .ok (.invokestatic 176, 3) := by decide +kernel
theorem dX7_halves_130 : decode cX7_halves 130 = .ok (.putfield 179, 3) := by decide +kernel
theorem dX7_halves_133 : decode cX7_halves 133 = .ok (.aload_n 0, 1) := by decide +kernel
theorem dX7_halves_134 : decode cX7_halves 134 = .ok (.iconst 0, 1) := by decide +kernel
theorem dX7_halves_135 : decode cX7_halves 135 = .ok (.aload_n 0, 1) := by decide +kernel
theorem dX7_halves_136 : decode cX7_halves 136 = .ok (.getfield 182, 3) := by decide +kernel
theorem dX7_halves_139 : decode cX7_halves 139 = .ok (.iload_n 1, 1) := by decide +kernel
theorem dX7_halves_140 : decode cX7_halves 140 = .ok (.iload_n 2, 1) := by decide +kernel
theorem dX7_halves_141 : decode cX7_halves 141 = .ok (.iadd, 1) := by decide +kernel
theorem dX7_halves_142 : decode cX7_halves 142 = .ok (.aload_n 0, 1) := by decide +kernel
theorem dX7_halves_143 : decode cX7_halves 143 = .ok (.getfield 182, 3) := by decide +kernel
theorem dX7_halves_146 : decode cX7_halves 146 = .ok (.isub, 1) := by decide +kernel
theorem dX7_halves_147 : decode cX7_halves 147 = .ok (.invokestatic 156, 3) := by decide +kernel
theorem dX7_halves_150 : decode cX7_halves 150 = .ok (.invokestatic 156, 3) := by decide +kernel
theorem dX7_halves_153 : decode cX7_halves 153 = .ok (.invokestatic 176, 3) := by decide +kernel
theorem dX7_halves_156 : decode cX7_halves 156 = .ok (.putfield 185, 3) := by decide +kernel
theorem dX7_halves_159 : decode cX7_halves 159 = .ok (.return_, 1) := by decide +kernel
set_option maxRecDepth 20000 in
theorem ggX7_splits_X7_begins : GoodIn wsX7_splits wsX7_begins := goodIn_r _ [13, 1, 38, 39, 40, 41, 42, 43, 44, 45, 46, 47, 48, 49, 50, 51, 52, 53, 54, 55, 56, 57, 58, 59, 60, 61, 62, 63, 64, 65, 66, 67] (by decide +kernel) (by decide +kernel)
set_option maxRecDepth 20000 in
theorem gX7_splits_X7_begins : GoodIn wsX7_splits (wsV RX7 143 RX7 yX7_begins wsX7_begins) := goodIn_app (goodIn_of _ (by decide +kernel)) ggX7_splits_X7_begins
set_option maxRecDepth 20000 in
theorem ggX7_splits_X7_light : GoodIn wsX7_splits wsX7_light := goodIn_r _ [17, 18, 38, 39, 40, 41, 42, 43, 44, 45, 46, 47, 48, 49, 50, 51, 52, 53, 54, 55, 56, 57, 58, 59, 60, 61, 62, 63, 64, 65, 66, 67] (by decide +kernel) (by decide +kernel)
set_option maxRecDepth 20000 in
theorem gX7_splits_X7_light : GoodIn wsX7_splits (wsV RX7 146 RX7 yX7_light wsX7_light) := goodIn_app (goodIn_of _ (by decide +kernel)) ggX7_splits_X7_light
set_option maxRecDepth 20000 in
theorem ggX7_splits_X7_halves : GoodIn wsX7_splits wsX7_halves := goodIn_r _ [22, 5, 6, 7, 8, 23, 24, 25, 26, 27, 28, 12, 29, 30, 31, 32, 33, 34, 35, 36, 37, 38, 39, 40, 41, 42, 43, 44, 45, 46, 47, 48, 49, 50, 51, 52, 53, 54, 55, 56, 57, 58, 59, 60, 61, 62, 63, 64, 65, 66, 67] (by decide +kernel) (by decide +kernel)
set_option maxRecDepth 20000 in
theorem gX7_splits_X7_halves : GoodIn wsX7_splits (wsV RX7 191 RX7 yX7_halves wsX7_halves) := goodIn_app (goodIn_of _ (by decide +kernel)) ggX7_splits_X7_halves
theorem dX7_splits_0 : decode cX7_splits 0 = .ok (.aload_n 0, 1) := by decide +kernel
theorem dX7_splits_1 : decode cX7_splits 1 = .ok (.getfield 58, 3) := by decide +kernel
theorem dX7_splits_4 : decode cX7_splits 4 = .ok (.bipush 40, 2) := by decide +kernel
theorem dX7_splits_6 : decode cX7_splits 6 = .ok (.iload_n 1, 1) := by decide +kernel
theorem dX7_splits_7 : decode cX7_splits 7 = .ok (.imul, 1) := by decide +kernel
theorem dX7_splits_8 : decode cX7_splits 8 = .ok (.iload_n 2, 1) := by decide +kernel
theorem dX7_splits_9 : decode cX7_splits 9 = .ok (.iadd, 1) := by decide +kernel
theorem dX7_splits_10 : decode cX7_splits 10 = .ok (.iaload, 1) := by decide +kernel
theorem dX7_splits_11 : decode cX7_splits 11 = .ok (.istore 4, 2) := by decide +kernel
theorem dX7_splits_13 : decode cX7_splits 13 = .ok (.aload_n 0, 1) := by decide +kernel
theorem dX7_splits_14 : decode cX7_splits 14 = .ok (.aload_n 0, 1) := by decide +kernel
theorem dX7_splits_15 : decode cX7_splits 15 = .ok (.getfield 61, 3) := by decide +kernel
theorem dX7_splits_18 : decode cX7_splits 18 = .ok (.bipush 40, 2) := by decide +kernel
theorem dX7_splits_20 : decode cX7_splits 20 = .ok (.iload_n 1, 1) := by decide +kernel
theorem dX7_splits_21 : decode cX7_splits 21 = .ok (.imul, 1) := by decide +kernel
theorem dX7_splits_22 : decode cX7_splits 22 = .ok (.iload_n 2, 1) := by decide +kernel
theorem dX7_splits_23 : decode cX7_splits 23 = .ok (.iadd, 1) := by decide +kernel
theorem dX7_splits_24 : decode cX7_splits 24 = .ok (.iaload, 1) := by decide +kernel
theorem dX7_splits_25 : decode cX7_splits 25 = .ok (.aload_n 0, 1) := by decide +kernel
theorem dX7_splits_26 : decode cX7_splits 26 = .ok (.getfield 64, 3) := by decide +kernel
theorem dX7_splits_29 : decode cX7_splits 29 = .ok (.bipush 40, 2) := by decide +kernel
theorem dX7_splits_31 : decode cX7_splits 31 = .ok (.iload_n 1, 1) := by decide +kernel
theorem dX7_splits_32 : decode cX7_splits 32 = .ok (.imul, 1) := by decide +kernel
theorem dX7_splits_33 : decode cX7_splits 33 = .ok (.iload_n 2, 1) := by decide +kernel
theorem dX7_splits_34 : decode cX7_splits 34 = .ok (.iadd, 1) := by decide +kernel
theorem dX7_splits_35 : decode cX7_splits 35 = .ok (.iaload, 1) := by decide +kernel
theorem dX7_splits_36 : decode cX7_splits 36 = .ok (.aload_n 0, 1) := by decide +kernel
theorem dX7_splits_37 : decode cX7_splits 37 = .ok (.iload_n 1, 1) := by decide +kernel
theorem dX7_splits_38 : decode cX7_splits 38 = .ok (.aload_n 0, 1) := by decide +kernel
theorem dX7_splits_39 : decode cX7_splits 39 = .ok (.iload_n 1, 1) := by decide +kernel
theorem dX7_splits_40 : decode cX7_splits 40 = .ok (.iload_n 2, 1) := by decide +kernel
theorem dX7_splits_41 : decode cX7_splits 41 = .ok (.invokevirtual 143, 3) := by decide +kernel
theorem dX7_splits_44 : decode cX7_splits 44 = .ok (.iload_n 3, 1) := by decide +kernel
theorem dX7_splits_45 : decode cX7_splits 45 = .ok (.invokevirtual 146, 3) := by decide +kernel
theorem dX7_splits_48 : decode cX7_splits 48 = .ok (.aload_n 0, 1) := by decide +kernel
theorem dX7_splits_49 : decode cX7_splits 49 = .ok (.iload_n 1, 1) := by decide +kernel
theorem dX7_splits_50 : decode cX7_splits 50 = .ok (.iload_n 3, 1) := by decide +kernel
theorem dX7_splits_51 : decode cX7_splits 51 = .ok (.iconst 1, 1) := by decide +kernel
theorem dX7_splits_52 : decode cX7_splits 52 = .ok (.iadd, 1) := by decide +kernel
theorem dX7_splits_53 : decode cX7_splits 53 = .ok (.iload 4, 2) := by decide +kernel
theorem dX7_splits_55 : decode cX7_splits 55 = .ok (.invokevirtual 146, 3) := by decide +kernel
theorem dX7_splits_58 : decode cX7_splits 58 = .ok (.invokevirtual 191, 3) := by decide +kernel
theorem dX7_splits_61 : decode cX7_splits 61 = .ok (.aload_n 0, 1) := by decide +kernel
theorem dX7_splits_62 : decode cX7_splits 62 = .ok (.getfield 45, 3) := by decide +kernel
theorem dX7_splits_65 : decode cX7_splits 65 = .ok (.iload_n 1, 1) := by decide +kernel
theorem dX7_splits_66 : decode cX7_splits 66 = .ok (.iaload, 1) := by decide +kernel
theorem dX7_splits_67 : decode cX7_splits 67 = .ok (.istore 5, 2) := by decide +kernel
theorem dX7_splits_69 : decode cX7_splits 69 = .ok (.iload 5, 2) := by decide +kernel
theorem dX7_splits_71 : decode cX7_splits 71 = .ok (.iload_n 2, 1) := by decide +kernel
theorem dX7_splits_72 : decode cX7_splits 72 = .ok (.if_icmp .le 87, 3) := by decide +kernel
theorem dX7_splits_75 : decode cX7_splits 75 = .ok (.aload_n 0, 1) := by decide +kernel
theorem dX7_splits_76 : decode cX7_splits 76 = .ok (.getfield 58, 3) := by decide +kernel
theorem dX7_splits_79 : decode cX7_splits 79 = .ok (.bipush 40, 2) := by decide +kernel
theorem dX7_splits_81 : decode cX7_splits 81 = .ok (.iload_n 1, 1) := by decide +kernel
theorem dX7_splits_82 : decode cX7_splits 82 = .ok (.imul, 1) := by decide +kernel
theorem dX7_splits_83 : decode cX7_splits 83 = .ok (.iload 5, 2) := by decide +kernel
theorem dX7_splits_85 : decode cX7_splits 85 = .ok (.iadd, 1) := by decide +kernel
theorem dX7_splits_86 : decode cX7_splits 86 = .ok (.aload_n 0, 1) := by decide +kernel
theorem dX7_splits_87 : decode cX7_splits 87 = .ok (.getfield 58, 3) := by decide +kernel
theorem dX7_splits_90 : decode cX7_splits 90 = .ok (.bipush 40, 2) := by decide +kernel
theorem dX7_splits_92 : decode cX7_splits 92 = .ok (.iload_n 1, 1) := by decide +kernel
theorem dX7_splits_93 : decode cX7_splits 93 = .ok (.imul, 1) := by decide +kernel
theorem dX7_splits_94 : decode cX7_splits 94 = .ok (.iload 5, 2) := by decide +kernel
theorem dX7_splits_96 : decode cX7_splits 96 = .ok (.iadd, 1) := by decide +kernel
theorem dX7_splits_97 : decode cX7_splits 97 = .ok (.iconst 1, 1) := by decide +kernel
theorem dX7_splits_98 : decode cX7_splits 98 = .ok (.isub, 1) := by decide +kernel
theorem dX7_splits_99 : decode cX7_splits 99 = .ok (.iaload, 1) := by decide +kernel
theorem dX7_splits_100 : decode cX7_splits 100 = .ok (.iastore, 1) := by decide +kernel
theorem dX7_splits_101 : decode cX7_splits 101 = .ok (.aload_n 0, 1) := by decide +kernel
theorem dX7_splits_102 : decode cX7_splits 102 = .ok (.getfield 61, 3) := by decide +kernel
theorem dX7_splits_105 : decode cX7_splits 105 = .ok (.bipush 40, 2) := by decide +kernel
theorem dX7_splits_107 : decode cX7_splits 107 = .ok (.iload_n 1, 1) := by decide +kernel
theorem dX7_splits_108 : decode cX7_splits 108 = .ok (.imul, 1) := by decide +kernel
theorem dX7_splits_109 : decode cX7_splits 109 = .ok (.iload 5, 2) := by decide +kernel
theorem dX7_splits_111 : decode cX7_splits 111 = .ok (.iadd, 1) := by decide +kernel
theorem dX7_splits_112 : decode cX7_splits 112 = .ok (.aload_n 0, 1) := by decide +kernel
theorem dX7_splits_113 : decode cX7_splits 113 = .ok (.getfield 61, 3) := by decide +kernel
theorem dX7_splits_116 : decode cX7_splits 116 = .ok (.bipush 40, 2) := by decide +kernel
theorem dX7_splits_118 : decode cX7_splits 118 = .ok (.iload_n 1, 1) := by decide +kernel
theorem dX7_splits_119 : decode cX7_splits 119 = .ok (.imul, 1) := by decide +kernel
theorem dX7_splits_120 : decode cX7_splits 120 = .ok (.iload 5, 2) := by decide +kernel
theorem dX7_splits_122 : decode cX7_splits 122 = .ok (.iadd, 1) := by decide +kernel
theorem dX7_splits_123 : decode cX7_splits 123 = .ok (.iconst 1, 1) := by decide +kernel
theorem dX7_splits_124 : decode cX7_splits 124 = .ok (.isub, 1) := by decide +kernel
theorem dX7_splits_125 : decode cX7_splits 125 = .ok (.iaload, 1) := by decide +kernel
theorem dX7_splits_126 : decode cX7_splits 126 = .ok (.iastore, 1) := by decide +kernel
theorem dX7_splits_127 : decode cX7_splits 127 = .ok (.aload_n 0, 1) := by decide +kernel
theorem dX7_splits_128 : decode cX7_splits 128 = .ok (.getfield 64, 3) := by decide +kernel
theorem dX7_splits_131 : decode cX7_splits 131 = .ok (.bipush 40, 2) := by decide +kernel
theorem dX7_splits_133 : decode cX7_splits 133 = .ok (.iload_n 1, 1) := by decide +kernel
theorem dX7_splits_134 : decode cX7_splits 134 = .ok (.imul, 1) := by decide +kernel
theorem dX7_splits_135 : decode cX7_splits 135 = .ok (.iload 5, 2) := by decide +kernel
theorem dX7_splits_137 : decode cX7_splits 137 = .ok (.iadd, 1) := by decide +kernel
theorem dX7_splits_138 : decode cX7_splits 138 = .ok (.aload_n 0, 1) := by decide +kernel
theorem dX7_splits_139 : decode cX7_splits 139 = .ok (.getfield 64, 3) := by decide +kernel
theorem dX7_splits_142 : decode cX7_splits 142 = .ok (.bipush 40, 2) := by decide +kernel
theorem dX7_splits_144 : decode cX7_splits 144 = .ok (.iload_n 1, 1) := by decide +kernel
theorem dX7_splits_145 : decode cX7_splits 145 = .ok (.imul, 1) := by decide +kernel
theorem dX7_splits_146 : decode cX7_splits 146 = .ok (.iload 5, 2) := by decide +kernel
theorem dX7_splits_148 : decode cX7_splits 148 = .ok (.iadd, 1) := by decide +kernel
theorem dX7_splits_149 : decode cX7_splits 149 = .ok (.iconst 1, 1) := by decide +kernel
theorem dX7_splits_150 : decode cX7_splits 150 = .ok (.isub, 1) := by decide +kernel
theorem dX7_splits_151 : decode cX7_splits 151 = .ok (.iaload, 1) := by decide +kernel
theorem dX7_splits_152 : decode cX7_splits 152 = .ok (.iastore, 1) := by decide +kernel
theorem dX7_splits_153 : decode cX7_splits 153 = .ok (.iinc 5 (-1), 3) := by decide +kernel
theorem dX7_splits_156 : decode cX7_splits 156 = .ok (.goto (-87), 3) := by decide +kernel
theorem dX7_splits_159 : decode cX7_splits 159 = .ok (.aload_n 0, 1) := by decide +kernel
theorem dX7_splits_160 : decode cX7_splits 160 = .ok (.getfield 45, 3) := by decide +kernel
theorem dX7_splits_163 : decode cX7_splits 163 = .ok (.iload_n 1, 1) := by decide +kernel
theorem dX7_splits_164 : decode cX7_splits 164 = .ok (.dup2, 1) := by decide +kernel
theorem dX7_splits_165 : decode cX7_splits 165 = .ok (.iaload, 1) := by decide +kernel
theorem dX7_splits_166 : decode cX7_splits 166 = .ok (.iconst 1, 1) := by decide +kernel
theorem dX7_splits_167 : decode cX7_splits 167 = .ok (.iadd, 1) := by decide +kernel
theorem dX7_splits_168 : decode cX7_splits 168 = .ok (.iastore, 1) := by decide +kernel
theorem dX7_splits_169 : decode cX7_splits 169 = .ok (.aload_n 0, 1) := by decide +kernel
theorem dX7_splits_170 : decode cX7_splits 170 = .ok (.getfield 58, 3) := by decide +kernel
theorem dX7_splits_173 : decode cX7_splits 173 = .ok (.bipush 40, 2) := by decide +kernel
theorem dX7_splits_175 : decode cX7_splits 175 = .ok (.iload_n 1, 1) := by decide +kernel
theorem dX7_splits_176 : decode cX7_splits 176 = .ok (.imul, 1) := by decide +kernel
theorem dX7_splits_177 : decode cX7_splits 177 = .ok (.iload_n 2, 1) := by decide +kernel
theorem dX7_splits_178 : decode cX7_splits 178 = .ok (.iadd, 1) := by decide +kernel
theorem dX7_splits_179 : decode cX7_splits 179 = .ok (.iload_n 3, 1) := by decide +kernel
theorem dX7_splits_180 : decode cX7_splits 180 = .ok (.iastore, 1) := by decide +kernel
theorem dX7_splits_181 : decode cX7_splits 181 = .ok (.aload_n 0, 1) := by decide +kernel
theorem dX7_splits_182 : decode cX7_splits 182 = .ok (.getfield 61, 3) := by decide +kernel
theorem dX7_splits_185 : decode cX7_splits 185 = .ok (.bipush 40, 2) := by decide +kernel
theorem dX7_splits_187 : decode cX7_splits 187 = .ok (.iload_n 1, 1) := by decide +kernel
theorem dX7_splits_188 : decode cX7_splits 188 = .ok (.imul, 1) := by decide +kernel
theorem dX7_splits_189 : decode cX7_splits 189 = .ok (.iload_n 2, 1) := by decide +kernel
