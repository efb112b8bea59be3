theorem dX6_span_20 : decode cX6_span 20 = .ok (.getfield 151, 3) := by decide +kernel
theorem dX6_span_23 : decode cX6_span 23 = .ok (.astore 5, 2) := by decide +kernel
theorem dX6_span_25 : decode cX6_span 25 = .ok (.aload 5, 2) := by decide +kernel
theorem dX6_span_27 : decode cX6_span 27 = .ok (.invokevirtual 180, 3) := by decide +kernel
theorem dX6_span_30 : decode cX6_span 30 = .ok (.ifCond .ne 9, 3) := by decide +kernel
theorem dX6_span_33 : decode cX6_span 33 = .ok (.aload_n 0, 1) := by decide +kernel
theorem dX6_span_34 : decode cX6_span 34 = .ok (.iconst 5, 1) := by decide +kernel
theorem dX6_span_35 : decode cX6_span 35 = .ok (.invokevirtual 95, 3) := by decide +kernel
theorem dX6_span_38 : decode cX6_span 38 = .ok (.ireturn, 1) := by decide +kernel
theorem dX6_span_39 : decode cX6_span 39 = .ok (.iload_n 2, 1) := by decide +kernel
theorem dX6_span_40 : decode cX6_span 40 = .ok (.i2l, 1) := by decide +kernel
theorem dX6_span_41 : decode cX6_span 41 = .ok (.lconst 0, 1) := by decide +kernel
theorem dX6_span_42 : decode cX6_span 42 = .ok (.aload 5, 2) := by decide +kernel
theorem dX6_span_44 : decode cX6_span 44 = .ok (.getfield 183, 3) := by decide +kernel
theorem dX6_span_47 : decode cX6_span 47 = .ok (.iconst 1, 1) := by decide +kernel
theorem dX6_span_48 : decode cX6_span 48 = .ok (.isub, 1) := by decide +kernel
theorem dX6_span_49 : decode cX6_span 49 = .ok (.i2l, 1) := by decide +kernel
theorem dX6_span_50 : decode cX6_span 50 = .ok (.invokestatic 61, 3) := by decide +kernel
theorem dX6_span_53 : decode cX6_span 53 = .ok (.ifCond .ne 9, 3) := by decide +kernel
theorem dX6_span_56 : decode cX6_span 56 = .ok (.aload_n 0, 1) := by decide +kernel
theorem dX6_span_57 : decode cX6_span 57 = .ok (.iconst 1, 1) := by decide +kernel
theorem dX6_span_58 : decode cX6_span 58 = .ok (.invokevirtual 95, 3) := by decide +kernel
theorem dX6_span_61 : decode cX6_span 61 = .ok (.ireturn, 1) := by decide +kernel
theorem dX6_span_62 : decode cX6_span 62 = .ok (.iload_n 3, 1) := by decide +kernel
theorem dX6_span_63 : decode cX6_span 63 = .ok (.tableswitch 91 0 4 #[33, 44, 56, 68, 80], 33) := by decide +kernel
theorem dX6_span_96 : decode cX6_span 96 = .ok (.aload_n 0, 1) := by decide +kernel
theorem dX6_span_97 : decode cX6_span 97 = .ok (.aload 5, 2) := by decide +kernel
theorem dX6_span_99 : decode cX6_span 99 = .ok (.iload_n 2, 1) := by decide +kernel
theorem dX6_span_100 : decode cX6_span 100 = .ok (.invokevirtual 193, 3) := by decide +kernel
theorem dX6_span_103 : decode cX6_span 103 = .ok (.invokevirtual 136, 3) := by decide +kernel
theorem dX6_span_106 : decode cX6_span 106 = .ok (.ireturn, 1) := by decide +kernel
theorem dX6_span_107 : decode cX6_span 107 = .ok (.aload_n 0, 1) := by decide +kernel
theorem dX6_span_108 : decode cX6_span 108 = .ok (.aload 5, 2) := by decide +kernel
theorem dX6_span_110 : decode cX6_span 110 = .ok (.getfield 196, 3) := by decide +kernel
theorem dX6_span_113 : decode cX6_span 113 = .ok (.iload_n 2, 1) := by decide +kernel
theorem dX6_span_114 : decode cX6_span 114 = .ok (.iaload, 1) := by decide +kernel
theorem dX6_span_115 : decode cX6_span 115 = .ok (.invokevirtual 136, 3) := by decide +kernel
theorem dX6_span_118 : decode cX6_span 118 = .ok (.ireturn, 1) := by decide +kernel
theorem dX6_span_119 : decode cX6_span 119 = .ok (.aload_n 0, 1) := by decide +kernel
theorem dX6_span_120 : decode cX6_span 120 = .ok (.aload 5, 2) := by decide +kernel
theorem dX6_span_122 : decode cX6_span 122 = .ok (.getfield 197, 3) := by decide +kernel
theorem dX6_span_125 : decode cX6_span 125 = .ok (.iload_n 2, 1) := by decide +kernel
theorem dX6_span_126 : decode cX6_span 126 = .ok (.iaload, 1) := by decide +kernel
theorem dX6_span_127 : decode cX6_span 127 = .ok (.invokevirtual 136, 3) := by decide +kernel
theorem dX6_span_130 : decode cX6_span 130 = .ok (.ireturn, 1) := by decide +kernel
theorem dX6_span_131 : decode cX6_span 131 = .ok (.aload_n 0, 1) := by decide +kernel
theorem dX6_span_132 : decode cX6_span 132 = .ok (.aload 5, 2) := by decide +kernel
theorem dX6_span_134 : decode cX6_span 134 = .ok (.getfield 198, 3) := by decide +kernel
theorem dX6_span_137 : decode cX6_span 137 = .ok (.iload_n 2, 1) := by decide +kernel
theorem dX6_span_138 : decode cX6_span 138 = .ok (.iaload, 1) := by decide +kernel
theorem dX6_span_139 : decode cX6_span 139 = .ok (.invokevirtual 136, 3) := by decide +kernel
theorem dX6_span_142 : decode cX6_span 142 = .ok (.ireturn, 1) := by decide +kernel
theorem dX6_span_143 : decode cX6_span 143 = .ok (.aload_n 0, 1) := by decide +kernel
theorem dX6_span_144 : decode cX6_span 144 = .ok (.aload 5, 2) := by decide +kernel
theorem dX6_span_146 : decode cX6_span 146 = .ok (.iload_n 2, 1) := by decide +kernel
theorem dX6_span_147 : decode cX6_span 147 = .ok (.invokevirtual 201, 3) := by decide +kernel
theorem dX6_span_150 : decode cX6_span 150 = .ok (.invokevirtual 136, 3) := by decide +kernel
theorem dX6_span_153 : decode cX6_span 153 = .ok (.ireturn, 1) := by decide +kernel
theorem dX6_span_154 : decode cX6_span 154 = .ok (.aload_n 0, 1) := by decide +kernel
theorem dX6_span_155 : decode cX6_span 155 = .ok (.iconst 1, 1) := by decide +kernel
theorem dX6_span_156 : decode cX6_span 156 = .ok (.invokevirtual 95, 3) := by decide +kernel
theorem dX6_span_159 : decode cX6_span 159 = .ok (.ireturn, 1) := by decide +kernel
set_option maxRecDepth 20000 in
theorem ggX6_heavy_X6_columnAt : GoodIn wsX6_heavy wsX6_columnAt := goodIn_r _ [8, 9, 10, 11, 12, 7, 13, 45, 46, 47, 48, 49, 50] (by decide +kernel) (by decide +kernel)
set_option maxRecDepth 20000 in
theorem gX6_heavy_X6_columnAt : GoodIn wsX6_heavy (wsV RX6 108 RX6 yX6_columnAt wsX6_columnAt) := goodIn_app (goodIn_of _ (by decide +kernel)) ggX6_heavy_X6_columnAt
set_option maxRecDepth 20000 in
theorem ggX6_heavy_X6_isValue : GoodIn wsX6_heavy wsX6_isValue := goodIn_r _ [16, 17, 11, 12, 7, 13] (by decide +kernel) (by decide +kernel)
set_option maxRecDepth 20000 in
theorem gX6_heavy_X6_isValue : GoodIn wsX6_heavy (va_wsS RX6 204 yX6_isValue wsX6_isValue) := goodIn_app (goodIn_of _ (by decide +kernel)) ggX6_heavy_X6_isValue
set_option maxRecDepth 20000 in
theorem ggX6_heavy_X6_none : GoodIn wsX6_heavy wsX6_none := goodIn_r _ [21, 22, 45, 46, 47, 48, 49, 50] (by decide +kernel) (by decide +kernel)
set_option maxRecDepth 20000 in
theorem gX6_heavy_X6_none : GoodIn wsX6_heavy (wsV RX6 95 RX6 yX6_none wsX6_none) := goodIn_app (goodIn_of _ (by decide +kernel)) ggX6_heavy_X6_none
set_option maxRecDepth 20000 in
theorem ggX6_heavy_X4_isThere : GoodIn wsX6_heavy wsX4_isThere := goodIn_r _ [27, 28, 38, 39, 40, 41, 42, 43, 44] (by decide +kernel) (by decide +kernel)
set_option maxRecDepth 20000 in
theorem gX6_heavy_X4_isThere : GoodIn wsX6_heavy (wsV RX6 180 RX4 yX4_isThere wsX4_isThere) := goodIn_app (goodIn_of _ (by decide +kernel)) ggX6_heavy_X4_isThere
set_option maxRecDepth 20000 in
theorem ggX6_heavy_X6_told : GoodIn wsX6_heavy wsX6_told := goodIn_r _ [32, 22, 45, 46, 47, 48, 49, 50] (by decide +kernel) (by decide +kernel)
set_option maxRecDepth 20000 in
theorem gX6_heavy_X6_told : GoodIn wsX6_heavy (wsV RX6 136 RX6 yX6_told wsX6_told) := goodIn_app (goodIn_of _ (by decide +kernel)) ggX6_heavy_X6_told
theorem dX6_heavy_0 : decode cX6_heavy 0 = .ok (.aload_n 0, 1) := by decide +kernel
theorem dX6_heavy_1 : decode cX6_heavy 1 = .ok (.iload_n 1, 1) := by decide +kernel
theorem dX6_heavy_2 : decode cX6_heavy 2 = .ok (.invokevirtual 108, 3) := by decide +kernel
theorem dX6_heavy_5 : decode cX6_heavy 5 = .ok (.astore_n 3, 1) := by decide +kernel
theorem dX6_heavy_6 : decode cX6_heavy 6 = .ok (.aload_n 3, 1) := by decide +kernel
theorem dX6_heavy_7 : decode cX6_heavy 7 = .ok (.ifnull 10, 3) := by decide +kernel
theorem dX6_heavy_10 : decode cX6_heavy 10 = .ok (.iload_n 2, 1) := by decide +kernel
theorem dX6_heavy_11 : decode cX6_heavy 11 = .ok (.invokestatic 204, 3) := by decide +kernel
theorem dX6_heavy_14 : decode cX6_heavy 14 = .ok (.ifCond .ne 9, 3) := by decide +kernel
theorem dX6_heavy_17 : decode cX6_heavy 17 = .ok (.aload_n 0, 1) := by decide +kernel
theorem dX6_heavy_18 : decode cX6_heavy 18 = .ok (.iconst 1, 1) := by decide +kernel
theorem dX6_heavy_19 : decode cX6_heavy 19 = .ok (.invokevirtual 95, 3) := by decide +kernel
theorem dX6_heavy_22 : decode cX6_heavy 22 = .ok (.ireturn, 1) := by decide +kernel
theorem dX6_heavy_23 : decode cX6_heavy 23 = .ok (.aload_n 3, 1) := by decide +kernel
theorem dX6_heavy_24 : decode cX6_heavy 24 = .ok (.getfield 151, 3) := by decide +kernel
theorem dX6_heavy_27 : decode cX6_heavy 27 = .ok (.invokevirtual 180, 3) := by decide +kernel
theorem dX6_heavy_30 : decode cX6_heavy 30 = .ok (.ifCond .ne 9, 3) := by decide +kernel
theorem dX6_heavy_33 : decode cX6_heavy 33 = .ok (.aload_n 0, 1) := by decide +kernel
theorem dX6_heavy_34 : decode cX6_heavy 34 = .ok (.iconst 5, 1) := by decide +kernel
theorem dX6_heavy_35 : decode cX6_heavy 35 = .ok (.invokevirtual 95, 3) := by decide +kernel
theorem dX6_heavy_38 : decode cX6_heavy 38 = .ok (.ireturn, 1) := by decide +kernel
theorem dX6_heavy_39 : decode cX6_heavy 39 = .ok (.aload_n 3, 1) := by decide +kernel
theorem dX6_heavy_40 : decode cX6_heavy 40 = .ok (.getfield 151, 3) := by decide +kernel
theorem dX6_heavy_43 : decode cX6_heavy 43 = .ok (.getfield 162, 3) := by decide +kernel
theorem dX6_heavy_46 : decode cX6_heavy 46 = .ok (.iload_n 2, 1) := by decide +kernel
theorem dX6_heavy_47 : decode cX6_heavy 47 = .ok (.baload, 1) := by decide +kernel
theorem dX6_heavy_48 : decode cX6_heavy 48 = .ok (.ifCond .ne 10, 3) := by decide +kernel
theorem dX6_heavy_51 : decode cX6_heavy 51 = .ok (.aload_n 0, 1) := by decide +kernel
theorem dX6_heavy_52 : decode cX6_heavy 52 = .ok (.bipush 6, 2) := by decide +kernel
theorem dX6_heavy_54 : decode cX6_heavy 54 = .ok (.invokevirtual 95, 3) := by decide +kernel
theorem dX6_heavy_57 : decode cX6_heavy 57 = .ok (.ireturn, 1) := by decide +kernel
theorem dX6_heavy_58 : decode cX6_heavy 58 = .ok (.aload_n 0, 1) := by decide +kernel
theorem dX6_heavy_59 : decode cX6_heavy 59 = .ok (.aload_n 3, 1) := by decide +kernel
theorem dX6_heavy_60 : decode cX6_heavy 60 = .ok (.getfield 151, 3) := by decide +kernel
theorem dX6_heavy_63 : decode cX6_heavy 63 = .ok (.getfield 207, 3) := by decide +kernel
theorem dX6_heavy_66 : decode cX6_heavy 66 = .ok (.iload_n 2, 1) := by decide +kernel
theorem dX6_heavy_67 : decode cX6_heavy 67 = .ok (.iaload, 1) := by decide +kernel
theorem dX6_heavy_68 : decode cX6_heavy 68 = .ok (.invokevirtual 136, 3) := by decide +kernel
theorem dX6_heavy_71 : decode cX6_heavy 71 = .ok (.ireturn, 1) := by decide +kernel
set_option maxRecDepth 20000 in
theorem ggX6_split_X6_columnAt : GoodIn wsX6_split wsX6_columnAt := goodIn_r _ [7, 8, 9, 10, 11, 6, 12, 99, 100, 101, 102, 103, 104] (by decide +kernel) (by decide +kernel)
set_option maxRecDepth 20000 in
theorem gX6_split_X6_columnAt : GoodIn wsX6_split (wsV RX6 108 RX6 yX6_columnAt wsX6_columnAt) := goodIn_app (goodIn_of _ (by decide +kernel)) ggX6_split_X6_columnAt
set_option maxRecDepth 20000 in
theorem ggX6_split_X6_isValue : GoodIn wsX6_split wsX6_isValue := goodIn_r _ [15, 16, 10, 11, 6, 12] (by decide +kernel) (by decide +kernel)
set_option maxRecDepth 20000 in
theorem gX6_split_X6_isValue : GoodIn wsX6_split (va_wsS RX6 204 yX6_isValue wsX6_isValue) := goodIn_app (goodIn_of _ (by decide +kernel)) ggX6_split_X6_isValue
set_option maxRecDepth 20000 in
theorem ggX6_split_X6_none : GoodIn wsX6_split wsX6_none := goodIn_r _ [20, 21, 99, 100, 101, 102, 103, 104] (by decide +kernel) (by decide +kernel)
set_option maxRecDepth 20000 in
theorem gX6_split_X6_none : GoodIn wsX6_split (wsV RX6 95 RX6 yX6_none wsX6_none) := goodIn_app (goodIn_of _ (by decide +kernel)) ggX6_split_X6_none
set_option maxRecDepth 20000 in
theorem ggX6_split_X4_isThere : GoodIn wsX6_split wsX4_isThere := goodIn_r _ [26, 27, 92, 93, 94, 95, 96, 97, 98] (by decide +kernel) (by decide +kernel)
set_option maxRecDepth 20000 in
theorem gX6_split_X4_isThere : GoodIn wsX6_split (wsV RX6 180 RX4 yX4_isThere wsX4_isThere) := goodIn_app (goodIn_of _ (by decide +kernel)) ggX6_split_X4_isThere
set_option maxRecDepth 20000 in
theorem ggX6_split_X4_endsAt : GoodIn wsX6_split wsX4_endsAt := goodIn_r _ [31, 32, 33, 34, 35, 25, 36, 27, 92, 93, 94, 95, 96, 97, 98] (by decide +kernel) (by decide +kernel)
set_option maxRecDepth 20000 in
theorem gX6_split_X4_endsAt : GoodIn wsX6_split (wsV RX6 210 RX4 yX4_endsAt wsX4_endsAt) := goodIn_app (goodIn_of _ (by decide +kernel)) ggX6_split_X4_endsAt
set_option maxRecDepth 20000 in
theorem ggX6_split_X4_spanOf : GoodIn wsX6_split wsX4_spanOf := goodIn_r _ [36, 27, 32, 92, 93, 94, 95, 96, 97, 98] (by decide +kernel) (by decide +kernel)
set_option maxRecDepth 20000 in
theorem gX6_split_X4_spanOf : GoodIn wsX6_split (wsV RX6 213 RX4 yX4_spanOf wsX4_spanOf) := goodIn_app (goodIn_of _ (by decide +kernel)) ggX6_split_X4_spanOf
set_option maxRecDepth 20000 in
theorem ggX6_split_X4_cut : GoodIn wsX6_split wsX4_cut := goodIn_r _ [41, 27, 32, 42, 43, 44, 45, 46, 25, 47, 48, 49, 50, 51, 52, 53, 54, 55, 56, 57, 58, 59, 60, 61, 62, 63, 64, 65, 66, 67, 68, 69, 70, 71, 72, 73, 74, 75, 76, 77, 78, 79, 80, 81, 82, 92, 93, 94, 95, 96, 97, 98] (by decide +kernel) (by decide +kernel)
set_option maxRecDepth 20000 in
theorem gX6_split_X4_cut : GoodIn wsX6_split (wsV RX6 216 RX4 yX4_cut wsX4_cut) := goodIn_app (goodIn_of _ (by decide +kernel)) ggX6_split_X4_cut
set_option maxRecDepth 20000 in
theorem ggX6_split_X6_told : GoodIn wsX6_split wsX6_told := goodIn_r _ [86, 21, 99, 100, 101, 102, 103, 104] (by decide +kernel) (by decide +kernel)
set_option maxRecDepth 20000 in
theorem gX6_split_X6_told : GoodIn wsX6_split (wsV RX6 136 RX6 yX6_told wsX6_told) := goodIn_app (goodIn_of _ (by decide +kernel)) ggX6_split_X6_told
theorem dX6_split_0 : decode cX6_split 0 = .ok (.aload_n 0, 1) := by decide +kernel
theorem dX6_split_1 : decode cX6_split 1 = .ok (.iload_n 1, 1) := by decide +kernel
theorem dX6_split_2 : decode cX6_split 2 = .ok (.invokevirtual 108, 3) := by decide +kernel
theorem dX6_split_5 : decode cX6_split 5 = .ok (.astore_n 3, 1) := by decide +kernel
theorem dX6_split_6 : decode cX6_split 6 = .ok (.aload_n 3, 1) := by decide +kernel
theorem dX6_split_7 : decode cX6_split 7 = .ok (.ifnull 10, 3) := by decide +kernel
theorem dX6_split_10 : decode cX6_split 10 = .ok (.iload_n 2, 1) := by decide +kernel
theorem dX6_split_11 : decode cX6_split 11 = .ok (.invokestatic 204, 3) := by decide +kernel
theorem dX6_split_14 : decode cX6_split 14 = .ok (.ifCond .ne 9, 3) := by decide +kernel
theorem dX6_split_17 : decode cX6_split 17 = .ok (.aload_n 0, 1) := by decide +kernel
theorem dX6_split_18 : decode cX6_split 18 = .ok (.iconst 1, 1) := by decide +kernel
theorem dX6_split_19 : decode cX6_split 19 = .ok (.invokevirtual 95, 3) := by decide +kernel
theorem dX6_split_22 : decode cX6_split 22 = .ok (.ireturn, 1) := by decide +kernel
theorem dX6_split_23 : decode cX6_split 23 = .ok (.aload_n 3, 1) := by decide +kernel
theorem dX6_split_24 : decode cX6_split 24 = .ok (.getfield 151, 3) := by decide +kernel
theorem dX6_split_27 : decode cX6_split 27 = .ok (.astore 4, 2) := by decide +kernel
theorem dX6_split_29 : decode cX6_split 29 = .ok (.aload 4, 2) := by decide +kernel
theorem dX6_split_31 : decode cX6_split 31 = .ok (.invokevirtual 180, 3) := by decide +kernel
theorem dX6_split_34 : decode cX6_split 34 = .ok (.ifCond .ne 9, 3) := by decide +kernel
theorem dX6_split_37 : decode cX6_split 37 = .ok (.aload_n 0, 1) := by decide +kernel
theorem dX6_split_38 : decode cX6_split 38 = .ok (.iconst 5, 1) := by decide +kernel
theorem dX6_split_39 : decode cX6_split 39 = .ok (.invokevirtual 95, 3) := by decide +kernel
theorem dX6_split_42 : decode cX6_split 42 = .ok (.ireturn, 1) := by decide +kernel
theorem dX6_split_43 : decode cX6_split 43 = .ok (.aload 4, 2) := by decide +kernel
theorem dX6_split_45 : decode cX6_split 45 = .ok (.iload_n 2, 1) := by decide +kernel
theorem dX6_split_46 : decode cX6_split 46 = .ok (.invokevirtual 210, 3) := by decide +kernel
theorem dX6_split_49 : decode cX6_split 49 = .ok (.ifCond .ne 13, 3) := by decide +kernel
theorem dX6_split_52 : decode cX6_split 52 = .ok (.aload 4, 2) := by decide +kernel
theorem dX6_split_54 : decode cX6_split 54 = .ok (.getfield 183, 3) := by decide +kernel
theorem dX6_split_57 : decode cX6_split 57 = .ok (.bipush 12, 2) := by decide +kernel
theorem dX6_split_59 : decode cX6_split 59 = .ok (.if_icmp .lt 10, 3) := by decide +kernel
theorem dX6_split_62 : decode cX6_split 62 = .ok (.aload_n 0, 1) := by decide +kernel
theorem dX6_split_63 : decode cX6_split 63 = .ok (.bipush 6, 2) := by decide +kernel
theorem dX6_split_65 : decode cX6_split 65 = .ok (.invokevirtual 95, 3) := by decide +kernel
theorem dX6_split_68 : decode cX6_split 68 = .ok (.ireturn, 1) := by decide +kernel
theorem dX6_split_69 : decode cX6_split 69 = .ok (.aload 4, 2) := by decide +kernel
theorem dX6_split_71 : decode cX6_split 71 = .ok (.iload_n 2, 1) := by decide +kernel
theorem dX6_split_72 : decode cX6_split 72 = .ok (.invokevirtual 213, 3) := by decide +kernel
theorem dX6_split_75 : decode cX6_split 75 = .ok (.istore 5, 2) := by decide +kernel
theorem dX6_split_77 : decode cX6_split 77 = .ok (.aload 4, 2) := by decide +kernel
theorem dX6_split_79 : decode cX6_split 79 = .ok (.iload 5, 2) := by decide +kernel
theorem dX6_split_81 : decode cX6_split 81 = .ok (.iload_n 2, 1) := by decide +kernel
theorem dX6_split_82 : decode cX6_split 82 = .ok (.invokevirtual 216, 3) := by decide +kernel
theorem dX6_split_85 : decode cX6_split 85 = .ok (.aload_n 0, 1) := by decide +kernel
theorem dX6_split_86 : decode cX6_split 86 = .ok (.iload 5, 2) := by decide +kernel
theorem dX6_split_88 : decode cX6_split 88 = .ok (.invokevirtual 136, 3) := by decide +kernel
theorem dX6_split_91 : decode cX6_split 91 = .ok (.ireturn, 1) := by decide +kernel
set_option maxRecDepth 20000 in
theorem ggX6_melt_X6_columnAt : GoodIn wsX6_melt wsX6_columnAt := goodIn_r _ [7, 8, 9, 10, 11, 6, 12, 63, 64, 65, 66, 67, 68] (by decide +kernel) (by decide +kernel)
set_option maxRecDepth 20000 in
theorem gX6_melt_X6_columnAt : GoodIn wsX6_melt (wsV RX6 108 RX6 yX6_columnAt wsX6_columnAt) := goodIn_app (goodIn_of _ (by decide +kernel)) ggX6_melt_X6_columnAt
set_option maxRecDepth 20000 in
theorem ggX6_melt_X6_no : GoodIn wsX6_melt wsX6_no := goodIn_r _ [16, 17, 63, 64, 65, 66, 67, 68] (by decide +kernel) (by decide +kernel)
set_option maxRecDepth 20000 in
theorem gX6_melt_X6_no : GoodIn wsX6_melt (wsV RX6 67 RX6 yX6_no wsX6_no) := goodIn_app (goodIn_of _ (by decide +kernel)) ggX6_melt_X6_no
set_option maxRecDepth 20000 in
theorem ggX6_melt_X4_isThere : GoodIn wsX6_melt wsX4_isThere := goodIn_r _ [22, 23, 56, 57, 58, 59, 60, 61, 62] (by decide +kernel) (by decide +kernel)
set_option maxRecDepth 20000 in
theorem gX6_melt_X4_isThere : GoodIn wsX6_melt (wsV RX6 180 RX4 yX4_isThere wsX4_isThere) := goodIn_app (goodIn_of _ (by decide +kernel)) ggX6_melt_X4_isThere
set_option maxRecDepth 20000 in
theorem ggX6_melt_X6_within : GoodIn wsX6_melt wsX6_within := goodIn_r _ [12] (by decide +kernel) (by decide +kernel)
set_option maxRecDepth 20000 in
theorem gX6_melt_X6_within : GoodIn wsX6_melt (va_wsS RX6 61 yX6_within wsX6_within) := goodIn_app (goodIn_of _ (by decide +kernel)) ggX6_melt_X6_within
set_option maxRecDepth 20000 in
theorem ggX6_melt_X4_fuse : GoodIn wsX6_melt wsX4_fuse := goodIn_r _ [27, 23, 28, 29, 30, 31, 32, 33, 34, 35, 36, 21, 37, 38, 39, 40, 41, 42, 43, 44, 45, 46, 56, 57, 58, 59, 60, 61, 62] (by decide +kernel) (by decide +kernel)
set_option maxRecDepth 20000 in
theorem gX6_melt_X4_fuse : GoodIn wsX6_melt (wsV RX6 219 RX4 yX4_fuse wsX4_fuse) := goodIn_app (goodIn_of _ (by decide +kernel)) ggX6_melt_X4_fuse
set_option maxRecDepth 20000 in
theorem ggX6_melt_X6_yes : GoodIn wsX6_melt wsX6_yes := goodIn_r _ [50, 17, 63, 64, 65, 66, 67, 68] (by decide +kernel) (by decide +kernel)
set_option maxRecDepth 20000 in
theorem gX6_melt_X6_yes : GoodIn wsX6_melt (wsV RX6 75 RX6 yX6_yes wsX6_yes) := goodIn_app (goodIn_of _ (by decide +kernel)) ggX6_melt_X6_yes
theorem dX6_melt_0 : decode cX6_melt 0 = .ok (.aload_n 0, 1) := by decide +kernel
theorem dX6_melt_1 : decode cX6_melt 1 = .ok (.iload_n 1, 1) := by decide +kernel
theorem dX6_melt_2 : decode cX6_melt 2 = .ok (.invokevirtual 108, 3) := by decide +kernel
theorem dX6_melt_5 : decode cX6_melt 5 = .ok (.astore_n 3, 1) := by decide +kernel
theorem dX6_melt_6 : decode cX6_melt 6 = .ok (.aload_n 3, 1) := by decide +kernel
theorem dX6_melt_7 : decode cX6_melt 7 = .ok (.ifnonnull 9, 3) := by decide +kernel
theorem dX6_melt_10 : decode cX6_melt 10 = .ok (.aload_n 0, 1) := by decide +kernel
theorem dX6_melt_11 : decode cX6_melt 11 = .ok (.iconst 1, 1) := by decide +kernel
theorem dX6_melt_12 : decode cX6_melt 12 = .ok (.invokevirtual 67, 3) := by decide +kernel
theorem dX6_melt_15 : decode cX6_melt 15 = .ok (.ireturn, 1) := by decide +kernel
theorem dX6_melt_16 : decode cX6_melt 16 = .ok (.aload_n 3, 1) := by decide +kernel
theorem dX6_melt_17 : decode cX6_melt 17 = .ok (.getfield 151, 3) := by decide +kernel
theorem dX6_melt_20 : decode cX6_melt 20 = .ok (.invokevirtual 180, 3) := by decide +kernel
theorem dX6_melt_23 : decode cX6_melt 23 = .ok (.ifCond .ne 9, 3) := by decide +kernel
theorem dX6_melt_26 : decode cX6_melt 26 = .ok (.aload_n 0, 1) := by decide +kernel
theorem dX6_melt_27 : decode cX6_melt 27 = .ok (.iconst 5, 1) := by decide +kernel
theorem dX6_melt_28 : decode cX6_melt 28 = .ok (.invokevirtual 67, 3) := by decide +kernel
theorem dX6_melt_31 : decode cX6_melt 31 = .ok (.ireturn, 1) := by decide +kernel
theorem dX6_melt_32 : decode cX6_melt 32 = .ok (.iload_n 2, 1) := by decide +kernel
theorem dX6_melt_33 : decode cX6_melt 33 = .ok (.i2l, 1) := by decide +kernel
theorem dX6_melt_34 : decode cX6_melt 34 = .ok (.lconst 0, 1) := by decide +kernel
theorem dX6_melt_35 : decode cX6_melt 35 = .ok (.aload_n 3, 1) := by decide +kernel
theorem dX6_melt_36 : decode cX6_melt 36 = .ok (.getfield 151, 3) := by decide +kernel
theorem dX6_melt_39 : decode cX6_melt 39 = .ok (.getfield 183, 3) := by decide +kernel
theorem dX6_melt_42 : decode cX6_melt 42 = .ok (.iconst 2, 1) := by decide +kernel
theorem dX6_melt_43 : decode cX6_melt 43 = .ok (.isub, 1) := by decide +kernel
theorem dX6_melt_44 : decode cX6_melt 44 = .ok (.i2l, 1) := by decide +kernel
theorem dX6_melt_45 : decode cX6_melt 45 = .ok (.invokestatic 61, 3) := by decide +kernel
theorem dX6_melt_48 : decode cX6_melt 48 = .ok (.ifCond .ne 10, 3) := by decide +kernel
theorem dX6_melt_51 : decode cX6_melt 51 = .ok (.aload_n 0, 1) := by decide +kernel
theorem dX6_melt_52 : decode cX6_melt 52 = .ok (.bipush 6, 2) := by decide +kernel
theorem dX6_melt_54 : decode cX6_melt 54 = .ok (.invokevirtual 67, 3) := by decide +kernel
theorem dX6_melt_57 : decode cX6_melt 57 = .ok (.ireturn, 1) := by decide +kernel
theorem dX6_melt_58 : decode cX6_melt 58 = .ok (.aload_n 3, 1) := by decide +kernel
theorem dX6_melt_59 : decode cX6_melt 59 = .ok (.getfield 151, 3) := by decide +kernel
theorem dX6_melt_62 : decode cX6_melt 62 = .ok (.iload_n 2, 1) := by decide +kernel
theorem dX6_melt_63 : decode cX6_melt 63 = .ok (.invokevirtual 219, 3) := by decide +kernel
theorem dX6_melt_66 : decode cX6_melt 66 = .ok (.aload_n 0, 1) := by decide +kernel
theorem dX6_melt_67 : decode cX6_melt 67 = .ok (.invokevirtual 75, 3) := by decide +kernel
theorem dX6_melt_70 : decode cX6_melt 70 = .ok (.ireturn, 1) := by decide +kernel
set_option maxRecDepth 20000 in
theorem ggX6_keep_X6_columnAt : GoodIn wsX6_keep wsX6_columnAt := goodIn_r _ [6, 7, 8, 9, 10, 5, 11, 102, 103, 104, 105, 106, 107] (by decide +kernel) (by decide +kernel)
set_option maxRecDepth 20000 in
theorem gX6_keep_X6_columnAt : GoodIn wsX6_keep (wsV RX6 108 RX6 yX6_columnAt wsX6_columnAt) := goodIn_app (goodIn_of _ (by decide +kernel)) ggX6_keep_X6_columnAt
set_option maxRecDepth 20000 in
theorem ggX6_keep_X6_none : GoodIn wsX6_keep wsX6_none := goodIn_r _ [15, 16, 102, 103, 104, 105, 106, 107] (by decide +kernel) (by decide +kernel)
set_option maxRecDepth 20000 in
theorem gX6_keep_X6_none : GoodIn wsX6_keep (wsV RX6 95 RX6 yX6_none wsX6_none) := goodIn_app (goodIn_of _ (by decide +kernel)) ggX6_keep_X6_none
set_option maxRecDepth 20000 in
theorem ggX6_keep_X4_isThere : GoodIn wsX6_keep wsX4_isThere := goodIn_r _ [21, 22, 108, 109, 110, 111, 112, 113, 114] (by decide +kernel) (by decide +kernel)
set_option maxRecDepth 20000 in
theorem gX6_keep_X4_isThere : GoodIn wsX6_keep (wsV RX6 180 RX4 yX4_isThere wsX4_isThere) := goodIn_app (goodIn_of _ (by decide +kernel)) ggX6_keep_X4_isThere
set_option maxRecDepth 20000 in
theorem ggX6_keep_X4_rebalance : GoodIn wsX6_keep wsX4_rebalance := goodIn_r _ [26, 27, 28, 29, 30, 20, 31, 22, 32, 33, 34, 35, 36, 37, 38, 39, 40, 41, 42, 43, 44, 45, 46, 47, 48, 49, 50, 51, 52, 53, 54, 55, 56, 57, 58, 59, 60, 61, 62, 63, 64, 65, 66, 67, 68, 69, 70, 71, 72, 73, 74, 75, 76, 77, 78, 79, 80, 81, 82, 83, 84, 85, 86, 87, 88, 89, 90, 91, 92, 108, 109, 110, 111, 112, 113, 114] (by decide +kernel) (by decide +kernel)
set_option maxRecDepth 20000 in
theorem gX6_keep_X4_rebalance : GoodIn wsX6_keep (wsV RX6 223 RX4 yX4_rebalance wsX4_rebalance) := goodIn_app (goodIn_of _ (by decide +kernel)) ggX6_keep_X4_rebalance
set_option maxRecDepth 20000 in
theorem ggX6_keep_X6_told : GoodIn wsX6_keep wsX6_told := goodIn_r _ [96, 16, 102, 103, 104, 105, 106, 107] (by decide +kernel) (by decide +kernel)
set_option maxRecDepth 20000 in
theorem gX6_keep_X6_told : GoodIn wsX6_keep (wsV RX6 136 RX6 yX6_told wsX6_told) := goodIn_app (goodIn_of _ (by decide +kernel)) ggX6_keep_X6_told
theorem dX6_keep_0 : decode cX6_keep 0 = .ok (.aload_n 0, 1) := by decide +kernel
theorem dX6_keep_1 : decode cX6_keep 1 = .ok (.iload_n 1, 1) := by decide +kernel
theorem dX6_keep_2 : decode cX6_keep 2 = .ok (.invokevirtual 108, 3) := by decide +kernel
theorem dX6_keep_5 : decode cX6_keep 5 = .ok (.astore_n 2, 1) := by decide +kernel
theorem dX6_keep_6 : decode cX6_keep 6 = .ok (.aload_n 2, 1) := by decide +kernel
theorem dX6_keep_7 : decode cX6_keep 7 = .ok (.ifnonnull 9, 3) := by decide +kernel
theorem dX6_keep_10 : decode cX6_keep 10 = .ok (.aload_n 0, 1) := by decide +kernel
theorem dX6_keep_11 : decode cX6_keep 11 = .ok (.iconst 1, 1) := by decide +kernel
theorem dX6_keep_12 : decode cX6_keep 12 = .ok (.invokevirtual 95, 3) := by decide +kernel
theorem dX6_keep_15 : decode cX6_keep 15 = .ok (.ireturn, 1) := by decide +kernel
theorem dX6_keep_16 : decode cX6_keep 16 = .ok (.aload_n 2, 1) := by decide +kernel
theorem dX6_keep_17 : decode cX6_keep 17 = .ok (.getfield 151, 3) := by decide +kernel
theorem dX6_keep_20 : decode cX6_keep 20 = .ok (.invokevirtual 180, 3) := by decide +kernel
theorem dX6_keep_23 : decode cX6_keep 23 = .ok (.ifCond .ne 9, 3) := by decide +kernel
theorem dX6_keep_26 : decode cX6_keep 26 = .ok (.aload_n 0, 1) := by decide +kernel
theorem dX6_keep_27 : decode cX6_keep 27 = .ok (.iconst 5, 1) := by decide +kernel
theorem dX6_keep_28 : decode cX6_keep 28 = .ok (.invokevirtual 95, 3) := by decide +kernel
theorem dX6_keep_31 : decode cX6_keep 31 = .ok (.ireturn, 1) := by decide +kernel
theorem dX6_keep_32 : decode cX6_keep 32 = .ok (.aload_n 0, 1) := by decide +kernel
theorem dX6_keep_33 : decode cX6_keep 33 = .ok (.aload_n 2, 1) := by decide +kernel
theorem dX6_keep_34 : decode cX6_keep 34 = .ok (.getfield 151, 3) := by decide +kernel
theorem dX6_keep_37 : decode cX6_keep 37 = .ok (.invokevirtual 223, 3) := by decide +kernel
theorem dX6_keep_40 : decode cX6_keep 40 = .ok (.ifCond .eq 7, 3) := by decide +kernel
theorem dX6_keep_43 : decode cX6_keep 43 = .ok (.iconst 1, 1) := by decide +kernel
theorem dX6_keep_44 : decode cX6_keep 44 = .ok (.goto 4, 3) := by decide +kernel
theorem dX6_keep_47 : decode cX6_keep 47 = .ok (.iconst 0, 1) := by decide +kernel
theorem dX6_keep_48 : decode cX6_keep 48 = .ok (.invokevirtual 136, 3) := by decide +kernel
theorem dX6_keep_51 : decode cX6_keep 51 = .ok (.ireturn, 1) := by decide +kernel
set_option maxRecDepth 20000 in
theorem ggX6_together_X6_columnAt : GoodIn wsX6_together wsX6_columnAt := goodIn_r _ [9, 10, 11, 12, 13, 8, 14, 127, 128, 129, 130, 131, 132] (by decide +kernel) (by decide +kernel)
set_option maxRecDepth 20000 in
theorem gX6_together_X6_columnAt : GoodIn wsX6_together (wsV RX6 108 RX6 yX6_columnAt wsX6_columnAt) := goodIn_app (goodIn_of _ (by decide +kernel)) ggX6_together_X6_columnAt
set_option maxRecDepth 20000 in
theorem ggX6_together_X6_none : GoodIn wsX6_together wsX6_none := goodIn_r _ [18, 19, 127, 128, 129, 130, 131, 132] (by decide +kernel) (by decide +kernel)
set_option maxRecDepth 20000 in
theorem gX6_together_X6_none : GoodIn wsX6_together (wsV RX6 95 RX6 yX6_none wsX6_none) := goodIn_app (goodIn_of _ (by decide +kernel)) ggX6_together_X6_none
set_option maxRecDepth 20000 in
theorem ggX6_together_X4_isThere : GoodIn wsX6_together wsX4_isThere := goodIn_r _ [24, 25, 133, 134, 135, 136, 137, 138, 139] (by decide +kernel) (by decide +kernel)
set_option maxRecDepth 20000 in
theorem gX6_together_X4_isThere : GoodIn wsX6_together (wsV RX6 180 RX4 yX4_isThere wsX4_isThere) := goodIn_app (goodIn_of _ (by decide +kernel)) ggX6_together_X4_isThere
set_option maxRecDepth 20000 in
theorem ggX6_together_X4_weight : GoodIn wsX6_together wsX4_weight := goodIn_r _ [29, 30, 31, 32, 23, 33, 25, 34, 35, 36, 37, 38, 39, 40, 41, 42, 43, 44, 45, 46, 47, 48, 49, 133, 134, 135, 136, 137, 138, 139] (by decide +kernel) (by decide +kernel)
set_option maxRecDepth 20000 in
theorem gX6_together_X4_weight : GoodIn wsX6_together (wsV RX6 226 RX4 yX4_weight wsX4_weight) := goodIn_app (goodIn_of _ (by decide +kernel)) ggX6_together_X4_weight
set_option maxRecDepth 20000 in
theorem ggX6_together_X4_copyOf : GoodIn wsX6_together wsX4_copyOf := goodIn_r _ [53, 25, 54, 55, 56, 57, 58, 59, 34, 39, 49, 48, 133, 134, 135, 136, 137, 138, 139] (by decide +kernel) (by decide +kernel)
set_option maxRecDepth 20000 in
theorem gX6_together_X4_copyOf : GoodIn wsX6_together (wsV RX6 230 RX4 yX4_copyOf wsX4_copyOf) := goodIn_app (goodIn_of _ (by decide +kernel)) ggX6_together_X4_copyOf
set_option maxRecDepth 20000 in
theorem ggX6_together_X4_takeIn : GoodIn wsX6_together wsX4_takeIn := goodIn_r _ [63, 25, 34, 39, 54, 64, 65, 66, 23, 67, 55, 68, 69, 70, 71, 72, 73, 74, 75, 76, 77, 78, 79, 80, 81, 82, 83, 44, 45, 46, 47, 48, 84, 85, 86, 87, 56, 57, 58, 59, 88, 89, 90, 91, 92, 93, 94, 95, 96, 97, 98, 99, 100, 101, 102, 103, 104, 105, 106, 107, 108, 109, 49, 110, 111, 112, 113, 114, 115, 116, 117, 133, 134, 135, 136, 137, 138, 139] (by decide +kernel) (by decide +kernel)
set_option maxRecDepth 20000 in
theorem gX6_together_X4_takeIn : GoodIn wsX6_together (wsV RX6 234 RX4 yX4_takeIn wsX4_takeIn) := goodIn_app (goodIn_of _ (by decide +kernel)) ggX6_together_X4_takeIn
set_option maxRecDepth 20000 in
theorem ggX6_together_X6_told : GoodIn wsX6_together wsX6_told := goodIn_r _ [121, 19, 127, 128, 129, 130, 131, 132] (by decide +kernel) (by decide +kernel)
set_option maxRecDepth 20000 in
theorem gX6_together_X6_told : GoodIn wsX6_together (wsV RX6 136 RX6 yX6_told wsX6_told) := goodIn_app (goodIn_of _ (by decide +kernel)) ggX6_together_X6_told
theorem dX6_together_0 : decode cX6_together 0 = .ok (.aload_n 0, 1) := by decide +kernel
theorem dX6_together_1 : decode cX6_together 1 = .ok (.iload_n 1, 1) := by decide +kernel
theorem dX6_together_2 : decode cX6_together 2 = .ok (.invokevirtual 108, 3) := by decide +kernel
theorem dX6_together_5 : decode cX6_together 5 = .ok (.astore_n 3, 1) := by decide +kernel
theorem dX6_together_6 : decode cX6_together 6 = .ok (.aload_n 0, 1) := by decide +kernel
theorem dX6_together_7 : decode cX6_together 7 = .ok (.iload_n 2, 1) := by decide +kernel
theorem dX6_together_8 : decode cX6_together 8 = .ok (.invokevirtual 108, 3) := by decide +kernel
theorem dX6_together_11 : decode cX6_together 11 = .ok (.astore 4, 2) := by decide +kernel
theorem dX6_together_13 : decode cX6_together 13 = .ok (.aload_n 3, 1) := by decide +kernel
theorem dX6_together_14 : decode cX6_together 14 = .ok (.ifnull 13, 3) := by decide +kernel
theorem dX6_together_17 : decode cX6_together 17 = .ok (.aload 4, 2) := by decide +kernel
theorem dX6_together_19 : decode cX6_together 19 = .ok (.ifnull 8, 3) := by decide +kernel
theorem dX6_together_22 : decode cX6_together 22 = .ok (.iload_n 1, 1) := by decide +kernel
theorem dX6_together_23 : decode cX6_together 23 = .ok (.iload_n 2, 1) := by decide +kernel
theorem dX6_together_24 : decode cX6_together 24 = .ok (.if_icmp .ne 9, 3) := by decide +kernel
theorem dX6_together_27 : decode cX6_together 27 = .ok (.aload_n 0, 1) := by decide +kernel
theorem dX6_together_28 : decode cX6_together 28 = .ok (.iconst 1, 1) := by decide +kernel
theorem dX6_together_29 : decode cX6_together 29 = .ok (.invokevirtual 95, 3) := by decide +kernel
theorem dX6_together_32 : decode cX6_together 32 = .ok (.ireturn, 1) := by decide +kernel
theorem dX6_together_33 : decode cX6_together 33 = .ok (.aload_n 3, 1) := by decide +kernel
theorem dX6_together_34 : decode cX6_together 34 = .ok (.getfield 151, 3) := by decide +kernel
theorem dX6_together_37 : decode cX6_together 37 = .ok (.invokevirtual 180, 3) := by decide +kernel
theorem dX6_together_40 : decode cX6_together 40 = .ok (.ifCond .eq 14, 3) := by decide +kernel
theorem dX6_together_43 : decode cX6_together 43 = .ok (.aload 4, 2) := by decide +kernel
theorem dX6_together_45 : decode cX6_together 45 = .ok (.getfield 151, 3) := by decide +kernel
theorem dX6_together_48 : decode cX6_together 48 = .ok (.invokevirtual 180, 3) := by decide +kernel
theorem dX6_together_51 : decode cX6_together 51 = .ok (.ifCond .ne 9, 3) := by decide +kernel
theorem dX6_together_54 : decode cX6_together 54 = .ok (.aload_n 0, 1) := by decide +kernel
theorem dX6_together_55 : decode cX6_together 55 = .ok (.iconst 5, 1) := by decide +kernel
theorem dX6_together_56 : decode cX6_together 56 = .ok (.invokevirtual 95, 3) := by decide +kernel
theorem dX6_together_59 : decode cX6_together 59 = .ok (.ireturn, 1) := by decide +kernel
theorem dX6_together_60 : decode cX6_together 60 = .ok (.aload_n 3, 1) := by decide +kernel
theorem dX6_together_61 : decode cX6_together 61 = .ok (.getfield 151, 3) := by decide +kernel
theorem dX6_together_64 : decode cX6_together 64 = .ok (.invokevirtual 226, 3) := by decide +kernel
theorem dX6_together_67 : decode cX6_together 67 = .ok (.aload 4, 2) := by decide +kernel
theorem dX6_together_69 : decode cX6_together 69 = .ok (.getfield 151, 3) := by decide +kernel
theorem dX6_together_72 : decode cX6_together 72 = .ok (.invokevirtual 226, 3) := by decide +kernel
theorem dX6_together_75 : decode cX6_together 75 = .ok (.iadd, 1) := by decide +kernel
theorem dX6_together_76 : decode cX6_together 76 = .ok (.ldc 229, 2) := by decide +kernel
theorem dX6_together_78 : decode cX6_together 78 = .ok (.if_icmp .le 9, 3) := by decide +kernel
theorem dX6_together_81 : decode cX6_together 81 = .ok (.aload_n 0, 1) := by decide +kernel
theorem dX6_together_82 : decode cX6_together 82 = .ok (.iconst 4, 1) := by decide +kernel
theorem dX6_together_83 : decode cX6_together 83 = .ok (.invokevirtual 95, 3) := by decide +kernel
theorem dX6_together_86 : decode cX6_together 86 = .ok (.ireturn, 1) := by decide +kernel
theorem dX6_together_87 : decode cX6_together 87 = .ok (.aload_n 0, 1) := by decide +kernel
theorem dX6_together_88 : decode cX6_together 88 = .ok (.getfield 31, 3) := by decide +kernel
theorem dX6_together_91 : decode cX6_together 91 = .ok (.aload 4, 2) := by decide +kernel
theorem dX6_together_93 : decode cX6_together 93 = .ok (.getfield 151, 3) := by decide +kernel
theorem dX6_together_96 : decode cX6_together 96 = .ok (.invokevirtual 230, 3) := by decide +kernel
theorem dX6_together_99 : decode cX6_together 99 = .ok (.aload_n 3, 1) := by decide +kernel
theorem dX6_together_100 : decode cX6_together 100 = .ok (.getfield 151, 3) := by decide +kernel
theorem dX6_together_103 : decode cX6_together 103 = .ok (.aload_n 0, 1) := by decide +kernel
theorem dX6_together_104 : decode cX6_together 104 = .ok (.getfield 31, 3) := by decide +kernel
theorem dX6_together_107 : decode cX6_together 107 = .ok (.invokevirtual 234, 3) := by decide +kernel
theorem dX6_together_110 : decode cX6_together 110 = .ok (.aload_n 0, 1) := by decide +kernel
theorem dX6_together_111 : decode cX6_together 111 = .ok (.aload_n 3, 1) := by decide +kernel
theorem dX6_together_112 : decode cX6_together 112 = .ok (.getfield 151, 3) := by decide +kernel
theorem dX6_together_115 : decode cX6_together 115 = .ok (.getfield 183, 3) := by decide +kernel
theorem dX6_together_118 : decode cX6_together 118 = .ok (.invokevirtual 136, 3) := by decide +kernel
theorem dX6_together_121 : decode cX6_together 121 = .ok (.ireturn, 1) := by decide +kernel
set_option maxRecDepth 20000 in
theorem ggX6_drifts_X6_columnAt : GoodIn wsX6_drifts wsX6_columnAt := goodIn_r _ [7, 8, 9, 10, 11, 6, 12, 40, 41, 42, 43, 44, 45] (by decide +kernel) (by decide +kernel)
set_option maxRecDepth 20000 in
theorem gX6_drifts_X6_columnAt : GoodIn wsX6_drifts (wsV RX6 108 RX6 yX6_columnAt wsX6_columnAt) := goodIn_app (goodIn_of _ (by decide +kernel)) ggX6_drifts_X6_columnAt
set_option maxRecDepth 20000 in
theorem ggX6_drifts_X6_none : GoodIn wsX6_drifts wsX6_none := goodIn_r _ [16, 17, 40, 41, 42, 43, 44, 45] (by decide +kernel) (by decide +kernel)
set_option maxRecDepth 20000 in
theorem gX6_drifts_X6_none : GoodIn wsX6_drifts (wsV RX6 95 RX6 yX6_none wsX6_none) := goodIn_app (goodIn_of _ (by decide +kernel)) ggX6_drifts_X6_none
set_option maxRecDepth 20000 in
theorem ggX6_drifts_X4_isThere : GoodIn wsX6_drifts wsX4_isThere := goodIn_r _ [22, 23, 33, 34, 35, 36, 37, 38, 39] (by decide +kernel) (by decide +kernel)
set_option maxRecDepth 20000 in
theorem gX6_drifts_X4_isThere : GoodIn wsX6_drifts (wsV RX6 180 RX4 yX4_isThere wsX4_isThere) := goodIn_app (goodIn_of _ (by decide +kernel)) ggX6_drifts_X4_isThere
set_option maxRecDepth 20000 in
theorem ggX6_drifts_X6_told : GoodIn wsX6_drifts wsX6_told := goodIn_r _ [27, 17, 40, 41, 42, 43, 44, 45] (by decide +kernel) (by decide +kernel)
set_option maxRecDepth 20000 in
theorem gX6_drifts_X6_told : GoodIn wsX6_drifts (wsV RX6 136 RX6 yX6_told wsX6_told) := goodIn_app (goodIn_of _ (by decide +kernel)) ggX6_drifts_X6_told
theorem dX6_drifts_0 : decode cX6_drifts 0 = .ok (.aload_n 0, 1) := by decide +kernel
theorem dX6_drifts_1 : decode cX6_drifts 1 = .ok (.iload_n 1, 1) := by decide +kernel
theorem dX6_drifts_2 : decode cX6_drifts 2 = .ok (.invokevirtual 108, 3) := by decide +kernel
theorem dX6_drifts_5 : decode cX6_drifts 5 = .ok (.astore_n 2, 1) := by decide +kernel
theorem dX6_drifts_6 : decode cX6_drifts 6 = .ok (.aload_n 2, 1) := by decide +kernel
theorem dX6_drifts_7 : decode cX6_drifts 7 = .ok (.ifnonnull 9, 3) := by decide +kernel
theorem dX6_drifts_10 : decode cX6_drifts 10 = .ok (.aload_n 0, 1) := by decide +kernel
theorem dX6_drifts_11 : decode cX6_drifts 11 = .ok (.iconst 1, 1) := by decide +kernel
theorem dX6_drifts_12 : decode cX6_drifts 12 = .ok (.invokevirtual 95, 3) := by decide +kernel
theorem dX6_drifts_15 : decode cX6_drifts 15 = .ok (.ireturn, 1) := by decide +kernel
theorem dX6_drifts_16 : decode cX6_drifts 16 = .ok (.aload_n 2, 1) := by decide +kernel
theorem dX6_drifts_17 : decode cX6_drifts 17 = .ok (.getfield 151, 3) := by decide +kernel
theorem dX6_drifts_20 : decode cX6_drifts 20 = .ok (.invokevirtual 180, 3) := by decide +kernel
theorem dX6_drifts_23 : decode cX6_drifts 23 = .ok (.ifCond .ne 9, 3) := by decide +kernel
theorem dX6_drifts_26 : decode cX6_drifts 26 = .ok (.aload_n 0, 1) := by decide +kernel
theorem dX6_drifts_27 : decode cX6_drifts 27 = .ok (.iconst 5, 1) := by decide +kernel
theorem dX6_drifts_28 : decode cX6_drifts 28 = .ok (.invokevirtual 95, 3) := by decide +kernel
theorem dX6_drifts_31 : decode cX6_drifts 31 = .ok (.ireturn, 1) := by decide +kernel
theorem dX6_drifts_32 : decode cX6_drifts 32 = .ok (.aload_n 0, 1) := by decide +kernel
theorem dX6_drifts_33 : decode cX6_drifts 33 = .ok (.aload_n 2, 1) := by decide +kernel
theorem dX6_drifts_34 : decode cX6_drifts 34 = .ok (.getfield 151, 3) := by decide +kernel
theorem dX6_drifts_37 : decode cX6_drifts 37 = .ok (.getfield 237, 3) := by decide +kernel
theorem dX6_drifts_40 : decode cX6_drifts 40 = .ok (.invokevirtual 136, 3) := by decide +kernel
theorem dX6_drifts_43 : decode cX6_drifts 43 = .ok (.ireturn, 1) := by decide +kernel
set_option maxRecDepth 20000 in
theorem ggX6_guess_X6_columnAt : GoodIn wsX6_guess wsX6_columnAt := goodIn_r _ [7, 8, 9, 10, 11, 6, 12, 100, 101, 102, 103, 104, 105] (by decide +kernel) (by decide +kernel)
set_option maxRecDepth 20000 in
theorem gX6_guess_X6_columnAt : GoodIn wsX6_guess (wsV RX6 108 RX6 yX6_columnAt wsX6_columnAt) := goodIn_app (goodIn_of _ (by decide +kernel)) ggX6_guess_X6_columnAt
set_option maxRecDepth 20000 in
theorem ggX6_guess_X6_isQuestion : GoodIn wsX6_guess wsX6_isQuestion := goodIn_r _ [15, 16, 17, 6, 18, 19, 10, 11, 12] (by decide +kernel) (by decide +kernel)
set_option maxRecDepth 20000 in
theorem gX6_guess_X6_isQuestion : GoodIn wsX6_guess (va_wsS RX6 240 yX6_isQuestion wsX6_isQuestion) := goodIn_app (goodIn_of _ (by decide +kernel)) ggX6_guess_X6_isQuestion
set_option maxRecDepth 20000 in
theorem ggX6_guess_X6_none : GoodIn wsX6_guess wsX6_none := goodIn_r _ [23, 24, 100, 101, 102, 103, 104, 105] (by decide +kernel) (by decide +kernel)
set_option maxRecDepth 20000 in
theorem gX6_guess_X6_none : GoodIn wsX6_guess (wsV RX6 95 RX6 yX6_none wsX6_none) := goodIn_app (goodIn_of _ (by decide +kernel)) ggX6_guess_X6_none
set_option maxRecDepth 20000 in
theorem ggX6_guess_X4_isThere : GoodIn wsX6_guess wsX4_isThere := goodIn_r _ [29, 30, 106, 107, 108, 109, 110, 111, 112] (by decide +kernel) (by decide +kernel)
set_option maxRecDepth 20000 in
theorem gX6_guess_X4_isThere : GoodIn wsX6_guess (wsV RX6 180 RX4 yX4_isThere wsX4_isThere) := goodIn_app (goodIn_of _ (by decide +kernel)) ggX6_guess_X4_isThere
set_option maxRecDepth 20000 in
theorem ggX6_guess_X4_guessInto : GoodIn wsX6_guess wsX4_guessInto := goodIn_r _ [34, 30, 35, 36, 37, 38, 28, 39, 40, 41, 42, 43, 44, 45, 46, 47, 48, 49, 50, 51, 52, 53, 54, 55, 56, 57, 58, 59, 60, 61, 62, 63, 64, 65, 66, 67, 68, 69, 70, 71, 72, 73, 74, 75, 76, 77, 78, 79, 80, 81, 82, 83, 84, 85, 86, 106, 107, 108, 109, 110, 111, 112, 113, 114] (by decide +kernel) (by decide +kernel)
set_option maxRecDepth 20000 in
theorem gX6_guess_X4_guessInto : GoodIn wsX6_guess (wsV RX6 243 RX4 yX4_guessInto wsX4_guessInto) := goodIn_app (goodIn_of _ (by decide +kernel)) ggX6_guess_X4_guessInto
set_option maxRecDepth 20000 in
theorem ggX6_guess_X1_sign : GoodIn wsX6_guess wsX1_sign := goodIn_r _ [90, 51, 113, 114] (by decide +kernel) (by decide +kernel)
set_option maxRecDepth 20000 in
theorem gX6_guess_X1_sign : GoodIn wsX6_guess (wsV RX6 247 RX1 yX1_sign wsX1_sign) := goodIn_app (goodIn_of _ (by decide +kernel)) ggX6_guess_X1_sign
set_option maxRecDepth 20000 in
theorem ggX6_guess_X6_told : GoodIn wsX6_guess wsX6_told := goodIn_r _ [94, 24, 100, 101, 102, 103, 104, 105] (by decide +kernel) (by decide +kernel)
set_option maxRecDepth 20000 in
theorem gX6_guess_X6_told : GoodIn wsX6_guess (wsV RX6 136 RX6 yX6_told wsX6_told) := goodIn_app (goodIn_of _ (by decide +kernel)) ggX6_guess_X6_told
theorem dX6_guess_0 : decode cX6_guess 0 = .ok (.aload_n 0, 1) := by decide +kernel
theorem dX6_guess_1 : decode cX6_guess 1 = .ok (.iload_n 1, 1) := by decide +kernel
theorem dX6_guess_2 : decode cX6_guess 2 = .ok (.invokevirtual 108, 3) := by decide +kernel
theorem dX6_guess_5 : decode cX6_guess 5 = .ok (.astore 4, 2) := by decide +kernel
theorem dX6_guess_7 : decode cX6_guess 7 = .ok (.aload 4, 2) := by decide +kernel
theorem dX6_guess_9 : decode cX6_guess 9 = .ok (.ifnull 11, 3) := by decide +kernel
theorem dX6_guess_12 : decode cX6_guess 12 = .ok (.iload_n 2, 1) := by decide +kernel
theorem dX6_guess_13 : decode cX6_guess 13 = .ok (.iload_n 3, 1) := by decide +kernel
theorem dX6_guess_14 : decode cX6_guess 14 = .ok (.invokestatic 240, 3) := by decide +kernel
theorem dX6_guess_17 : decode cX6_guess 17 = .ok (.ifCond .ne 9, 3) := by decide +kernel
theorem dX6_guess_20 : decode cX6_guess 20 = .ok (.aload_n 0, 1) := by decide +kernel
theorem dX6_guess_21 : decode cX6_guess 21 = .ok (.iconst 1, 1) := by decide +kernel
theorem dX6_guess_22 : decode cX6_guess 22 = .ok (.invokevirtual 95, 3) := by decide +kernel
theorem dX6_guess_25 : decode cX6_guess 25 = .ok (.ireturn, 1) := by decide +kernel
theorem dX6_guess_26 : decode cX6_guess 26 = .ok (.aload 4, 2) := by decide +kernel
theorem dX6_guess_28 : decode cX6_guess 28 = .ok (.getfield 151, 3) := by decide +kernel
theorem dX6_guess_31 : decode cX6_guess 31 = .ok (.invokevirtual 180, 3) := by decide +kernel
theorem dX6_guess_34 : decode cX6_guess 34 = .ok (.ifCond .ne 9, 3) := by decide +kernel
theorem dX6_guess_37 : decode cX6_guess 37 = .ok (.aload_n 0, 1) := by decide +kernel
theorem dX6_guess_38 : decode cX6_guess 38 = .ok (.iconst 5, 1) := by decide +kernel
theorem dX6_guess_39 : decode cX6_guess 39 = .ok (.invokevirtual 95, 3) := by decide +kernel
theorem dX6_guess_42 : decode cX6_guess 42 = .ok (.ireturn, 1) := by decide +kernel
theorem dX6_guess_43 : decode cX6_guess 43 = .ok (.aload 4, 2) := by decide +kernel
theorem dX6_guess_45 : decode cX6_guess 45 = .ok (.getfield 151, 3) := by decide +kernel
theorem dX6_guess_48 : decode cX6_guess 48 = .ok (.aload_n 0, 1) := by decide +kernel
theorem dX6_guess_49 : decode cX6_guess 49 = .ok (.getfield 38, 3) := by decide +kernel
theorem dX6_guess_52 : decode cX6_guess 52 = .ok (.iload_n 2, 1) := by decide +kernel
theorem dX6_guess_53 : decode cX6_guess 53 = .ok (.iload_n 3, 1) := by decide +kernel
theorem dX6_guess_54 : decode cX6_guess 54 = .ok (.invokevirtual 243, 3) := by decide +kernel
theorem dX6_guess_57 : decode cX6_guess 57 = .ok (.aload_n 0, 1) := by decide +kernel
theorem dX6_guess_58 : decode cX6_guess 58 = .ok (.aload_n 0, 1) := by decide +kernel
theorem dX6_guess_59 : decode cX6_guess 59 = .ok (.getfield 38, 3) := by decide +kernel
theorem dX6_guess_62 : decode cX6_guess 62 = .ok (.invokevirtual 247, 3) := by decide +kernel
theorem dX6_guess_65 : decode cX6_guess 65 = .ok (.invokevirtual 136, 3) := by decide +kernel
theorem dX6_guess_68 : decode cX6_guess 68 = .ok (.ireturn, 1) := by decide +kernel
set_option maxRecDepth 20000 in
theorem ggX6_bound_X6_columnAt : GoodIn wsX6_bound wsX6_columnAt := goodIn_r _ [6, 7, 8, 9, 10, 5, 11, 79, 80, 81, 82, 83, 84] (by decide +kernel) (by decide +kernel)
set_option maxRecDepth 20000 in
theorem gX6_bound_X6_columnAt : GoodIn wsX6_bound (wsV RX6 108 RX6 yX6_columnAt wsX6_columnAt) := goodIn_app (goodIn_of _ (by decide +kernel)) ggX6_bound_X6_columnAt
set_option maxRecDepth 20000 in
theorem ggX6_bound_X6_isQuestion : GoodIn wsX6_bound wsX6_isQuestion := goodIn_r _ [14, 15, 16, 5, 17, 18, 9, 10, 11] (by decide +kernel) (by decide +kernel)
set_option maxRecDepth 20000 in
theorem gX6_bound_X6_isQuestion : GoodIn wsX6_bound (va_wsS RX6 240 yX6_isQuestion wsX6_isQuestion) := goodIn_app (goodIn_of _ (by decide +kernel)) ggX6_bound_X6_isQuestion
set_option maxRecDepth 20000 in
theorem ggX6_bound_X6_none : GoodIn wsX6_bound wsX6_none := goodIn_r _ [22, 23, 79, 80, 81, 82, 83, 84] (by decide +kernel) (by decide +kernel)
set_option maxRecDepth 20000 in
theorem gX6_bound_X6_none : GoodIn wsX6_bound (wsV RX6 95 RX6 yX6_none wsX6_none) := goodIn_app (goodIn_of _ (by decide +kernel)) ggX6_bound_X6_none
set_option maxRecDepth 20000 in
theorem ggX6_bound_X4_isThere : GoodIn wsX6_bound wsX4_isThere := goodIn_r _ [28, 29, 85, 86, 87, 88, 89, 90, 91] (by decide +kernel) (by decide +kernel)
set_option maxRecDepth 20000 in
theorem gX6_bound_X4_isThere : GoodIn wsX6_bound (wsV RX6 180 RX4 yX4_isThere wsX4_isThere) := goodIn_app (goodIn_of _ (by decide +kernel)) ggX6_bound_X4_isThere
set_option maxRecDepth 20000 in
theorem ggX6_bound_X4_highOf : GoodIn wsX6_bound wsX4_highOf := goodIn_r _ [33, 29, 34, 35, 36, 37, 38, 39, 40, 41, 42, 27, 43, 44, 45, 46, 47, 48, 49, 50, 51, 52, 53, 54, 55, 56, 57, 58, 59, 60, 61, 85, 86, 87, 88, 89, 90, 91] (by decide +kernel) (by decide +kernel)
set_option maxRecDepth 20000 in
theorem gX6_bound_X4_highOf : GoodIn wsX6_bound (wsV RX6 250 RX4 yX4_highOf wsX4_highOf) := goodIn_app (goodIn_of _ (by decide +kernel)) ggX6_bound_X4_highOf
set_option maxRecDepth 20000 in
theorem ggX6_bound_X4_lowOf : GoodIn wsX6_bound wsX4_lowOf := goodIn_r _ [65, 29, 34, 35, 36, 37, 38, 39, 40, 41, 42, 27, 43, 44, 45, 46, 47, 48, 49, 50, 51, 52, 53, 54, 55, 56, 57, 58, 59, 60, 61, 66, 67, 68, 69, 85, 86, 87, 88, 89, 90, 91] (by decide +kernel) (by decide +kernel)
set_option maxRecDepth 20000 in
theorem gX6_bound_X4_lowOf : GoodIn wsX6_bound (wsV RX6 254 RX4 yX4_lowOf wsX4_lowOf) := goodIn_app (goodIn_of _ (by decide +kernel)) ggX6_bound_X4_lowOf
set_option maxRecDepth 20000 in
theorem ggX6_bound_X6_told : GoodIn wsX6_bound wsX6_told := goodIn_r _ [73, 23, 79, 80, 81, 82, 83, 84] (by decide +kernel) (by decide +kernel)
set_option maxRecDepth 20000 in
theorem gX6_bound_X6_told : GoodIn wsX6_bound (wsV RX6 136 RX6 yX6_told wsX6_told) := goodIn_app (goodIn_of _ (by decide +kernel)) ggX6_bound_X6_told
theorem dX6_bound_0 : decode cX6_bound 0 = .ok (.aload_n 0, 1) := by decide +kernel
theorem dX6_bound_1 : decode cX6_bound 1 = .ok (.iload_n 1, 1) := by decide +kernel
theorem dX6_bound_2 : decode cX6_bound 2 = .ok (.invokevirtual 108, 3) := by decide +kernel
theorem dX6_bound_5 : decode cX6_bound 5 = .ok (.astore 5, 2) := by decide +kernel
theorem dX6_bound_7 : decode cX6_bound 7 = .ok (.aload 5, 2) := by decide +kernel
theorem dX6_bound_9 : decode cX6_bound 9 = .ok (.ifnull 11, 3) := by decide +kernel
theorem dX6_bound_12 : decode cX6_bound 12 = .ok (.iload_n 2, 1) := by decide +kernel
theorem dX6_bound_13 : decode cX6_bound 13 = .ok (.iload_n 3, 1) := by decide +kernel
theorem dX6_bound_14 : decode cX6_bound 14 = .ok (.invokestatic 240, 3) := by decide +kernel
theorem dX6_bound_17 : decode cX6_bound 17 = .ok (.ifCond .ne 9, 3) := by decide +kernel
theorem dX6_bound_20 : decode cX6_bound 20 = .ok (.aload_n 0, 1) := by decide +kernel
theorem dX6_bound_21 : decode cX6_bound 21 = .ok (.iconst 1, 1) := by decide +kernel
theorem dX6_bound_22 : decode cX6_bound 22 = .ok (.invokevirtual 95, 3) := by decide +kernel
theorem dX6_bound_25 : decode cX6_bound 25 = .ok (.ireturn, 1) := by decide +kernel
theorem dX6_bound_26 : decode cX6_bound 26 = .ok (.aload 5, 2) := by decide +kernel
theorem dX6_bound_28 : decode cX6_bound 28 = .ok (.getfield 151, 3) := by decide +kernel
theorem dX6_bound_31 : decode cX6_bound 31 = .ok (.invokevirtual 180, 3) := by decide +kernel
theorem dX6_bound_34 : decode cX6_bound 34 = .ok (.ifCond .ne 9, 3) := by decide +kernel
theorem dX6_bound_37 : decode cX6_bound 37 = .ok (.aload_n 0, 1) := by decide +kernel
theorem dX6_bound_38 : decode cX6_bound 38 = .ok (.iconst 5, 1) := by decide +kernel
theorem dX6_bound_39 : decode cX6_bound 39 = .ok (.invokevirtual 95, 3) := by decide +kernel
theorem dX6_bound_42 : decode cX6_bound 42 = .ok (.ireturn, 1) := by decide +kernel
theorem dX6_bound_43 : decode cX6_bound 43 = .ok (.aload_n 0, 1) := by decide +kernel
theorem dX6_bound_44 : decode cX6_bound 44 = .ok (.iload 4, 2) := by decide +kernel
theorem dX6_bound_46 : decode cX6_bound 46 = .ok (.ifCond .eq 16, 3) := by decide +kernel
theorem dX6_bound_49 : decode cX6_bound 49 = .ok (.aload 5, 2) := by decide +kernel
theorem dX6_bound_51 : decode cX6_bound 51 = .ok (.getfield 151, 3) := by decide +kernel
theorem dX6_bound_54 : decode cX6_bound 54 = .ok (.iload_n 2, 1) := by decide +kernel
theorem dX6_bound_55 : decode cX6_bound 55 = .ok (.iload_n 3, 1) := by decide +kernel
theorem dX6_bound_56 : decode cX6_bound 56 = .ok (.invokevirtual 250, 3) := by decide +kernel
theorem dX6_bound_59 : decode cX6_bound 59 = .ok (.goto 13, 3) := by decide +kernel
theorem dX6_bound_62 : decode cX6_bound 62 = .ok (.aload 5, 2) := by decide +kernel
theorem dX6_bound_64 : decode cX6_bound 64 = .ok (.getfield 151, 3) := by decide +kernel
theorem dX6_bound_67 : decode cX6_bound 67 = .ok (.iload_n 2, 1) := by decide +kernel
theorem dX6_bound_68 : decode cX6_bound 68 = .ok (.iload_n 3, 1) := by decide +kernel
theorem dX6_bound_69 : decode cX6_bound 69 = .ok (.invokevirtual 254, 3) := by decide +kernel
theorem dX6_bound_72 : decode cX6_bound 72 = .ok (.invokevirtual 136, 3) := by decide +kernel
theorem dX6_bound_75 : decode cX6_bound 75 = .ok (.ireturn, 1) := by decide +kernel
set_option maxRecDepth 20000 in
theorem ggX6_join_X6_columnAt : GoodIn wsX6_join wsX6_columnAt := goodIn_r _ [7, 8, 9, 10, 11, 6, 12, 94, 95, 96, 97, 98, 99] (by decide +kernel) (by decide +kernel)
set_option maxRecDepth 20000 in
theorem gX6_join_X6_columnAt : GoodIn wsX6_join (wsV RX6 108 RX6 yX6_columnAt wsX6_columnAt) := goodIn_app (goodIn_of _ (by decide +kernel)) ggX6_join_X6_columnAt
set_option maxRecDepth 20000 in
theorem ggX6_join_X6_none : GoodIn wsX6_join wsX6_none := goodIn_r _ [16, 17, 94, 95, 96, 97, 98, 99] (by decide +kernel) (by decide +kernel)
set_option maxRecDepth 20000 in
theorem gX6_join_X6_none : GoodIn wsX6_join (wsV RX6 95 RX6 yX6_none wsX6_none) := goodIn_app (goodIn_of _ (by decide +kernel)) ggX6_join_X6_none
set_option maxRecDepth 20000 in
theorem ggX6_join_X4_isThere : GoodIn wsX6_join wsX4_isThere := goodIn_r _ [22, 23, 100, 101, 102, 103, 104, 105, 106] (by decide +kernel) (by decide +kernel)
set_option maxRecDepth 20000 in
theorem gX6_join_X4_isThere : GoodIn wsX6_join (wsV RX6 180 RX4 yX4_isThere wsX4_isThere) := goodIn_app (goodIn_of _ (by decide +kernel)) ggX6_join_X4_isThere
set_option maxRecDepth 20000 in
theorem ggX6_join_X4_joinInto : GoodIn wsX6_join wsX4_joinInto := goodIn_r _ [27, 28, 29, 30, 31, 32, 33, 34, 35, 36, 37, 38, 39, 40, 41, 42, 43, 44, 45, 46, 47, 21, 48, 49, 50, 51, 52, 53, 54, 55, 23, 56, 57, 58, 59, 60, 61, 62, 63, 64, 65, 66, 67, 68, 69, 70, 71, 72, 73, 74, 75, 76, 77, 78, 79, 80, 107, 108, 100, 101, 102, 103, 104, 105, 106] (by decide +kernel) (by decide +kernel)
set_option maxRecDepth 20000 in
theorem gX6_join_X4_joinInto : GoodIn wsX6_join (wsV RX6 257 RX4 yX4_joinInto wsX4_joinInto) := goodIn_app (goodIn_of _ (by decide +kernel)) ggX6_join_X4_joinInto
set_option maxRecDepth 20000 in
theorem ggX6_join_X1_sign : GoodIn wsX6_join wsX1_sign := goodIn_r _ [84, 33, 107, 108] (by decide +kernel) (by decide +kernel)
set_option maxRecDepth 20000 in
theorem gX6_join_X1_sign : GoodIn wsX6_join (wsV RX6 247 RX1 yX1_sign wsX1_sign) := goodIn_app (goodIn_of _ (by decide +kernel)) ggX6_join_X1_sign
set_option maxRecDepth 20000 in
theorem ggX6_join_X6_told : GoodIn wsX6_join wsX6_told := goodIn_r _ [88, 17, 94, 95, 96, 97, 98, 99] (by decide +kernel) (by decide +kernel)
set_option maxRecDepth 20000 in
theorem gX6_join_X6_told : GoodIn wsX6_join (wsV RX6 136 RX6 yX6_told wsX6_told) := goodIn_app (goodIn_of _ (by decide +kernel)) ggX6_join_X6_told
theorem dX6_join_0 : decode cX6_join 0 = .ok (.aload_n 0, 1) := by decide +kernel
theorem dX6_join_1 : decode cX6_join 1 = .ok (.iload_n 1, 1) := by decide +kernel
theorem dX6_join_2 : decode cX6_join 2 = .ok (.invokevirtual 108, 3) := by decide +kernel
theorem dX6_join_5 : decode cX6_join 5 = .ok (.astore_n 3, 1) := by decide +kernel
theorem dX6_join_6 : decode cX6_join 6 = .ok (.aload_n 0, 1) := by decide +kernel
theorem dX6_join_7 : decode cX6_join 7 = .ok (.iload_n 2, 1) := by decide +kernel
theorem dX6_join_8 : decode cX6_join 8 = .ok (.invokevirtual 108, 3) := by decide +kernel
theorem dX6_join_11 : decode cX6_join 11 = .ok (.astore 4, 2) := by decide +kernel
theorem dX6_join_13 : decode cX6_join 13 = .ok (.aload_n 3, 1) := by decide +kernel
theorem dX6_join_14 : decode cX6_join 14 = .ok (.ifnull 8, 3) := by decide +kernel
theorem dX6_join_17 : decode cX6_join 17 = .ok (.aload 4, 2) := by decide +kernel
theorem dX6_join_19 : decode cX6_join 19 = .ok (.ifnonnull 9, 3) := by decide +kernel
theorem dX6_join_22 : decode cX6_join 22 = .ok (.aload_n 0, 1) := by decide +kernel
theorem dX6_join_23 : decode cX6_join 23 = .ok (.iconst 1, 1) := by decide +kernel
theorem dX6_join_24 : decode cX6_join 24 = .ok (.invokevirtual 95, 3) := by decide +kernel
theorem dX6_join_27 : decode cX6_join 27 = .ok (.ireturn, 1) := by decide +kernel
theorem dX6_join_28 : decode cX6_join 28 = .ok (.aload_n 3, 1) := by decide +kernel
theorem dX6_join_29 : decode cX6_join 29 = .ok (.getfield 151, 3) := by decide +kernel
theorem dX6_join_32 : decode cX6_join 32 = .ok (.invokevirtual 180, 3) := by decide +kernel
theorem dX6_join_35 : decode cX6_join 35 = .ok (.ifCond .eq 14, 3) := by decide +kernel
theorem dX6_join_38 : decode cX6_join 38 = .ok (.aload 4, 2) := by decide +kernel
theorem dX6_join_40 : decode cX6_join 40 = .ok (.getfield 151, 3) := by decide +kernel
theorem dX6_join_43 : decode cX6_join 43 = .ok (.invokevirtual 180, 3) := by decide +kernel
theorem dX6_join_46 : decode cX6_join 46 = .ok (.ifCond .ne 9, 3) := by decide +kernel
theorem dX6_join_49 : decode cX6_join 49 = .ok (.aload_n 0, 1) := by decide +kernel
theorem dX6_join_50 : decode cX6_join 50 = .ok (.iconst 5, 1) := by decide +kernel
theorem dX6_join_51 : decode cX6_join 51 = .ok (.invokevirtual 95, 3) := by decide +kernel
theorem dX6_join_54 : decode cX6_join 54 = .ok (.ireturn, 1) := by decide +kernel
theorem dX6_join_55 : decode cX6_join 55 = .ok (.aload_n 3, 1) := by decide +kernel
theorem dX6_join_56 : decode cX6_join 56 = .ok (.getfield 151, 3) := by decide +kernel
theorem dX6_join_59 : decode cX6_join 59 = .ok (.aload_n 0, 1) := by decide +kernel
theorem dX6_join_60 : decode cX6_join 60 = .ok (.getfield 38, 3) := by decide +kernel
theorem dX6_join_63 : decode cX6_join 63 = .ok (.aload 4, 2) := by decide +kernel
theorem dX6_join_65 : decode cX6_join 65 = .ok (.getfield 151, 3) := by decide +kernel
theorem dX6_join_68 : decode cX6_join 68 = .ok (.invokevirtual 257, 3) := by decide +kernel
theorem dX6_join_71 : decode cX6_join 71 = .ok (.aload_n 0, 1) := by decide +kernel
theorem dX6_join_72 : decode cX6_join 72 = .ok (.aload_n 0, 1) := by decide +kernel
theorem dX6_join_73 : decode cX6_join 73 = .ok (.getfield 38, 3) := by decide +kernel
theorem dX6_join_76 : decode cX6_join 76 = .ok (.invokevirtual 247, 3) := by decide +kernel
theorem dX6_join_79 : decode cX6_join 79 = .ok (.invokevirtual 136, 3) := by decide +kernel
theorem dX6_join_82 : decode cX6_join 82 = .ok (.ireturn, 1) := by decide +kernel
set_option maxRecDepth 20000 in
theorem ggX6_harm_X6_columnAt : GoodIn wsX6_harm wsX6_columnAt := goodIn_r _ [11, 12, 13, 14, 15, 10, 16, 101, 102, 103, 104, 105, 106] (by decide +kernel) (by decide +kernel)
set_option maxRecDepth 20000 in
theorem gX6_harm_X6_columnAt : GoodIn wsX6_harm (wsV RX6 108 RX6 yX6_columnAt wsX6_columnAt) := goodIn_app (goodIn_of _ (by decide +kernel)) ggX6_harm_X6_columnAt
set_option maxRecDepth 20000 in
theorem ggX6_harm_X6_isQuestion : GoodIn wsX6_harm wsX6_isQuestion := goodIn_r _ [19, 20, 21, 10, 22, 23, 14, 15, 16] (by decide +kernel) (by decide +kernel)
set_option maxRecDepth 20000 in
theorem gX6_harm_X6_isQuestion : GoodIn wsX6_harm (va_wsS RX6 240 yX6_isQuestion wsX6_isQuestion) := goodIn_app (goodIn_of _ (by decide +kernel)) ggX6_harm_X6_isQuestion
set_option maxRecDepth 20000 in
theorem ggX6_harm_X6_none : GoodIn wsX6_harm wsX6_none := goodIn_r _ [27, 28, 101, 102, 103, 104, 105, 106] (by decide +kernel) (by decide +kernel)
set_option maxRecDepth 20000 in
theorem gX6_harm_X6_none : GoodIn wsX6_harm (wsV RX6 95 RX6 yX6_none wsX6_none) := goodIn_app (goodIn_of _ (by decide +kernel)) ggX6_harm_X6_none
set_option maxRecDepth 20000 in
theorem ggX6_harm_X4_isThere : GoodIn wsX6_harm wsX4_isThere := goodIn_r _ [33, 34, 107, 108, 109, 110, 111, 112, 113] (by decide +kernel) (by decide +kernel)
set_option maxRecDepth 20000 in
theorem gX6_harm_X4_isThere : GoodIn wsX6_harm (wsV RX6 180 RX4 yX4_isThere wsX4_isThere) := goodIn_app (goodIn_of _ (by decide +kernel)) ggX6_harm_X4_isThere
set_option maxRecDepth 20000 in
theorem ggX6_harm_X4_highOf : GoodIn wsX6_harm wsX4_highOf := goodIn_r _ [38, 34, 39, 40, 41, 4, 5, 6, 42, 43, 44, 32, 45, 46, 47, 48, 49, 50, 51, 52, 53, 54, 55, 56, 57, 58, 59, 60, 61, 62, 63, 107, 108, 109, 110, 111, 112, 113] (by decide +kernel) (by decide +kernel)
set_option maxRecDepth 20000 in
theorem gX6_harm_X4_highOf : GoodIn wsX6_harm (wsV RX6 250 RX4 yX4_highOf wsX4_highOf) := goodIn_app (goodIn_of _ (by decide +kernel)) ggX6_harm_X4_highOf
set_option maxRecDepth 20000 in
theorem ggX6_harm_X4_lowOf : GoodIn wsX6_harm wsX4_lowOf := goodIn_r _ [67, 34, 39, 40, 41, 4, 5, 6, 42, 43, 44, 32, 45, 46, 47, 48, 49, 50, 51, 52, 53, 54, 55, 56, 57, 58, 59, 60, 61, 62, 63, 68, 69, 70, 71, 107, 108, 109, 110, 111, 112, 113] (by decide +kernel) (by decide +kernel)
set_option maxRecDepth 20000 in
theorem gX6_harm_X4_lowOf : GoodIn wsX6_harm (wsV RX6 254 RX4 yX4_lowOf wsX4_lowOf) := goodIn_app (goodIn_of _ (by decide +kernel)) ggX6_harm_X4_lowOf
set_option maxRecDepth 20000 in
theorem ggX6_harm_X1_set : GoodIn wsX6_harm wsX1_set := goodIn_r _ [76, 77, 78, 79, 80, 75, 81, 82, 83, 5, 84, 85, 86, 87, 114, 115] (by decide +kernel) (by decide +kernel)
set_option maxRecDepth 20000 in
theorem gX6_harm_X1_set : GoodIn wsX6_harm (wsV RX6 266 RX1 yX1_set wsX1_set) := goodIn_app (goodIn_of _ (by decide +kernel)) ggX6_harm_X1_set
set_option maxRecDepth 20000 in
theorem ggX6_harm_X1_sign : GoodIn wsX6_harm wsX1_sign := goodIn_r _ [91, 77, 114, 115] (by decide +kernel) (by decide +kernel)
set_option maxRecDepth 20000 in
theorem gX6_harm_X1_sign : GoodIn wsX6_harm (wsV RX6 247 RX1 yX1_sign wsX1_sign) := goodIn_app (goodIn_of _ (by decide +kernel)) ggX6_harm_X1_sign
set_option maxRecDepth 20000 in
theorem ggX6_harm_X6_told : GoodIn wsX6_harm wsX6_told := goodIn_r _ [95, 28, 101, 102, 103, 104, 105, 106] (by decide +kernel) (by decide +kernel)
set_option maxRecDepth 20000 in
theorem gX6_harm_X6_told : GoodIn wsX6_harm (wsV RX6 136 RX6 yX6_told wsX6_told) := goodIn_app (goodIn_of _ (by decide +kernel)) ggX6_harm_X6_told
theorem dX6_harm_0 : decode cX6_harm 0 = .ok (.aload_n 0, 1) := by decide +kernel
theorem dX6_harm_1 : decode cX6_harm 1 = .ok (.iload_n 1, 1) := by decide +kernel
theorem dX6_harm_2 : decode cX6_harm 2 = .ok (.invokevirtual 108, 3) := by decide +kernel
theorem dX6_harm_5 : decode cX6_harm 5 = .ok (.astore 7, 2) := by decide +kernel
theorem dX6_harm_7 : decode cX6_harm 7 = .ok (.aload_n 0, 1) := by decide +kernel
theorem dX6_harm_8 : decode cX6_harm 8 = .ok (.iload 4, 2) := by decide +kernel
theorem dX6_harm_10 : decode cX6_harm 10 = .ok (.invokevirtual 108, 3) := by decide +kernel
theorem dX6_harm_13 : decode cX6_harm 13 = .ok (.astore 8, 2) := by decide +kernel
theorem dX6_harm_15 : decode cX6_harm 15 = .ok (.aload 7, 2) := by decide +kernel
theorem dX6_harm_17 : decode cX6_harm 17 = .ok (.ifnull 26, 3) := by decide +kernel
theorem dX6_harm_20 : decode cX6_harm 20 = .ok (.aload 8, 2) := by decide +kernel
theorem dX6_harm_22 : decode cX6_harm 22 = .ok (.ifnull 21, 3) := by decide +kernel
theorem dX6_harm_25 : decode cX6_harm 25 = .ok (.iload_n 2, 1) := by decide +kernel
theorem dX6_harm_26 : decode cX6_harm 26 = .ok (.iload_n 3, 1) := by decide +kernel
theorem dX6_harm_27 : decode cX6_harm 27 = .ok (.invokestatic 240, 3) := by decide +kernel
theorem dX6_harm_30 : decode cX6_harm 30 = .ok (.ifCond .eq 13, 3) := by decide +kernel
theorem dX6_harm_33 : decode cX6_harm 33 = .ok (.iload 5, 2) := by decide +kernel
theorem dX6_harm_35 : decode cX6_harm 35 = .ok (.iload 6, 2) := by decide +kernel
theorem dX6_harm_37 : decode cX6_harm 37 = .ok (.invokestatic 240, 3) := by decide +kernel
theorem dX6_harm_40 : decode cX6_harm 40 = .ok (.ifCond .ne 9, 3) := by decide +kernel
theorem dX6_harm_43 : decode cX6_harm 43 = .ok (.aload_n 0, 1) := by decide +kernel
theorem dX6_harm_44 : decode cX6_harm 44 = .ok (.iconst 1, 1) := by decide +kernel
theorem dX6_harm_45 : decode cX6_harm 45 = .ok (.invokevirtual 95, 3) := by decide +kernel
theorem dX6_harm_48 : decode cX6_harm 48 = .ok (.ireturn, 1) := by decide +kernel
theorem dX6_harm_49 : decode cX6_harm 49 = .ok (.aload 7, 2) := by decide +kernel
theorem dX6_harm_51 : decode cX6_harm 51 = .ok (.getfield 151, 3) := by decide +kernel
theorem dX6_harm_54 : decode cX6_harm 54 = .ok (.invokevirtual 180, 3) := by decide +kernel
theorem dX6_harm_57 : decode cX6_harm 57 = .ok (.ifCond .eq 14, 3) := by decide +kernel
theorem dX6_harm_60 : decode cX6_harm 60 = .ok (.aload 8, 2) := by decide +kernel
theorem dX6_harm_62 : decode cX6_harm 62 = .ok (.getfield 151, 3) := by decide +kernel
theorem dX6_harm_65 : decode cX6_harm 65 = .ok (.invokevirtual 180, 3) := by decide +kernel
theorem dX6_harm_68 : decode cX6_harm 68 = .ok (.ifCond .ne 9, 3) := by decide +kernel
theorem dX6_harm_71 : decode cX6_harm 71 = .ok (.aload_n 0, 1) := by decide +kernel
theorem dX6_harm_72 : decode cX6_harm 72 = .ok (.iconst 5, 1) := by decide +kernel
theorem dX6_harm_73 : decode cX6_harm 73 = .ok (.invokevirtual 95, 3) := by decide +kernel
theorem dX6_harm_76 : decode cX6_harm 76 = .ok (.ireturn, 1) := by decide +kernel
theorem dX6_harm_77 : decode cX6_harm 77 = .ok (.aload_n 0, 1) := by decide +kernel
theorem dX6_harm_78 : decode cX6_harm 78 = .ok (.getfield 38, 3) := by decide +kernel
theorem dX6_harm_81 : decode cX6_harm 81 = .ok (.aload 7, 2) := by decide +kernel
theorem dX6_harm_83 : decode cX6_harm 83 = .ok (.getfield 151, 3) := by decide +kernel
theorem dX6_harm_86 : decode cX6_harm 86 = .ok (.iload_n 2, 1) := by decide +kernel
theorem dX6_harm_87 : decode cX6_harm 87 = .ok (.iload_n 3, 1) := by decide +kernel
theorem dX6_harm_88 : decode cX6_harm 88 = .ok (.invokevirtual 250, 3) := by decide +kernel
theorem dX6_harm_91 : decode cX6_harm 91 = .ok (.i2l, 1) := by decide +kernel
theorem dX6_harm_92 : decode cX6_harm 92 = .ok (.iconst 1, 1) := by decide +kernel
theorem dX6_harm_93 : decode cX6_harm 93 = .ok (.aload 8, 2) := by decide +kernel
theorem dX6_harm_95 : decode cX6_harm 95 = .ok (.getfield 151, 3) := by decide +kernel
theorem dX6_harm_98 : decode cX6_harm 98 = .ok (.iload 5, 2) := by decide +kernel
theorem dX6_harm_100 : decode cX6_harm 100 = .ok (.iload 6, 2) := by decide +kernel
theorem dX6_harm_102 : decode cX6_harm 102 = .ok (.invokevirtual 254, 3) := by decide +kernel
theorem dX6_harm_105 : decode cX6_harm 105 = .ok (.invokestatic 261, 3) := by decide +kernel
theorem dX6_harm_108 : decode cX6_harm 108 = .ok (.i2l, 1) := by decide +kernel
theorem dX6_harm_109 : decode cX6_harm 109 = .ok (.invokevirtual 266, 3) := by decide +kernel
theorem dX6_harm_112 : decode cX6_harm 112 = .ok (.aload_n 0, 1) := by decide +kernel
theorem dX6_harm_113 : decode cX6_harm 113 = .ok (.aload_n 0, 1) := by decide +kernel
theorem dX6_harm_114 : decode cX6_harm 114 = .ok (.getfield 38, 3) := by decide +kernel
theorem dX6_harm_117 : decode cX6_harm 117 = .ok (.invokevirtual 247, 3) := by decide +kernel
theorem dX6_harm_120 : decode cX6_harm 120 = .ok (.invokevirtual 136, 3) := by decide +kernel
theorem dX6_harm_123 : decode cX6_harm 123 = .ok (.ireturn, 1) := by decide +kernel
set_option maxRecDepth 20000 in
theorem ggX6_sample_X6_columnAt : GoodIn wsX6_sample wsX6_columnAt := goodIn_r _ [7, 8, 9, 10, 11, 6, 12, 35, 36, 37, 38, 39, 40] (by decide +kernel) (by decide +kernel)
set_option maxRecDepth 20000 in
theorem gX6_sample_X6_columnAt : GoodIn wsX6_sample (wsV RX6 108 RX6 yX6_columnAt wsX6_columnAt) := goodIn_app (goodIn_of _ (by decide +kernel)) ggX6_sample_X6_columnAt
set_option maxRecDepth 20000 in
theorem ggX6_sample_X6_within : GoodIn wsX6_sample wsX6_within := goodIn_r _ [12] (by decide +kernel) (by decide +kernel)
set_option maxRecDepth 20000 in
theorem gX6_sample_X6_within : GoodIn wsX6_sample (va_wsS RX6 61 yX6_within wsX6_within) := goodIn_app (goodIn_of _ (by decide +kernel)) ggX6_sample_X6_within
set_option maxRecDepth 20000 in
theorem ggX6_sample_X6_no : GoodIn wsX6_sample wsX6_no := goodIn_r _ [16, 17, 35, 36, 37, 38, 39, 40] (by decide +kernel) (by decide +kernel)
set_option maxRecDepth 20000 in
theorem gX6_sample_X6_no : GoodIn wsX6_sample (wsV RX6 67 RX6 yX6_no wsX6_no) := goodIn_app (goodIn_of _ (by decide +kernel)) ggX6_sample_X6_no
set_option maxRecDepth 20000 in
theorem ggX6_sample_X3_begin : GoodIn wsX6_sample wsX3_begin := goodIn_r _ [22, 23, 24, 25, 41, 42, 43, 44] (by decide +kernel) (by decide +kernel)
set_option maxRecDepth 20000 in
theorem gX6_sample_X3_begin : GoodIn wsX6_sample (wsV RX6 276 RX3 yX3_begin wsX3_begin) := goodIn_app (goodIn_of _ (by decide +kernel)) ggX6_sample_X3_begin
set_option maxRecDepth 20000 in
theorem ggX6_sample_X6_yes : GoodIn wsX6_sample wsX6_yes := goodIn_r _ [29, 17, 35, 36, 37, 38, 39, 40] (by decide +kernel) (by decide +kernel)
set_option maxRecDepth 20000 in
theorem gX6_sample_X6_yes : GoodIn wsX6_sample (wsV RX6 75 RX6 yX6_yes wsX6_yes) := goodIn_app (goodIn_of _ (by decide +kernel)) ggX6_sample_X6_yes
theorem dX6_sample_0 : decode cX6_sample 0 = .ok (.aload_n 0, 1) := by decide +kernel
theorem dX6_sample_1 : decode cX6_sample 1 = .ok (.iload_n 1, 1) := by decide +kernel
theorem dX6_sample_2 : decode cX6_sample 2 = .ok (.invokevirtual 108, 3) := by decide +kernel
theorem dX6_sample_5 : decode cX6_sample 5 = .ok (.astore 4, 2) := by decide +kernel
theorem dX6_sample_7 : decode cX6_sample 7 = .ok (.aload 4, 2) := by decide +kernel
theorem dX6_sample_9 : decode cX6_sample 9 = .ok (.ifnull 19, 3) := by decide +kernel
theorem dX6_sample_12 : decode cX6_sample 12 = .ok (.iload_n 2, 1) := by decide +kernel
theorem dX6_sample_13 : decode cX6_sample 13 = .ok (.i2l, 1) := by decide +kernel
theorem dX6_sample_14 : decode cX6_sample 14 = .ok (.lconst 1, 1) := by decide +kernel
theorem dX6_sample_15 : decode cX6_sample 15 = .ok (.ldc2_w 270, 3) := by decide +kernel
theorem dX6_sample_18 : decode cX6_sample 18 = .ok (.invokestatic 61, 3) := by decide +kernel
theorem dX6_sample_21 : decode cX6_sample 21 = .ok (.ifCond .eq 7, 3) := by decide +kernel
theorem dX6_sample_24 : decode cX6_sample 24 = .ok (.iload_n 3, 1) := by decide +kernel
theorem dX6_sample_25 : decode cX6_sample 25 = .ok (.ifCond .ge 9, 3) := by decide +kernel
theorem dX6_sample_28 : decode cX6_sample 28 = .ok (.aload_n 0, 1) := by decide +kernel
theorem dX6_sample_29 : decode cX6_sample 29 = .ok (.iconst 1, 1) := by decide +kernel
theorem dX6_sample_30 : decode cX6_sample 30 = .ok (.invokevirtual 67, 3) := by decide +kernel
theorem dX6_sample_33 : decode cX6_sample 33 = .ok (.ireturn, 1) := by decide +kernel
theorem dX6_sample_34 : decode cX6_sample 34 = .ok (.aload 4, 2) := by decide +kernel
theorem dX6_sample_36 : decode cX6_sample 36 = .ok (.getfield 272, 3) := by decide +kernel
theorem dX6_sample_39 : decode cX6_sample 39 = .ok (.iload_n 2, 1) := by decide +kernel
theorem dX6_sample_40 : decode cX6_sample 40 = .ok (.iload_n 3, 1) := by decide +kernel
theorem dX6_sample_41 : decode cX6_sample 41 = .ok (.invokevirtual 276, 3) := by decide +kernel
theorem dX6_sample_44 : decode cX6_sample 44 = .ok (.aload_n 0, 1) := by decide +kernel
theorem dX6_sample_45 : decode cX6_sample 45 = .ok (.invokevirtual 75, 3) := by decide +kernel
theorem dX6_sample_48 : decode cX6_sample 48 = .ok (.ireturn, 1) := by decide +kernel
set_option maxRecDepth 20000 in
theorem ggX6_drawn_X6_columnAt : GoodIn wsX6_drawn wsX6_columnAt := goodIn_r _ [8, 9, 10, 11, 12, 7, 13, 43, 44, 45, 46, 47, 48] (by decide +kernel) (by decide +kernel)
set_option maxRecDepth 20000 in
theorem gX6_drawn_X6_columnAt : GoodIn wsX6_drawn (wsV RX6 108 RX6 yX6_columnAt wsX6_columnAt) := goodIn_app (goodIn_of _ (by decide +kernel)) ggX6_drawn_X6_columnAt
set_option maxRecDepth 20000 in
theorem ggX6_drawn_X6_within : GoodIn wsX6_drawn wsX6_within := goodIn_r _ [13] (by decide +kernel) (by decide +kernel)
set_option maxRecDepth 20000 in
theorem gX6_drawn_X6_within : GoodIn wsX6_drawn (va_wsS RX6 61 yX6_within wsX6_within) := goodIn_app (goodIn_of _ (by decide +kernel)) ggX6_drawn_X6_within
set_option maxRecDepth 20000 in
theorem ggX6_drawn_X6_none : GoodIn wsX6_drawn wsX6_none := goodIn_r _ [17, 18, 43, 44, 45, 46, 47, 48] (by decide +kernel) (by decide +kernel)
set_option maxRecDepth 20000 in
theorem gX6_drawn_X6_none : GoodIn wsX6_drawn (wsV RX6 95 RX6 yX6_none wsX6_none) := goodIn_app (goodIn_of _ (by decide +kernel)) ggX6_drawn_X6_none
set_option maxRecDepth 20000 in
theorem ggX6_drawn_X3_held : GoodIn wsX6_drawn wsX3_held := goodIn_r _ [23, 24, 25, 26, 27, 28, 29, 39, 40, 41, 42] (by decide +kernel) (by decide +kernel)
set_option maxRecDepth 20000 in
theorem gX6_drawn_X3_held : GoodIn wsX6_drawn (wsV RX6 282 RX3 yX3_held wsX3_held) := goodIn_app (goodIn_of _ (by decide +kernel)) ggX6_drawn_X3_held
set_option maxRecDepth 20000 in
theorem ggX6_drawn_X6_told : GoodIn wsX6_drawn wsX6_told := goodIn_r _ [33, 18, 43, 44, 45, 46, 47, 48] (by decide +kernel) (by decide +kernel)
set_option maxRecDepth 20000 in
theorem gX6_drawn_X6_told : GoodIn wsX6_drawn (wsV RX6 136 RX6 yX6_told wsX6_told) := goodIn_app (goodIn_of _ (by decide +kernel)) ggX6_drawn_X6_told
theorem dX6_drawn_0 : decode cX6_drawn 0 = .ok (.aload_n 0, 1) := by decide +kernel
theorem dX6_drawn_1 : decode cX6_drawn 1 = .ok (.iload_n 1, 1) := by decide +kernel
theorem dX6_drawn_2 : decode cX6_drawn 2 = .ok (.invokevirtual 108, 3) := by decide +kernel
theorem dX6_drawn_5 : decode cX6_drawn 5 = .ok (.astore_n 3, 1) := by decide +kernel
theorem dX6_drawn_6 : decode cX6_drawn 6 = .ok (.aload_n 3, 1) := by decide +kernel
theorem dX6_drawn_7 : decode cX6_drawn 7 = .ok (.ifnull 15, 3) := by decide +kernel
theorem dX6_drawn_10 : decode cX6_drawn 10 = .ok (.iload_n 2, 1) := by decide +kernel
theorem dX6_drawn_11 : decode cX6_drawn 11 = .ok (.i2l, 1) := by decide +kernel
theorem dX6_drawn_12 : decode cX6_drawn 12 = .ok (.lconst 0, 1) := by decide +kernel
theorem dX6_drawn_13 : decode cX6_drawn 13 = .ok (.ldc2_w 280, 3) := by decide +kernel
theorem dX6_drawn_16 : decode cX6_drawn 16 = .ok (.invokestatic 61, 3) := by decide +kernel
theorem dX6_drawn_19 : decode cX6_drawn 19 = .ok (.ifCond .ne 9, 3) := by decide +kernel
theorem dX6_drawn_22 : decode cX6_drawn 22 = .ok (.aload_n 0, 1) := by decide +kernel
theorem dX6_drawn_23 : decode cX6_drawn 23 = .ok (.iconst 1, 1) := by decide +kernel
theorem dX6_drawn_24 : decode cX6_drawn 24 = .ok (.invokevirtual 95, 3) := by decide +kernel
theorem dX6_drawn_27 : decode cX6_drawn 27 = .ok (.ireturn, 1) := by decide +kernel
theorem dX6_drawn_28 : decode cX6_drawn 28 = .ok (.iload_n 2, 1) := by decide +kernel
theorem dX6_drawn_29 : decode cX6_drawn 29 = .ok (.aload_n 3, 1) := by decide +kernel
theorem dX6_drawn_30 : decode cX6_drawn 30 = .ok (.getfield 272, 3) := by decide +kernel
theorem dX6_drawn_33 : decode cX6_drawn 33 = .ok (.invokevirtual 282, 3) := by decide +kernel
theorem dX6_drawn_36 : decode cX6_drawn 36 = .ok (.if_icmp .lt 10, 3) := by decide +kernel
theorem dX6_drawn_39 : decode cX6_drawn 39 = .ok (.aload_n 0, 1) := by decide +kernel
theorem dX6_drawn_40 : decode cX6_drawn 40 = .ok (.bipush 6, 2) := by decide +kernel
theorem dX6_drawn_42 : decode cX6_drawn 42 = .ok (.invokevirtual 95, 3) := by decide +kernel
theorem dX6_drawn_45 : decode cX6_drawn 45 = .ok (.ireturn, 1) := by decide +kernel
theorem dX6_drawn_46 : decode cX6_drawn 46 = .ok (.aload_n 3, 1) := by decide +kernel
theorem dX6_drawn_47 : decode cX6_drawn 47 = .ok (.getfield 272, 3) := by decide +kernel
theorem dX6_drawn_50 : decode cX6_drawn 50 = .ok (.getfield 285, 3) := by decide +kernel
theorem dX6_drawn_53 : decode cX6_drawn 53 = .ok (.iload_n 2, 1) := by decide +kernel
theorem dX6_drawn_54 : decode cX6_drawn 54 = .ok (.iaload, 1) := by decide +kernel
theorem dX6_drawn_55 : decode cX6_drawn 55 = .ok (.istore 4, 2) := by decide +kernel
theorem dX6_drawn_57 : decode cX6_drawn 57 = .ok (.aload_n 0, 1) := by decide +kernel
theorem dX6_drawn_58 : decode cX6_drawn 58 = .ok (.iload 4, 2) := by decide +kernel
theorem dX6_drawn_60 : decode cX6_drawn 60 = .ok (.iconst (-1), 1) := by decide +kernel
theorem dX6_drawn_61 : decode cX6_drawn 61 = .ok (.if_icmp .ne 8, 3) := by decide +kernel
theorem dX6_drawn_64 : decode cX6_drawn 64 = .ok (.bipush (-2), 2) := by decide +kernel
theorem dX6_drawn_66 : decode cX6_drawn 66 = .ok (.goto 5, 3) := by decide +kernel
theorem dX6_drawn_69 : decode cX6_drawn 69 = .ok (.iload 4, 2) := by decide +kernel
theorem dX6_drawn_71 : decode cX6_drawn 71 = .ok (.invokevirtual 136, 3) := by decide +kernel
theorem dX6_drawn_74 : decode cX6_drawn 74 = .ok (.ireturn, 1) := by decide +kernel
set_option maxRecDepth 20000 in
theorem ggX6_trayAt_X6_within : GoodIn wsX6_trayAt wsX6_within := goodIn_r _ [6] (by decide +kernel) (by decide +kernel)
set_option maxRecDepth 20000 in
theorem gX6_trayAt_X6_within : GoodIn wsX6_trayAt (va_wsS RX6 61 yX6_within wsX6_within) := goodIn_app (goodIn_of _ (by decide +kernel)) ggX6_trayAt_X6_within
theorem dX6_trayAt_0 : decode cX6_trayAt 0 = .ok (.iload_n 1, 1) := by decide +kernel
theorem dX6_trayAt_1 : decode cX6_trayAt 1 = .ok (.i2l, 1) := by decide +kernel
theorem dX6_trayAt_2 : decode cX6_trayAt 2 = .ok (.lconst 0, 1) := by decide +kernel
theorem dX6_trayAt_3 : decode cX6_trayAt 3 = .ok (.ldc2_w 59, 3) := by decide +kernel
theorem dX6_trayAt_6 : decode cX6_trayAt 6 = .ok (.invokestatic 61, 3) := by decide +kernel
theorem dX6_trayAt_9 : decode cX6_trayAt 9 = .ok (.ifCond .eq 12, 3) := by decide +kernel
theorem dX6_trayAt_12 : decode cX6_trayAt 12 = .ok (.aload_n 0, 1) := by decide +kernel
theorem dX6_trayAt_13 : decode cX6_trayAt 13 = .ok (.getfield 11, 3) := by decide +kernel
theorem dX6_trayAt_16 : decode cX6_trayAt 16 = .ok (.iload_n 1, 1) := by decide +kernel
theorem dX6_trayAt_17 : decode cX6_trayAt 17 = .ok (.aaload, 1) := by decide +kernel
theorem dX6_trayAt_18 : decode cX6_trayAt 18 = .ok (.goto 4, 3) := by decide +kernel
theorem dX6_trayAt_21 : decode cX6_trayAt 21 = .ok (.aconst_null, 1) := by decide +kernel
theorem dX6_trayAt_22 : decode cX6_trayAt 22 = .ok (.areturn, 1) := by decide +kernel
set_option maxRecDepth 20000 in
theorem ggX6_columnAt_X6_within : GoodIn wsX6_columnAt wsX6_within := goodIn_r _ [6] (by decide +kernel) (by decide +kernel)
set_option maxRecDepth 20000 in
theorem gX6_columnAt_X6_within : GoodIn wsX6_columnAt (va_wsS RX6 61 yX6_within wsX6_within) := goodIn_app (goodIn_of _ (by decide +kernel)) ggX6_columnAt_X6_within
theorem dX6_columnAt_0 : decode cX6_columnAt 0 = .ok (.iload_n 1, 1) := by decide +kernel
theorem dX6_columnAt_1 : decode cX6_columnAt 1 = .ok (.i2l, 1) := by decide +kernel
theorem dX6_columnAt_2 : decode cX6_columnAt 2 = .ok (.lconst 0, 1) := by decide +kernel
theorem dX6_columnAt_3 : decode cX6_columnAt 3 = .ok (.ldc2_w 288, 3) := by decide +kernel
theorem dX6_columnAt_6 : decode cX6_columnAt 6 = .ok (.invokestatic 61, 3) := by decide +kernel
theorem dX6_columnAt_9 : decode cX6_columnAt 9 = .ok (.ifCond .eq 12, 3) := by decide +kernel
theorem dX6_columnAt_12 : decode cX6_columnAt 12 = .ok (.aload_n 0, 1) := by decide +kernel
theorem dX6_columnAt_13 : decode cX6_columnAt 13 = .ok (.getfield 17, 3) := by decide +kernel
theorem dX6_columnAt_16 : decode cX6_columnAt 16 = .ok (.iload_n 1, 1) := by decide +kernel
theorem dX6_columnAt_17 : decode cX6_columnAt 17 = .ok (.aaload, 1) := by decide +kernel
theorem dX6_columnAt_18 : decode cX6_columnAt 18 = .ok (.goto 4, 3) := by decide +kernel
theorem dX6_columnAt_21 : decode cX6_columnAt 21 = .ok (.aconst_null, 1) := by decide +kernel
theorem dX6_columnAt_22 : decode cX6_columnAt 22 = .ok (.areturn, 1) := by decide +kernel
theorem dX6_none_0 : decode cX6_none 0 = .ok (.aload_n 0, 1) := by decide +kernel
theorem dX6_none_1 : decode cX6_none 1 = .ok (.iload_n 1, 1) := by decide +kernel
theorem dX6_none_2 : decode cX6_none 2 = .ok (.putfield 42, 3) := by decide +kernel
theorem dX6_none_5 : decode cX6_none 5 = .ok (.iconst (-1), 1) := by decide +kernel
theorem dX6_none_6 : decode cX6_none 6 = .ok (.ireturn, 1) := by decide +kernel
theorem dX6_no_0 : decode cX6_no 0 = .ok (.aload_n 0, 1) := by decide +kernel
theorem dX6_no_1 : decode cX6_no 1 = .ok (.iload_n 1, 1) := by decide +kernel
theorem dX6_no_2 : decode cX6_no 2 = .ok (.putfield 42, 3) := by decide +kernel
theorem dX6_no_5 : decode cX6_no 5 = .ok (.iconst 0, 1) := by decide +kernel
theorem dX6_no_6 : decode cX6_no 6 = .ok (.ireturn, 1) := by decide +kernel
theorem dX6_told_0 : decode cX6_told 0 = .ok (.aload_n 0, 1) := by decide +kernel
theorem dX6_told_1 : decode cX6_told 1 = .ok (.iconst 0, 1) := by decide +kernel
theorem dX6_told_2 : decode cX6_told 2 = .ok (.putfield 42, 3) := by decide +kernel
theorem dX6_told_5 : decode cX6_told 5 = .ok (.iload_n 1, 1) := by decide +kernel
theorem dX6_told_6 : decode cX6_told 6 = .ok (.ireturn, 1) := by decide +kernel
theorem dX6_yes_0 : decode cX6_yes 0 = .ok (.aload_n 0, 1) := by decide +kernel
theorem dX6_yes_1 : decode cX6_yes 1 = .ok (.iconst 0, 1) := by decide +kernel
theorem dX6_yes_2 : decode cX6_yes 2 = .ok (.putfield 42, 3) := by decide +kernel
theorem dX6_yes_5 : decode cX6_yes 5 = .ok (.iconst 1, 1) := by decide +kernel
theorem dX6_yes_6 : decode cX6_yes 6 = .ok (.ireturn, 1) := by decide +kernel
theorem dX6_within_0 : decode cX6_within 0 = .ok (.lload_n 0, 1) := by decide +kernel
theorem dX6_within_1 : decode cX6_within 1 = .ok (.lload_n 2, 1) := by decide +kernel
theorem dX6_within_2 : decode cX6_within 2 = .ok (.lcmp, 1) := by decide +kernel
theorem dX6_within_3 : decode cX6_within 3 = .ok (.ifCond .lt 14, 3) := by decide +kernel
theorem dX6_within_6 : decode cX6_within 6 = .ok (.lload_n 0, 1) := by decide +kernel
theorem dX6_within_7 : decode cX6_within 7 = .ok (.lload 4, 2) := by decide +kernel
theorem dX6_within_9 : decode cX6_within 9 = .ok (.lcmp, 1) := by decide +kernel
theorem dX6_within_10 : decode cX6_within 10 = .ok (.ifCond .gt 7, 3) := by decide +kernel
theorem dX6_within_13 : decode cX6_within 13 = .ok (.iconst 1, 1) := by decide +kernel
theorem dX6_within_14 : decode cX6_within 14 = .ok (.goto 4, 3) := by decide +kernel
theorem dX6_within_17 : decode cX6_within 17 = .ok (.iconst 0, 1) := by decide +kernel
theorem dX6_within_18 : decode cX6_within 18 = .ok (.ireturn, 1) := by decide +kernel
set_option maxRecDepth 20000 in
theorem ggX6_isValue_X6_within : GoodIn wsX6_isValue wsX6_within := goodIn_r _ [5] (by decide +kernel) (by decide +kernel)
set_option maxRecDepth 20000 in
theorem gX6_isValue_X6_within : GoodIn wsX6_isValue (va_wsS RX6 61 yX6_within wsX6_within) := goodIn_app (goodIn_of _ (by decide +kernel)) ggX6_isValue_X6_within
theorem dX6_isValue_0 : decode cX6_isValue 0 = .ok (.iload_n 0, 1) := by decide +kernel
theorem dX6_isValue_1 : decode cX6_isValue 1 = .ok (.i2l, 1) := by decide +kernel
theorem dX6_isValue_2 : decode cX6_isValue 2 = .ok (.lconst 0, 1) := by decide +kernel
theorem dX6_isValue_3 : decode cX6_isValue 3 = .ok (.ldc2_w 290, 3) := by decide +kernel
theorem dX6_isValue_6 : decode cX6_isValue 6 = .ok (.invokestatic 61, 3) := by decide +kernel
theorem dX6_isValue_9 : decode cX6_isValue 9 = .ok (.ireturn, 1) := by decide +kernel
set_option maxRecDepth 20000 in
theorem ggX6_isValueOrNone_X6_within : GoodIn wsX6_isValueOrNone wsX6_within := goodIn_r _ [6] (by decide +kernel) (by decide +kernel)
set_option maxRecDepth 20000 in
theorem gX6_isValueOrNone_X6_within : GoodIn wsX6_isValueOrNone (va_wsS RX6 61 yX6_within wsX6_within) := goodIn_app (goodIn_of _ (by decide +kernel)) ggX6_isValueOrNone_X6_within
theorem dX6_isValueOrNone_0 : decode cX6_isValueOrNone 0 = .ok (.lload_n 0, 1) := by decide +kernel
theorem dX6_isValueOrNone_1 : decode cX6_isValueOrNone 1 = .ok (.ldc2_w 292, 3) := by decide +kernel
theorem dX6_isValueOrNone_4 : decode cX6_isValueOrNone 4 = .ok (.ldc2_w 290, 3) := by decide +kernel
theorem dX6_isValueOrNone_7 : decode cX6_isValueOrNone 7 = .ok (.invokestatic 61, 3) := by decide +kernel
theorem dX6_isValueOrNone_10 : decode cX6_isValueOrNone 10 = .ok (.ireturn, 1) := by decide +kernel
set_option maxRecDepth 20000 in
theorem ggX6_isQuestion_X6_isValue : GoodIn wsX6_isQuestion wsX6_isValue := goodIn_r _ [4, 5, 6, 7, 3, 8] (by decide +kernel) (by decide +kernel)
set_option maxRecDepth 20000 in
theorem gX6_isQuestion_X6_isValue : GoodIn wsX6_isQuestion (va_wsS RX6 204 yX6_isValue wsX6_isValue) := goodIn_app (goodIn_of _ (by decide +kernel)) ggX6_isQuestion_X6_isValue
theorem dX6_isQuestion_0 : decode cX6_isQuestion 0 = .ok (.iload_n 0, 1) := by decide +kernel
theorem dX6_isQuestion_1 : decode cX6_isQuestion 1 = .ok (.invokestatic 204, 3) := by decide +kernel
theorem dX6_isQuestion_4 : decode cX6_isQuestion 4 = .ok (.ifCond .eq 19, 3) := by decide +kernel
theorem dX6_isQuestion_7 : decode cX6_isQuestion 7 = .ok (.iload_n 1, 1) := by decide +kernel
theorem dX6_isQuestion_8 : decode cX6_isQuestion 8 = .ok (.invokestatic 204, 3) := by decide +kernel
theorem dX6_isQuestion_11 : decode cX6_isQuestion 11 = .ok (.ifCond .eq 12, 3) := by decide +kernel
theorem dX6_isQuestion_14 : decode cX6_isQuestion 14 = .ok (.iload_n 0, 1) := by decide +kernel
theorem dX6_isQuestion_15 : decode cX6_isQuestion 15 = .ok (.iload_n 1, 1) := by decide +kernel
theorem dX6_isQuestion_16 : decode cX6_isQuestion 16 = .ok (.if_icmp .gt 7, 3) := by decide +kernel
theorem dX6_isQuestion_19 : decode cX6_isQuestion 19 = .ok (.iconst 1, 1) := by decide +kernel
theorem dX6_isQuestion_20 : decode cX6_isQuestion 20 = .ok (.goto 4, 3) := by decide +kernel
theorem dX6_isQuestion_23 : decode cX6_isQuestion 23 = .ok (.iconst 0, 1) := by decide +kernel
theorem dX6_isQuestion_24 : decode cX6_isQuestion 24 = .ok (.ireturn, 1) := by decide +kernel
theorem dX7_init_0 : decode cX7_init 0 = .ok (.aload_n 0, 1) := by decide +kernel
theorem dX7_init_1 : decode cX7_init 1 = .ok (.invokespecial 1, 3) := by decide +kernel
theorem dX7_init_4 : decode cX7_init 4 = .ok (.aload_n 0, 1) := by decide +kernel
theorem dX7_init_5 : decode cX7_init 5 = .ok (.lconst 1, 1) := by decide +kernel
theorem dX7_init_6 : decode cX7_init 6 = .ok (.putfield 7, 3) := by decide +kernel
theorem dX7_init_9 : decode cX7_init 9 = .ok (.aload_n 0, 1) := by decide +kernel
theorem dX7_init_10 : decode cX7_init 10 = .ok (.iconst 4, 1) := by decide +kernel
theorem dX7_init_11 : decode cX7_init 11 = .ok (.newarray .int, 2) := by decide +kernel
theorem dX7_init_13 : decode cX7_init 13 = .ok (.putfield 13, 3) := by decide +kernel
theorem dX7_init_16 : decode cX7_init 16 = .ok (.aload_n 0, 1) := by decide +kernel
theorem dX7_init_17 : decode cX7_init 17 = .ok (.iconst 4, 1) := by decide +kernel
theorem dX7_init_18 : decode cX7_init 18 = .ok (.newarray .int, 2) := by decide +kernel
theorem dX7_init_20 : decode cX7_init 20 = .ok (.dup, 1) := by decide +kernel
theorem dX7_init_21 : decode cX7_init 21 = .ok (.iconst 0, 1) := by decide +kernel
theorem dX7_init_22 : decode cX7_init 22 = .ok (.iconst (-1), 1) := by decide +kernel
theorem dX7_init_23 : decode cX7_init 23 = .ok (.iastore, 1) := by decide +kernel
theorem dX7_init_24 : decode cX7_init 24 = .ok (.dup, 1) := by decide +kernel
theorem dX7_init_25 : decode cX7_init 25 = .ok (.iconst 1, 1) := by decide +kernel
theorem dX7_init_26 : decode cX7_init 26 = .ok (.iconst (-1), 1) := by decide +kernel
theorem dX7_init_27 : decode cX7_init 27 = .ok (.iastore, 1) := by decide +kernel
theorem dX7_init_28 : decode cX7_init 28 = .ok (.dup, 1) := by decide +kernel
theorem dX7_init_29 : decode cX7_init 29 = .ok (.iconst 2, 1) := by decide +kernel
theorem dX7_init_30 : decode cX7_init 30 = .ok (.iconst (-1), 1) := by decide +kernel
theorem dX7_init_31 : decode cX7_init 31 = .ok (.iastore, 1) := by decide +kernel
theorem dX7_init_32 : decode cX7_init 32 = .ok (.dup, 1) := by decide +kernel
theorem dX7_init_33 : decode cX7_init 33 = .ok (.iconst 3, 1) := by decide +kernel
theorem dX7_init_34 : decode cX7_init 34 = .ok (.iconst (-1), 1) := by decide +kernel
theorem dX7_init_35 : decode cX7_init 35 = .ok (.iastore, 1) := by decide +kernel
theorem dX7_init_36 : decode cX7_init 36 = .ok (.putfield 17, 3) := by decide +kernel
theorem dX7_init_39 : decode cX7_init 39 = .ok (.aload_n 0, 1) := by decide +kernel
theorem dX7_init_40 : decode cX7_init 40 = .ok (.sipush 400, 3) := by decide +kernel
theorem dX7_init_43 : decode cX7_init 43 = .ok (.newarray .long, 2) := by decide +kernel
theorem dX7_init_45 : decode cX7_init 45 = .ok (.putfield 20, 3) := by decide +kernel
theorem dX7_init_48 : decode cX7_init 48 = .ok (.aload_n 0, 1) := by decide +kernel
theorem dX7_init_49 : decode cX7_init 49 = .ok (.sipush 300, 3) := by decide +kernel
theorem dX7_init_52 : decode cX7_init 52 = .ok (.newarray .int, 2) := by decide +kernel
theorem dX7_init_54 : decode cX7_init 54 = .ok (.putfield 24, 3) := by decide +kernel
theorem dX7_init_57 : decode cX7_init 57 = .ok (.aload_n 0, 1) := by decide +kernel
theorem dX7_init_58 : decode cX7_init 58 = .ok (.iconst 3, 1) := by decide +kernel
theorem dX7_init_59 : decode cX7_init 59 = .ok (.newarray .int, 2) := by decide +kernel
theorem dX7_init_61 : decode cX7_init 61 = .ok (.putfield 27, 3) := by decide +kernel
theorem dX7_init_64 : decode cX7_init 64 = .ok (.aload_n 0, 1) := by decide +kernel
theorem dX7_init_65 : decode cX7_init 65 = .ok (.iconst 3, 1) := by decide +kernel
theorem dX7_init_66 : decode cX7_init 66 = .ok (.newarray .int, 2) := by decide +kernel
theorem dX7_init_68 : decode cX7_init 68 = .ok (.putfield 30, 3) := by decide +kernel
theorem dX7_init_71 : decode cX7_init 71 = .ok (.aload_n 0, 1) := by decide +kernel
theorem dX7_init_72 : decode cX7_init 72 = .ok (.iconst 3, 1) := by decide +kernel
theorem dX7_init_73 : decode cX7_init 73 = .ok (.newarray .int, 2) := by decide +kernel
theorem dX7_init_75 : decode cX7_init 75 = .ok (.putfield 33, 3) := by decide +kernel
theorem dX7_init_78 : decode cX7_init 78 = .ok (.aload_n 0, 1) := by decide +kernel
theorem dX7_init_79 : decode cX7_init 79 = .ok (.iconst 3, 1) := by decide +kernel
theorem dX7_init_80 : decode cX7_init 80 = .ok (.newarray .int, 2) := by decide +kernel
theorem dX7_init_82 : decode cX7_init 82 = .ok (.putfield 36, 3) := by decide +kernel
theorem dX7_init_85 : decode cX7_init 85 = .ok (.aload_n 0, 1) := by decide +kernel
theorem dX7_init_86 : decode cX7_init 86 = .ok (.bipush 48, 2) := by decide +kernel
theorem dX7_init_88 : decode cX7_init 88 = .ok (.newarray .int, 2) := by decide +kernel
theorem dX7_init_90 : decode cX7_init 90 = .ok (.putfield 39, 3) := by decide +kernel
theorem dX7_init_93 : decode cX7_init 93 = .ok (.aload_n 0, 1) := by decide +kernel
theorem dX7_init_94 : decode cX7_init 94 = .ok (.iconst 3, 1) := by decide +kernel
theorem dX7_init_95 : decode cX7_init 95 = .ok (.newarray .long, 2) := by decide +kernel
theorem dX7_init_97 : decode cX7_init 97 = .ok (.putfield 42, 3) := by decide +kernel
theorem dX7_init_100 : decode cX7_init 100 = .ok (.aload_n 0, 1) := by decide +kernel
theorem dX7_init_101 : decode cX7_init 101 = .ok (.iconst 3, 1) := by decide +kernel
theorem dX7_init_102 : decode cX7_init 102 = .ok (.newarray .int, 2) := by decide +kernel
theorem dX7_init_104 : decode cX7_init 104 = .ok (.putfield 45, 3) := by decide +kernel
theorem dX7_init_107 : decode cX7_init 107 = .ok (.aload_n 0, 1) := by decide +kernel
theorem dX7_init_108 : decode cX7_init 108 = .ok (.iconst 3, 1) := by decide +kernel
theorem dX7_init_109 : decode cX7_init 109 = .ok (.newarray .int, 2) := by decide +kernel
theorem dX7_init_111 : decode cX7_init 111 = .ok (.putfield 48, 3) := by decide +kernel
theorem dX7_init_114 : decode cX7_init 114 = .ok (.aload_n 0, 1) := by decide +kernel
theorem dX7_init_115 : decode cX7_init 115 = .ok (.sipush 300, 3) := by decide +kernel
theorem dX7_init_118 : decode cX7_init 118 = .ok (.newarray .int, 2) := by decide +kernel
theorem dX7_init_120 : decode cX7_init 120 = .ok (.putfield 51, 3) := by decide +kernel
theorem dX7_init_123 : decode cX7_init 123 = .ok (.aload_n 0, 1) := by decide +kernel
theorem dX7_init_124 : decode cX7_init 124 = .ok (.sipush 300, 3) := by decide +kernel
theorem dX7_init_127 : decode cX7_init 127 = .ok (.newarray .boolean, 2) := by decide +kernel
theorem dX7_init_129 : decode cX7_init 129 = .ok (.putfield 54, 3) := by decide +kernel
theorem dX7_init_132 : decode cX7_init 132 = .ok (.aload_n 0, 1) := by decide +kernel
theorem dX7_init_133 : decode cX7_init 133 = .ok (.bipush 120, 2) := by decide +kernel
theorem dX7_init_135 : decode cX7_init 135 = .ok (.newarray .int, 2) := by decide +kernel
theorem dX7_init_137 : decode cX7_init 137 = .ok (.putfield 58, 3) := by decide +kernel
theorem dX7_init_140 : decode cX7_init 140 = .ok (.aload_n 0, 1) := by decide +kernel
theorem dX7_init_141 : decode cX7_init 141 = .ok (.bipush 120, 2) := by decide +kernel
theorem dX7_init_143 : decode cX7_init 143 = .ok (.newarray .int, 2) := by decide +kernel
theorem dX7_init_145 : decode cX7_init 145 = .ok (.putfield 61, 3) := by decide +kernel
theorem dX7_init_148 : decode cX7_init 148 = .ok (.aload_n 0, 1) := by decide +kernel
theorem dX7_init_149 : decode cX7_init 149 = .ok (.bipush 120, 2) := by decide +kernel
theorem dX7_init_151 : decode cX7_init 151 = .ok (.newarray .int, 2) := by decide +kernel
theorem dX7_init_153 : decode cX7_init 153 = .ok (.putfield 64, 3) := by decide +kernel
theorem dX7_init_156 : decode cX7_init 156 = .ok (.aload_n 0, 1) := by decide +kernel
theorem dX7_init_157 : decode cX7_init 157 = .ok (.sipush 10000, 3) := by decide +kernel
theorem dX7_init_160 : decode cX7_init 160 = .ok (.newarray .int, 2) := by decide +kernel
theorem dX7_init_162 : decode cX7_init 162 = .ok (.putfield 67, 3) := by decide +kernel
theorem dX7_init_165 : decode cX7_init 165 = .ok (.aload_n 0, 1) := by decide +kernel
theorem dX7_init_166 : decode cX7_init 166 = .ok (.sipush 1313, 3) := by decide +kernel
theorem dX7_init_169 : decode cX7_init 169 = .ok (.newarray .int, 2) := by decide +kernel
theorem dX7_init_171 : decode cX7_init 171 = .ok (.putfield 70, 3) := by decide +kernel
theorem dX7_init_174 : decode cX7_init 174 = .ok (.aload_n 0, 1) := by decide +kernel
theorem dX7_init_175 : decode cX7_init 175 = .ok (.sipush 1313, 3) := by decide +kernel
theorem dX7_init_178 : decode cX7_init 178 = .ok (.newarray .int, 2) := by decide +kernel
theorem dX7_init_180 : decode cX7_init 180 = .ok (.putfield 73, 3) := by decide +kernel
theorem dX7_init_183 : decode cX7_init 183 = .ok (.aload_n 0, 1) := by decide +kernel
theorem dX7_init_184 : decode cX7_init 184 = .ok (.bipush 100, 2) := by decide +kernel
theorem dX7_init_186 : decode cX7_init 186 = .ok (.newarray .int, 2) := by decide +kernel
theorem dX7_init_188 : decode cX7_init 188 = .ok (.putfield 76, 3) := by decide +kernel
theorem dX7_init_191 : decode cX7_init 191 = .ok (.aload_n 0, 1) := by decide +kernel
theorem dX7_init_192 : decode cX7_init 192 = .ok (.bipush 40, 2) := by decide +kernel
theorem dX7_init_194 : decode cX7_init 194 = .ok (.newarray .int, 2) := by decide +kernel
theorem dX7_init_196 : decode cX7_init 196 = .ok (.putfield 79, 3) := by decide +kernel
theorem dX7_init_199 : decode cX7_init 199 = .ok (.aload_n 0, 1) := by decide +kernel
theorem dX7_init_200 : decode cX7_init 200 = .ok (.bipush 40, 2) := by decide +kernel
theorem dX7_init_202 : decode cX7_init 202 = .ok (.newarray .int, 2) := by decide +kernel
theorem dX7_init_204 : decode cX7_init 204 = .ok (.putfield 82, 3) := by decide +kernel
theorem dX7_init_207 : decode cX7_init 207 = .ok (.return_, 1) := by decide +kernel
theorem dX7_status_0 : decode cX7_status 0 = .ok (.aload_n 0, 1) := by decide +kernel
theorem dX7_status_1 : decode cX7_status 1 = .ok (.getfield 85, 3) := by decide +kernel
theorem dX7_status_4 : decode cX7_status 4 = .ok (.ireturn, 1) := by decide +kernel
theorem dX7_top_0 : decode cX7_top 0 = .ok (.aload_n 0, 1) := by decide +kernel
theorem dX7_top_1 : decode cX7_top 1 = .ok (.getfield 89, 3) := by decide +kernel
theorem dX7_top_4 : decode cX7_top 4 = .ok (.lreturn, 1) := by decide +kernel
theorem dX7_bottom_0 : decode cX7_bottom 0 = .ok (.aload_n 0, 1) := by decide +kernel
theorem dX7_bottom_1 : decode cX7_bottom 1 = .ok (.getfield 7, 3) := by decide +kernel
theorem dX7_bottom_4 : decode cX7_bottom 4 = .ok (.lreturn, 1) := by decide +kernel
theorem dX7_is_0 : decode cX7_is 0 = .ok (.aload_n 0, 1) := by decide +kernel
theorem dX7_is_1 : decode cX7_is 1 = .ok (.iload_n 1, 1) := by decide +kernel
theorem dX7_is_2 : decode cX7_is 2 = .ok (.putfield 85, 3) := by decide +kernel
theorem dX7_is_5 : decode cX7_is 5 = .ok (.iload_n 1, 1) := by decide +kernel
theorem dX7_is_6 : decode cX7_is 6 = .ok (.ifCond .ne 7, 3) := by decide +kernel
theorem dX7_is_9 : decode cX7_is 9 = .ok (.iconst 1, 1) := by decide +kernel
theorem dX7_is_10 : decode cX7_is 10 = .ok (.goto 4, 3) := by decide +kernel
theorem dX7_is_13 : decode cX7_is 13 = .ok (.iconst 0, 1) := by decide +kernel
theorem dX7_is_14 : decode cX7_is 14 = .ok (.ireturn, 1) := by decide +kernel
theorem dX7_refuse_0 : decode cX7_refuse 0 = .ok (.aload_n 0, 1) := by decide +kernel
theorem dX7_refuse_1 : decode cX7_refuse 1 = .ok (.iload_n 1, 1) := by decide +kernel
theorem dX7_refuse_2 : decode cX7_refuse 2 = .ok (.putfield 85, 3) := by decide +kernel
theorem dX7_refuse_5 : decode cX7_refuse 5 = .ok (.iconst (-1), 1) := by decide +kernel
theorem dX7_refuse_6 : decode cX7_refuse 6 = .ok (.ireturn, 1) := by decide +kernel
theorem dX7_isTray_0 : decode cX7_isTray 0 = .ok (.iload_n 0, 1) := by decide +kernel
theorem dX7_isTray_1 : decode cX7_isTray 1 = .ok (.ifCond .lt 12, 3) := by decide +kernel
theorem dX7_isTray_4 : decode cX7_isTray 4 = .ok (.iload_n 0, 1) := by decide +kernel
theorem dX7_isTray_5 : decode cX7_isTray 5 = .ok (.iconst 4, 1) := by decide +kernel
theorem dX7_isTray_6 : decode cX7_isTray 6 = .ok (.if_icmp .ge 7, 3) := by decide +kernel
theorem dX7_isTray_9 : decode cX7_isTray 9 = .ok (.iconst 1, 1) := by decide +kernel
theorem dX7_isTray_10 : decode cX7_isTray 10 = .ok (.goto 4, 3) := by decide +kernel
theorem dX7_isTray_13 : decode cX7_isTray 13 = .ok (.iconst 0, 1) := by decide +kernel
theorem dX7_isTray_14 : decode cX7_isTray 14 = .ok (.ireturn, 1) := by decide +kernel
theorem dX7_cut_0 : decode cX7_cut 0 = .ok (.iload_n 2, 1) := by decide +kernel
theorem dX7_cut_1 : decode cX7_cut 1 = .ok (.ifCond .ne 10, 3) := by decide +kernel
theorem dX7_cut_4 : decode cX7_cut 4 = .ok (.lload_n 0, 1) := by decide +kernel
theorem dX7_cut_5 : decode cX7_cut 5 = .ok (.l2i, 1) := by decide +kernel
theorem dX7_cut_6 : decode cX7_cut 6 = .ok (.i2b, 1) := by decide +kernel
theorem dX7_cut_7 : decode cX7_cut 7 = .ok (.i2l, 1) := by decide +kernel
theorem dX7_cut_8 : decode cX7_cut 8 = .ok (.goto 27, 3) := by decide +kernel
theorem dX7_cut_11 : decode cX7_cut 11 = .ok (.iload_n 2, 1) := by decide +kernel
theorem dX7_cut_12 : decode cX7_cut 12 = .ok (.iconst 1, 1) := by decide +kernel
theorem dX7_cut_13 : decode cX7_cut 13 = .ok (.if_icmp .ne 10, 3) := by decide +kernel
theorem dX7_cut_16 : decode cX7_cut 16 = .ok (.lload_n 0, 1) := by decide +kernel
theorem dX7_cut_17 : decode cX7_cut 17 = .ok (.l2i, 1) := by decide +kernel
theorem dX7_cut_18 : decode cX7_cut 18 = .ok (.i2s, 1) := by decide +kernel
theorem dX7_cut_19 : decode cX7_cut 19 = .ok (.i2l, 1) := by decide +kernel
theorem dX7_cut_20 : decode cX7_cut 20 = .ok (.goto 15, 3) := by decide +kernel
theorem dX7_cut_23 : decode cX7_cut 23 = .ok (.iload_n 2, 1) := by decide +kernel
theorem dX7_cut_24 : decode cX7_cut 24 = .ok (.iconst 2, 1) := by decide +kernel
theorem dX7_cut_25 : decode cX7_cut 25 = .ok (.if_icmp .ne 9, 3) := by decide +kernel
theorem dX7_cut_28 : decode cX7_cut 28 = .ok (.lload_n 0, 1) := by decide +kernel
theorem dX7_cut_29 : decode cX7_cut 29 = .ok (.l2i, 1) := by decide +kernel
theorem dX7_cut_30 : decode cX7_cut 30 = .ok (.i2l, 1) := by decide +kernel
theorem dX7_cut_31 : decode cX7_cut 31 = .ok (.goto 4, 3) := by decide +kernel
theorem dX7_cut_34 : decode cX7_cut 34 = .ok (.lload_n 0, 1) := by decide +kernel
theorem dX7_cut_35 : decode cX7_cut 35 = .ok (.lreturn, 1) := by decide +kernel
set_option maxRecDepth 20000 in
theorem ggX7_tray_X7_isTray : GoodIn wsX7_tray wsX7_isTray := goodIn_r _ [7] (by decide +kernel) (by decide +kernel)
set_option maxRecDepth 20000 in
theorem gX7_tray_X7_isTray : GoodIn wsX7_tray (va_wsS RX7 92 yX7_isTray wsX7_isTray) := goodIn_app (goodIn_of _ (by decide +kernel)) ggX7_tray_X7_isTray
set_option maxRecDepth 20000 in
theorem ggX7_tray_X7_is : GoodIn wsX7_tray wsX7_is := goodIn_r _ [11, 12, 13, 14, 15, 16, 17, 18, 19, 20, 21, 22, 23, 24, 25, 26, 27, 28, 29, 30, 31, 32, 33, 34, 35, 36, 37, 38, 39, 40, 41, 42] (by decide +kernel) (by decide +kernel)
set_option maxRecDepth 20000 in
theorem gX7_tray_X7_is : GoodIn wsX7_tray (wsV RX7 96 RX7 yX7_is wsX7_is) := goodIn_app (goodIn_of _ (by decide +kernel)) ggX7_tray_X7_is
theorem dX7_tray_0 : decode cX7_tray 0 = .ok (.iload_n 1, 1) := by decide +kernel
theorem dX7_tray_1 : decode cX7_tray 1 = .ok (.invokestatic 92, 3) := by decide +kernel
theorem dX7_tray_4 : decode cX7_tray 4 = .ok (.ifCond .eq 22, 3) := by decide +kernel
theorem dX7_tray_7 : decode cX7_tray 7 = .ok (.iload_n 2, 1) := by decide +kernel
theorem dX7_tray_8 : decode cX7_tray 8 = .ok (.ifCond .lt 18, 3) := by decide +kernel
theorem dX7_tray_11 : decode cX7_tray 11 = .ok (.iload_n 2, 1) := by decide +kernel
theorem dX7_tray_12 : decode cX7_tray 12 = .ok (.iconst 3, 1) := by decide +kernel
theorem dX7_tray_13 : decode cX7_tray 13 = .ok (.if_icmp .gt 13, 3) := by decide +kernel
theorem dX7_tray_16 : decode cX7_tray 16 = .ok (.iload_n 3, 1) := by decide +kernel
theorem dX7_tray_17 : decode cX7_tray 17 = .ok (.ifCond .lt 9, 3) := by decide +kernel
theorem dX7_tray_20 : decode cX7_tray 20 = .ok (.iload_n 3, 1) := by decide +kernel
theorem dX7_tray_21 : decode cX7_tray 21 = .ok (.bipush 100, 2) := by decide +kernel
theorem dX7_tray_23 : decode cX7_tray 23 = .ok (.if_icmp .le 9, 3) := by decide +kernel
theorem dX7_tray_26 : decode cX7_tray 26 = .ok (.aload_n 0, 1) := by decide +kernel
theorem dX7_tray_27 : decode cX7_tray 27 = .ok (.iconst 1, 1) := by decide +kernel
theorem dX7_tray_28 : decode cX7_tray 28 = .ok (.invokevirtual 96, 3) := by decide +kernel
theorem dX7_tray_31 : decode cX7_tray 31 = .ok (.ireturn, 1) := by decide +kernel
theorem dX7_tray_32 : decode cX7_tray 32 = .ok (.aload_n 0, 1) := by decide +kernel
theorem dX7_tray_33 : decode cX7_tray 33 = .ok (.getfield 13, 3) := by decide +kernel
theorem dX7_tray_36 : decode cX7_tray 36 = .ok (.iload_n 1, 1) := by decide +kernel
theorem dX7_tray_37 : decode cX7_tray 37 = .ok (.iload_n 2, 1) := by decide +kernel
theorem dX7_tray_38 : decode cX7_tray 38 = .ok (.iastore, 1) := by decide +kernel
theorem dX7_tray_39 : decode cX7_tray 39 = .ok (.aload_n 0, 1) := by decide +kernel
theorem dX7_tray_40 : decode cX7_tray 40 = .ok (.getfield 17, 3) := by decide +kernel
theorem dX7_tray_43 : decode cX7_tray 43 = .ok (.iload_n 1, 1) := by decide +kernel
theorem dX7_tray_44 : decode cX7_tray 44 = .ok (.iload_n 3, 1) := by decide +kernel
theorem dX7_tray_45 : decode cX7_tray 45 = .ok (.iastore, 1) := by decide +kernel
theorem dX7_tray_46 : decode cX7_tray 46 = .ok (.iconst 0, 1) := by decide +kernel
theorem dX7_tray_47 : decode cX7_tray 47 = .ok (.istore 4, 2) := by decide +kernel
theorem dX7_tray_49 : decode cX7_tray 49 = .ok (.iload 4, 2) := by decide +kernel
theorem dX7_tray_51 : decode cX7_tray 51 = .ok (.iload_n 3, 1) := by decide +kernel
theorem dX7_tray_52 : decode cX7_tray 52 = .ok (.if_icmp .ge 22, 3) := by decide +kernel
theorem dX7_tray_55 : decode cX7_tray 55 = .ok (.aload_n 0, 1) := by decide +kernel
theorem dX7_tray_56 : decode cX7_tray 56 = .ok (.getfield 20, 3) := by decide +kernel
theorem dX7_tray_59 : decode cX7_tray 59 = .ok (.bipush 100, 2) := by decide +kernel
theorem dX7_tray_61 : decode cX7_tray 61 = .ok (.iload_n 1, 1) := by decide +kernel
theorem dX7_tray_62 : decode cX7_tray 62 = .ok (.imul, 1) := by decide +kernel
theorem dX7_tray_63 : decode cX7_tray 63 = .ok (.iload 4, 2) := by decide +kernel
theorem dX7_tray_65 : decode cX7_tray 65 = .ok (.iadd, 1) := by decide +kernel
theorem dX7_tray_66 : decode cX7_tray 66 = .ok (.lconst 0, 1) := by decide +kernel
theorem dX7_tray_67 : decode cX7_tray 67 = .ok (.lastore, 1) := by decide +kernel
theorem dX7_tray_68 : decode cX7_tray 68 = .ok (.iinc 4 1, 3) := by decide +kernel
theorem dX7_tray_71 : decode cX7_tray 71 = .ok (.goto (-22), 3) := by decide +kernel
theorem dX7_tray_74 : decode cX7_tray 74 = .ok (.aload_n 0, 1) := by decide +kernel
theorem dX7_tray_75 : decode cX7_tray 75 = .ok (.iconst 0, 1) := by decide +kernel
theorem dX7_tray_76 : decode cX7_tray 76 = .ok (.invokevirtual 96, 3) := by decide +kernel
theorem dX7_tray_79 : decode cX7_tray 79 = .ok (.ireturn, 1) := by decide +kernel
set_option maxRecDepth 20000 in
theorem ggX7_wrong_X7_isTray : GoodIn wsX7_wrong wsX7_isTray := goodIn_r _ [5] (by decide +kernel) (by decide +kernel)
set_option maxRecDepth 20000 in
theorem gX7_wrong_X7_isTray : GoodIn wsX7_wrong (va_wsS RX7 92 yX7_isTray wsX7_isTray) := goodIn_app (goodIn_of _ (by decide +kernel)) ggX7_wrong_X7_isTray
theorem dX7_wrong_0 : decode cX7_wrong 0 = .ok (.iload_n 1, 1) := by decide +kernel
theorem dX7_wrong_1 : decode cX7_wrong 1 = .ok (.invokestatic 92, 3) := by decide +kernel
theorem dX7_wrong_4 : decode cX7_wrong 4 = .ok (.ifCond .ne 7, 3) := by decide +kernel
theorem dX7_wrong_7 : decode cX7_wrong 7 = .ok (.iconst 1, 1) := by decide +kernel
theorem dX7_wrong_8 : decode cX7_wrong 8 = .ok (.goto 36, 3) := by decide +kernel
theorem dX7_wrong_11 : decode cX7_wrong 11 = .ok (.aload_n 0, 1) := by decide +kernel
theorem dX7_wrong_12 : decode cX7_wrong 12 = .ok (.getfield 17, 3) := by decide +kernel
theorem dX7_wrong_15 : decode cX7_wrong 15 = .ok (.iload_n 1, 1) := by decide +kernel
theorem dX7_wrong_16 : decode cX7_wrong 16 = .ok (.iaload, 1) := by decide +kernel
theorem dX7_wrong_17 : decode cX7_wrong 17 = .ok (.iconst (-1), 1) := by decide +kernel
theorem dX7_wrong_18 : decode cX7_wrong 18 = .ok (.if_icmp .ne 7, 3) := by decide +kernel
theorem dX7_wrong_21 : decode cX7_wrong 21 = .ok (.iconst 2, 1) := by decide +kernel
theorem dX7_wrong_22 : decode cX7_wrong 22 = .ok (.goto 22, 3) := by decide +kernel
theorem dX7_wrong_25 : decode cX7_wrong 25 = .ok (.iload_n 2, 1) := by decide +kernel
theorem dX7_wrong_26 : decode cX7_wrong 26 = .ok (.ifCond .lt 13, 3) := by decide +kernel
theorem dX7_wrong_29 : decode cX7_wrong 29 = .ok (.iload_n 2, 1) := by decide +kernel
theorem dX7_wrong_30 : decode cX7_wrong 30 = .ok (.aload_n 0, 1) := by decide +kernel
theorem dX7_wrong_31 : decode cX7_wrong 31 = .ok (.getfield 17, 3) := by decide +kernel
theorem dX7_wrong_34 : decode cX7_wrong 34 = .ok (.iload_n 1, 1) := by decide +kernel
theorem dX7_wrong_35 : decode cX7_wrong 35 = .ok (.iaload, 1) := by decide +kernel
theorem dX7_wrong_36 : decode cX7_wrong 36 = .ok (.if_icmp .lt 7, 3) := by decide +kernel
theorem dX7_wrong_39 : decode cX7_wrong 39 = .ok (.iconst 3, 1) := by decide +kernel
theorem dX7_wrong_40 : decode cX7_wrong 40 = .ok (.goto 4, 3) := by decide +kernel
theorem dX7_wrong_43 : decode cX7_wrong 43 = .ok (.iconst 0, 1) := by decide +kernel
theorem dX7_wrong_44 : decode cX7_wrong 44 = .ok (.ireturn, 1) := by decide +kernel
set_option maxRecDepth 20000 in
theorem ggX7_write_X7_wrong : GoodIn wsX7_write wsX7_wrong := goodIn_r _ [7, 8, 9, 10, 6, 11, 20, 21, 22, 23, 24, 25, 26, 27, 28, 29, 30, 31, 32, 33, 34, 35, 36, 37, 38, 39, 40, 41, 42, 43, 44, 45, 46, 47, 48, 49] (by decide +kernel) (by decide +kernel)
set_option maxRecDepth 20000 in
theorem gX7_write_X7_wrong : GoodIn wsX7_write (wsV RX7 99 RX7 yX7_wrong wsX7_wrong) := goodIn_app (goodIn_of _ (by decide +kernel)) ggX7_write_X7_wrong
set_option maxRecDepth 20000 in
theorem ggX7_write_X7_cut : GoodIn wsX7_write wsX7_cut := goodIn_r _ [14] (by decide +kernel) (by decide +kernel)
set_option maxRecDepth 20000 in
theorem gX7_write_X7_cut : GoodIn wsX7_write (va_wsS RX7 103 yX7_cut wsX7_cut) := goodIn_app (goodIn_of _ (by decide +kernel)) ggX7_write_X7_cut
set_option maxRecDepth 20000 in
theorem ggX7_write_X7_is : GoodIn wsX7_write wsX7_is := goodIn_r _ [18, 19, 20, 21, 22, 23, 24, 25, 26, 27, 28, 29, 30, 31, 32, 33, 34, 35, 36, 37, 38, 39, 40, 41, 42, 43, 44, 45, 46, 47, 48, 49] (by decide +kernel) (by decide +kernel)
set_option maxRecDepth 20000 in
theorem gX7_write_X7_is : GoodIn wsX7_write (wsV RX7 96 RX7 yX7_is wsX7_is) := goodIn_app (goodIn_of _ (by decide +kernel)) ggX7_write_X7_is
theorem dX7_write_0 : decode cX7_write 0 = .ok (.aload_n 0, 1) := by decide +kernel
theorem dX7_write_1 : decode cX7_write 1 = .ok (.iload_n 1, 1) := by decide +kernel
theorem dX7_write_2 : decode cX7_write 2 = .ok (.iload_n 2, 1) := by decide +kernel
theorem dX7_write_3 : decode cX7_write 3 = .ok (.invokevirtual 99, 3) := by decide +kernel
theorem dX7_write_6 : decode cX7_write 6 = .ok (.istore 5, 2) := by decide +kernel
theorem dX7_write_8 : decode cX7_write 8 = .ok (.iload 5, 2) := by decide +kernel
theorem dX7_write_10 : decode cX7_write 10 = .ok (.ifCond .ne 24, 3) := by decide +kernel
theorem dX7_write_13 : decode cX7_write 13 = .ok (.aload_n 0, 1) := by decide +kernel
theorem dX7_write_14 : decode cX7_write 14 = .ok (.getfield 20, 3) := by decide +kernel
theorem dX7_write_17 : decode cX7_write 17 = .ok (.bipush 100, 2) := by decide +kernel
theorem dX7_write_19 : decode cX7_write 19 = .ok (.iload_n 1, 1) := by decide +kernel
theorem dX7_write_20 : decode cX7_write 20 = .ok (.imul, 1) := by decide +kernel
theorem dX7_write_21 : decode cX7_write 21 = .ok (.iload_n 2, 1) := by decide +kernel
theorem dX7_write_22 : decode cX7_write 22 = .ok (.iadd, 1) := by decide +kernel
theorem dX7_write_23 : decode cX7_write 23 = .ok (.lload_n 3, 1) := by decide +kernel
theorem dX7_write_24 : decode cX7_write 24 = .ok (.aload_n 0, 1) := by decide +kernel
theorem dX7_write_25 : decode cX7_write 25 = .ok (.getfield 13, 3) := by decide +kernel
theorem dX7_write_28 : decode cX7_write 28 = .ok (.iload_n 1, 1) := by decide +kernel
theorem dX7_write_29 : decode cX7_write 29 = .ok (.iaload, 1) := by decide +kernel
theorem dX7_write_30 : decode cX7_write 30 = .ok (.invokestatic 103, 3) := by decide +kernel
theorem dX7_write_33 : decode cX7_write 33 = .ok (.lastore, 1) := by decide +kernel
theorem dX7_write_34 : decode cX7_write 34 = .ok (.aload_n 0, 1) := by decide +kernel
theorem dX7_write_35 : decode cX7_write 35 = .ok (.iload 5, 2) := by decide +kernel
theorem dX7_write_37 : decode cX7_write 37 = .ok (.invokevirtual 96, 3) := by decide +kernel
theorem dX7_write_40 : decode cX7_write 40 = .ok (.ireturn, 1) := by decide +kernel
set_option maxRecDepth 20000 in
theorem ggX7_read_X7_wrong : GoodIn wsX7_read wsX7_wrong := goodIn_r _ [8, 9, 10, 11, 7, 12, 13, 14, 15, 16, 17, 18, 19, 20, 21, 22, 23, 24, 25, 26, 27, 28, 29, 30, 31, 32, 33, 34, 35, 36, 37, 38, 39, 40, 41, 42] (by decide +kernel) (by decide +kernel)
set_option maxRecDepth 20000 in
theorem gX7_read_X7_wrong : GoodIn wsX7_read (wsV RX7 99 RX7 yX7_wrong wsX7_wrong) := goodIn_app (goodIn_of _ (by decide +kernel)) ggX7_read_X7_wrong
theorem dX7_read_0 : decode cX7_read 0 = .ok (.aload_n 0, 1) := by decide +kernel
theorem dX7_read_1 : decode cX7_read 1 = .ok (.aload_n 0, 1) := by decide +kernel
theorem dX7_read_2 : decode cX7_read 2 = .ok (.iload_n 1, 1) := by decide +kernel
theorem dX7_read_3 : decode cX7_read 3 = .ok (.iload_n 2, 1) := by decide +kernel
theorem dX7_read_4 : decode cX7_read 4 = .ok (.invokevirtual 99, 3) := by decide +kernel
theorem dX7_read_7 : decode cX7_read 7 = .ok (.putfield 85, 3) := by decide +kernel
theorem dX7_read_10 : decode cX7_read 10 = .ok (.aload_n 0, 1) := by decide +kernel
theorem dX7_read_11 : decode cX7_read 11 = .ok (.getfield 85, 3) := by decide +kernel
theorem dX7_read_14 : decode cX7_read 14 = .ok (.ifCond .le 9, 3) := by decide +kernel
theorem dX7_read_17 : decode cX7_read 17 = .ok (.ldc2_w 107, 3) := by decide +kernel
theorem dX7_read_20 : decode cX7_read 20 = .ok (.goto 14, 3) := by decide +kernel
theorem dX7_read_23 : decode cX7_read 23 = .ok (.aload_n 0, 1) := by decide +kernel
theorem dX7_read_24 : decode cX7_read 24 = .ok (.getfield 20, 3) := by decide +kernel
theorem dX7_read_27 : decode cX7_read 27 = .ok (.bipush 100, 2) := by decide +kernel
theorem dX7_read_29 : decode cX7_read 29 = .ok (.iload_n 1, 1) := by decide +kernel
theorem dX7_read_30 : decode cX7_read 30 = .ok (.imul, 1) := by decide +kernel
theorem dX7_read_31 : decode cX7_read 31 = .ok (.iload_n 2, 1) := by decide +kernel
theorem dX7_read_32 : decode cX7_read 32 = .ok (.iadd, 1) := by decide +kernel
theorem dX7_read_33 : decode cX7_read 33 = .ok (.laload, 1) := by decide +kernel
theorem dX7_read_34 : decode cX7_read 34 = .ok (.lreturn, 1) := by decide +kernel
set_option maxRecDepth 20000 in
theorem ggX7_pour_X7_isTray : GoodIn wsX7_pour wsX7_isTray := goodIn_r _ [7] (by decide +kernel) (by decide +kernel)
set_option maxRecDepth 20000 in
theorem gX7_pour_X7_isTray : GoodIn wsX7_pour (va_wsS RX7 92 yX7_isTray wsX7_isTray) := goodIn_app (goodIn_of _ (by decide +kernel)) ggX7_pour_X7_isTray
set_option maxRecDepth 20000 in
theorem ggX7_pour_X7_is : GoodIn wsX7_pour wsX7_is := goodIn_r _ [11, 12, 13, 14, 15, 16, 17, 18, 19, 20, 21, 22, 23, 24, 25, 26, 27, 28, 29, 30, 31, 32, 33, 34, 35, 36, 37, 38, 39, 40, 41, 42] (by decide +kernel) (by decide +kernel)
set_option maxRecDepth 20000 in
theorem gX7_pour_X7_is : GoodIn wsX7_pour (wsV RX7 96 RX7 yX7_is wsX7_is) := goodIn_app (goodIn_of _ (by decide +kernel)) ggX7_pour_X7_is
theorem dX7_pour_0 : decode cX7_pour 0 = .ok (.iload_n 1, 1) := by decide +kernel
theorem dX7_pour_1 : decode cX7_pour 1 = .ok (.invokestatic 92, 3) := by decide +kernel
theorem dX7_pour_4 : decode cX7_pour 4 = .ok (.ifCond .eq 24, 3) := by decide +kernel
theorem dX7_pour_7 : decode cX7_pour 7 = .ok (.iload_n 3, 1) := by decide +kernel
theorem dX7_pour_8 : decode cX7_pour 8 = .ok (.invokestatic 92, 3) := by decide +kernel
theorem dX7_pour_11 : decode cX7_pour 11 = .ok (.ifCond .eq 17, 3) := by decide +kernel
theorem dX7_pour_14 : decode cX7_pour 14 = .ok (.iload_n 2, 1) := by decide +kernel
theorem dX7_pour_15 : decode cX7_pour 15 = .ok (.ifCond .lt 13, 3) := by decide +kernel
theorem dX7_pour_18 : decode cX7_pour 18 = .ok (.iload 4, 2) := by decide +kernel
theorem dX7_pour_20 : decode cX7_pour 20 = .ok (.ifCond .lt 8, 3) := by decide +kernel
theorem dX7_pour_23 : decode cX7_pour 23 = .ok (.iload 5, 2) := by decide +kernel
theorem dX7_pour_25 : decode cX7_pour 25 = .ok (.ifCond .ge 9, 3) := by decide +kernel
theorem dX7_pour_28 : decode cX7_pour 28 = .ok (.aload_n 0, 1) := by decide +kernel
theorem dX7_pour_29 : decode cX7_pour 29 = .ok (.iconst 1, 1) := by decide +kernel
theorem dX7_pour_30 : decode cX7_pour 30 = .ok (.invokevirtual 96, 3) := by decide +kernel
theorem dX7_pour_33 : decode cX7_pour 33 = .ok (.ireturn, 1) := by decide +kernel
theorem dX7_pour_34 : decode cX7_pour 34 = .ok (.aload_n 0, 1) := by decide +kernel
theorem dX7_pour_35 : decode cX7_pour 35 = .ok (.getfield 17, 3) := by decide +kernel
theorem dX7_pour_38 : decode cX7_pour 38 = .ok (.iload_n 1, 1) := by decide +kernel
theorem dX7_pour_39 : decode cX7_pour 39 = .ok (.iaload, 1) := by decide +kernel
theorem dX7_pour_40 : decode cX7_pour 40 = .ok (.iconst (-1), 1) := by decide +kernel
theorem dX7_pour_41 : decode cX7_pour 41 = .ok (.if_icmp .eq 13, 3) := by decide +kernel
theorem dX7_pour_44 : decode cX7_pour 44 = .ok (.aload_n 0, 1) := by decide +kernel
theorem dX7_pour_45 : decode cX7_pour 45 = .ok (.getfield 17, 3) := by decide +kernel
theorem dX7_pour_48 : decode cX7_pour 48 = .ok (.iload_n 3, 1) := by decide +kernel
theorem dX7_pour_49 : decode cX7_pour 49 = .ok (.iaload, 1) := by decide +kernel
theorem dX7_pour_50 : decode cX7_pour 50 = .ok (.iconst (-1), 1) := by decide +kernel
theorem dX7_pour_51 : decode cX7_pour 51 = .ok (.if_icmp .ne 9, 3) := by decide +kernel
theorem dX7_pour_54 : decode cX7_pour 54 = .ok (.aload_n 0, 1) := by decide +kernel
theorem dX7_pour_55 : decode cX7_pour 55 = .ok (.iconst 2, 1) := by decide +kernel
theorem dX7_pour_56 : decode cX7_pour 56 = .ok (.invokevirtual 96, 3) := by decide +kernel
theorem dX7_pour_59 : decode cX7_pour 59 = .ok (.ireturn, 1) := by decide +kernel
theorem dX7_pour_60 : decode cX7_pour 60 = .ok (.aload_n 0, 1) := by decide +kernel
theorem dX7_pour_61 : decode cX7_pour 61 = .ok (.getfield 13, 3) := by decide +kernel
theorem dX7_pour_64 : decode cX7_pour 64 = .ok (.iload_n 1, 1) := by decide +kernel
theorem dX7_pour_65 : decode cX7_pour 65 = .ok (.iaload, 1) := by decide +kernel
theorem dX7_pour_66 : decode cX7_pour 66 = .ok (.aload_n 0, 1) := by decide +kernel
theorem dX7_pour_67 : decode cX7_pour 67 = .ok (.getfield 13, 3) := by decide +kernel
theorem dX7_pour_70 : decode cX7_pour 70 = .ok (.iload_n 3, 1) := by decide +kernel
theorem dX7_pour_71 : decode cX7_pour 71 = .ok (.iaload, 1) := by decide +kernel
theorem dX7_pour_72 : decode cX7_pour 72 = .ok (.if_icmp .eq 10, 3) := by decide +kernel
theorem dX7_pour_75 : decode cX7_pour 75 = .ok (.aload_n 0, 1) := by decide +kernel
theorem dX7_pour_76 : decode cX7_pour 76 = .ok (.bipush 7, 2) := by decide +kernel
theorem dX7_pour_78 : decode cX7_pour 78 = .ok (.invokevirtual 96, 3) := by decide +kernel
theorem dX7_pour_81 : decode cX7_pour 81 = .ok (.ireturn, 1) := by decide +kernel
theorem dX7_pour_82 : decode cX7_pour 82 = .ok (.iload 5, 2) := by decide +kernel
theorem dX7_pour_84 : decode cX7_pour 84 = .ok (.aload_n 0, 1) := by decide +kernel
theorem dX7_pour_85 : decode cX7_pour 85 = .ok (.getfield 17, 3) := by decide +kernel
theorem dX7_pour_88 : decode cX7_pour 88 = .ok (.iload_n 1, 1) := by decide +kernel
theorem dX7_pour_89 : decode cX7_pour 89 = .ok (.iaload, 1) := by decide +kernel
theorem dX7_pour_90 : decode cX7_pour 90 = .ok (.iload_n 2, 1) := by decide +kernel
theorem dX7_pour_91 : decode cX7_pour 91 = .ok (.isub, 1) := by decide +kernel
theorem dX7_pour_92 : decode cX7_pour 92 = .ok (.if_icmp .gt 17, 3) := by decide +kernel
theorem dX7_pour_95 : decode cX7_pour 95 = .ok (.iload 5, 2) := by decide +kernel
theorem dX7_pour_97 : decode cX7_pour 97 = .ok (.aload_n 0, 1) := by decide +kernel
theorem dX7_pour_98 : decode cX7_pour 98 = .ok (.getfield 17, 3) := by decide +kernel
theorem dX7_pour_101 : decode cX7_pour 101 = .ok (.iload_n 3, 1) := by decide +kernel
theorem dX7_pour_102 : decode cX7_pour 102 = .ok (.iaload, 1) := by decide +kernel
theorem dX7_pour_103 : decode cX7_pour 103 = .ok (.iload 4, 2) := by decide +kernel
theorem dX7_pour_105 : decode cX7_pour 105 = .ok (.isub, 1) := by decide +kernel
theorem dX7_pour_106 : decode cX7_pour 106 = .ok (.if_icmp .le 9, 3) := by decide +kernel
theorem dX7_pour_109 : decode cX7_pour 109 = .ok (.aload_n 0, 1) := by decide +kernel
theorem dX7_pour_110 : decode cX7_pour 110 = .ok (.iconst 3, 1) := by decide +kernel
theorem dX7_pour_111 : decode cX7_pour 111 = .ok (.invokevirtual 96, 3) := by decide +kernel
theorem dX7_pour_114 : decode cX7_pour 114 = .ok (.ireturn, 1) := by decide +kernel
theorem dX7_pour_115 : decode cX7_pour 115 = .ok (.iconst 0, 1) := by decide +kernel
theorem dX7_pour_116 : decode cX7_pour 116 = .ok (.istore 6, 2) := by decide +kernel
theorem dX7_pour_118 : decode cX7_pour 118 = .ok (.iload 6, 2) := by decide +kernel
theorem dX7_pour_120 : decode cX7_pour 120 = .ok (.iload 5, 2) := by decide +kernel
theorem dX7_pour_122 : decode cX7_pour 122 = .ok (.if_icmp .ge 58, 3) := by decide +kernel
theorem dX7_pour_125 : decode cX7_pour 125 = .ok (.iload_n 2, 1) := by decide +kernel
theorem dX7_pour_126 : decode cX7_pour 126 = .ok (.iload 4, 2) := by decide +kernel
theorem dX7_pour_128 : decode cX7_pour 128 = .ok (.if_icmp .ge 13, 3) := by decide +kernel
theorem dX7_pour_131 : decode cX7_pour 131 = .ok (.iload 5, 2) := by decide +kernel
theorem dX7_pour_133 : decode cX7_pour 133 = .ok (.iconst 1, 1) := by decide +kernel
theorem dX7_pour_134 : decode cX7_pour 134 = .ok (.isub, 1) := by decide +kernel
theorem dX7_pour_135 : decode cX7_pour 135 = .ok (.iload 6, 2) := by decide +kernel
theorem dX7_pour_137 : decode cX7_pour 137 = .ok (.isub, 1) := by decide +kernel
theorem dX7_pour_138 : decode cX7_pour 138 = .ok (.goto 5, 3) := by decide +kernel
theorem dX7_pour_141 : decode cX7_pour 141 = .ok (.iload 6, 2) := by decide +kernel
theorem dX7_pour_143 : decode cX7_pour 143 = .ok (.istore 7, 2) := by decide +kernel
theorem dX7_pour_145 : decode cX7_pour 145 = .ok (.aload_n 0, 1) := by decide +kernel
theorem dX7_pour_146 : decode cX7_pour 146 = .ok (.getfield 20, 3) := by decide +kernel
theorem dX7_pour_149 : decode cX7_pour 149 = .ok (.bipush 100, 2) := by decide +kernel
theorem dX7_pour_151 : decode cX7_pour 151 = .ok (.iload_n 3, 1) := by decide +kernel
theorem dX7_pour_152 : decode cX7_pour 152 = .ok (.imul, 1) := by decide +kernel
theorem dX7_pour_153 : decode cX7_pour 153 = .ok (.iload 4, 2) := by decide +kernel
theorem dX7_pour_155 : decode cX7_pour 155 = .ok (.iadd, 1) := by decide +kernel
theorem dX7_pour_156 : decode cX7_pour 156 = .ok (.iload 7, 2) := by decide +kernel
theorem dX7_pour_158 : decode cX7_pour 158 = .ok (.iadd, 1) := by decide +kernel
theorem dX7_pour_159 : decode cX7_pour 159 = .ok (.aload_n 0, 1) := by decide +kernel
theorem dX7_pour_160 : decode cX7_pour 160 = .ok (.getfield 20, 3) := by decide +kernel
theorem dX7_pour_163 : decode cX7_pour 163 = .ok (.bipush 100, 2) := by decide +kernel
theorem dX7_pour_165 : decode cX7_pour 165 = .ok (.iload_n 1, 1) := by decide +kernel
theorem dX7_pour_166 : decode cX7_pour 166 = .ok (.imul, 1) := by decide +kernel
theorem dX7_pour_167 : decode cX7_pour 167 = .ok (.iload_n 2, 1) := by decide +kernel
theorem dX7_pour_168 : decode cX7_pour 168 = .ok (.iadd, 1) := by decide +kernel
theorem dX7_pour_169 : decode cX7_pour 169 = .ok (.iload 7, 2) := by decide +kernel
theorem dX7_pour_171 : decode cX7_pour 171 = .ok (.iadd, 1) := by decide +kernel
theorem dX7_pour_172 : decode cX7_pour 172 = .ok (.laload, 1) := by decide +kernel
theorem dX7_pour_173 : decode cX7_pour 173 = .ok (.lastore, 1) := by decide +kernel
theorem dX7_pour_174 : decode cX7_pour 174 = .ok (.iinc 6 1, 3) := by decide +kernel
theorem dX7_pour_177 : decode cX7_pour 177 = .ok (.goto (-59), 3) := by decide +kernel
theorem dX7_pour_180 : decode cX7_pour 180 = .ok (.aload_n 0, 1) := by decide +kernel
theorem dX7_pour_181 : decode cX7_pour 181 = .ok (.iconst 0, 1) := by decide +kernel
theorem dX7_pour_182 : decode cX7_pour 182 = .ok (.invokevirtual 96, 3) := by decide +kernel
theorem dX7_pour_185 : decode cX7_pour 185 = .ok (.ireturn, 1) := by decide +kernel
theorem dX7_isColumn_0 : decode cX7_isColumn 0 = .ok (.iload_n 0, 1) := by decide +kernel
theorem dX7_isColumn_1 : decode cX7_isColumn 1 = .ok (.ifCond .lt 12, 3) := by decide +kernel
theorem dX7_isColumn_4 : decode cX7_isColumn 4 = .ok (.iload_n 0, 1) := by decide +kernel
theorem dX7_isColumn_5 : decode cX7_isColumn 5 = .ok (.iconst 3, 1) := by decide +kernel
theorem dX7_isColumn_6 : decode cX7_isColumn 6 = .ok (.if_icmp .ge 7, 3) := by decide +kernel
theorem dX7_isColumn_9 : decode cX7_isColumn 9 = .ok (.iconst 1, 1) := by decide +kernel
theorem dX7_isColumn_10 : decode cX7_isColumn 10 = .ok (.goto 4, 3) := by decide +kernel
theorem dX7_isColumn_13 : decode cX7_isColumn 13 = .ok (.iconst 0, 1) := by decide +kernel
theorem dX7_isColumn_14 : decode cX7_isColumn 14 = .ok (.ireturn, 1) := by decide +kernel
theorem dX7_isValue_0 : decode cX7_isValue 0 = .ok (.iload_n 0, 1) := by decide +kernel
theorem dX7_isValue_1 : decode cX7_isValue 1 = .ok (.ifCond .lt 13, 3) := by decide +kernel
theorem dX7_isValue_4 : decode cX7_isValue 4 = .ok (.iload_n 0, 1) := by decide +kernel
theorem dX7_isValue_5 : decode cX7_isValue 5 = .ok (.bipush 40, 2) := by decide +kernel
theorem dX7_isValue_7 : decode cX7_isValue 7 = .ok (.if_icmp .ge 7, 3) := by decide +kernel
theorem dX7_isValue_10 : decode cX7_isValue 10 = .ok (.iconst 1, 1) := by decide +kernel
theorem dX7_isValue_11 : decode cX7_isValue 11 = .ok (.goto 4, 3) := by decide +kernel
theorem dX7_isValue_14 : decode cX7_isValue 14 = .ok (.iconst 0, 1) := by decide +kernel
theorem dX7_isValue_15 : decode cX7_isValue 15 = .ok (.ireturn, 1) := by decide +kernel
theorem dX7_all_0 : decode cX7_all 0 = .ok (.aload_n 0, 1) := by decide +kernel
theorem dX7_all_1 : decode cX7_all 1 = .ok (.getfield 30, 3) := by decide +kernel
theorem dX7_all_4 : decode cX7_all 4 = .ok (.iload_n 1, 1) := by decide +kernel
theorem dX7_all_5 : decode cX7_all 5 = .ok (.iaload, 1) := by decide +kernel
theorem dX7_all_6 : decode cX7_all 6 = .ok (.aload_n 0, 1) := by decide +kernel
theorem dX7_all_7 : decode cX7_all 7 = .ok (.getfield 27, 3) := by decide +kernel
theorem dX7_all_10 : decode cX7_all 10 = .ok (.iload_n 1, 1) := by decide +kernel
theorem dX7_all_11 : decode cX7_all 11 = .ok (.iaload, 1) := by decide +kernel
theorem dX7_all_12 : decode cX7_all 12 = .ok (.iadd, 1) := by decide +kernel
theorem dX7_all_13 : decode cX7_all 13 = .ok (.ireturn, 1) := by decide +kernel
theorem dX7_draw_0 : decode cX7_draw 0 = .ok (.aload_n 0, 1) := by decide +kernel
theorem dX7_draw_1 : decode cX7_draw 1 = .ok (.getfield 33, 3) := by decide +kernel
theorem dX7_draw_4 : decode cX7_draw 4 = .ok (.iload_n 1, 1) := by decide +kernel
theorem dX7_draw_5 : decode cX7_draw 5 = .ok (.iaload, 1) := by decide +kernel
theorem dX7_draw_6 : decode cX7_draw 6 = .ok (.ifCond .ne 4, 3) := by decide +kernel
theorem dX7_draw_9 : decode cX7_draw 9 = .ok (.return_, 1) := by decide +kernel
theorem dX7_draw_10 : decode cX7_draw 10 = .ok (.aload_n 0, 1) := by decide +kernel
theorem dX7_draw_11 : decode cX7_draw 11 = .ok (.getfield 36, 3) := by decide +kernel
theorem dX7_draw_14 : decode cX7_draw 14 = .ok (.iload_n 1, 1) := by decide +kernel
theorem dX7_draw_15 : decode cX7_draw 15 = .ok (.dup2, 1) := by decide +kernel
theorem dX7_draw_16 : decode cX7_draw 16 = .ok (.iaload, 1) := by decide +kernel
theorem dX7_draw_17 : decode cX7_draw 17 = .ok (.iconst 1, 1) := by decide +kernel
theorem dX7_draw_18 : decode cX7_draw 18 = .ok (.iadd, 1) := by decide +kernel
theorem dX7_draw_19 : decode cX7_draw 19 = .ok (.iastore, 1) := by decide +kernel
theorem dX7_draw_20 : decode cX7_draw 20 = .ok (.aload_n 0, 1) := by decide +kernel
theorem dX7_draw_21 : decode cX7_draw 21 = .ok (.getfield 36, 3) := by decide +kernel
theorem dX7_draw_24 : decode cX7_draw 24 = .ok (.iload_n 1, 1) := by decide +kernel
theorem dX7_draw_25 : decode cX7_draw 25 = .ok (.iaload, 1) := by decide +kernel
theorem dX7_draw_26 : decode cX7_draw 26 = .ok (.istore_n 3, 1) := by decide +kernel
theorem dX7_draw_27 : decode cX7_draw 27 = .ok (.iload_n 3, 1) := by decide +kernel
theorem dX7_draw_28 : decode cX7_draw 28 = .ok (.aload_n 0, 1) := by decide +kernel
theorem dX7_draw_29 : decode cX7_draw 29 = .ok (.getfield 33, 3) := by decide +kernel
theorem dX7_draw_32 : decode cX7_draw 32 = .ok (.iload_n 1, 1) := by decide +kernel
theorem dX7_draw_33 : decode cX7_draw 33 = .ok (.iaload, 1) := by decide +kernel
theorem dX7_draw_34 : decode cX7_draw 34 = .ok (.if_icmp .gt 18, 3) := by decide +kernel
theorem dX7_draw_37 : decode cX7_draw 37 = .ok (.aload_n 0, 1) := by decide +kernel
theorem dX7_draw_38 : decode cX7_draw 38 = .ok (.getfield 39, 3) := by decide +kernel
theorem dX7_draw_41 : decode cX7_draw 41 = .ok (.bipush 16, 2) := by decide +kernel
theorem dX7_draw_43 : decode cX7_draw 43 = .ok (.iload_n 1, 1) := by decide +kernel
theorem dX7_draw_44 : decode cX7_draw 44 = .ok (.imul, 1) := by decide +kernel
theorem dX7_draw_45 : decode cX7_draw 45 = .ok (.iload_n 3, 1) := by decide +kernel
theorem dX7_draw_46 : decode cX7_draw 46 = .ok (.iadd, 1) := by decide +kernel
theorem dX7_draw_47 : decode cX7_draw 47 = .ok (.iconst 1, 1) := by decide +kernel
theorem dX7_draw_48 : decode cX7_draw 48 = .ok (.isub, 1) := by decide +kernel
theorem dX7_draw_49 : decode cX7_draw 49 = .ok (.iload_n 2, 1) := by decide +kernel
theorem dX7_draw_50 : decode cX7_draw 50 = .ok (.iastore, 1) := by decide +kernel
theorem dX7_draw_51 : decode cX7_draw 51 = .ok (.return_, 1) := by decide +kernel
theorem dX7_draw_52 : decode cX7_draw 52 = .ok (.aload_n 0, 1) := by decide +kernel
theorem dX7_draw_53 : decode cX7_draw 53 = .ok (.getfield 42, 3) := by decide +kernel
theorem dX7_draw_56 : decode cX7_draw 56 = .ok (.iload_n 1, 1) := by decide +kernel
theorem dX7_draw_57 : decode cX7_draw 57 = .ok (.ldc2_w 109, 3) := by decide +kernel
theorem dX7_draw_60 : decode cX7_draw 60 = .ok (.aload_n 0, 1) := by decide +kernel
theorem dX7_draw_61 : decode cX7_draw 61 = .ok (.getfield 42, 3) := by decide +kernel
theorem dX7_draw_64 : decode cX7_draw 64 = .ok (.iload_n 1, 1) := by decide +kernel
theorem dX7_draw_65 : decode cX7_draw 65 = .ok (.laload, 1) := by decide +kernel
theorem dX7_draw_66 : decode cX7_draw 66 = .ok (.lmul, 1) := by decide +kernel
theorem dX7_draw_67 : decode cX7_draw 67 = .ok (.ldc2_w 111, 3) := by decide +kernel
theorem dX7_draw_70 : decode cX7_draw 70 = .ok (.ladd, 1) := by decide +kernel
theorem dX7_draw_71 : decode cX7_draw 71 = .ok (.ldc2_w 113, 3) := by decide +kernel
theorem dX7_draw_74 : decode cX7_draw 74 = .ok (.land, 1) := by decide +kernel
theorem dX7_draw_75 : decode cX7_draw 75 = .ok (.lastore, 1) := by decide +kernel
theorem dX7_draw_76 : decode cX7_draw 76 = .ok (.aload_n 0, 1) := by decide +kernel
theorem dX7_draw_77 : decode cX7_draw 77 = .ok (.getfield 42, 3) := by decide +kernel
theorem dX7_draw_80 : decode cX7_draw 80 = .ok (.iload_n 1, 1) := by decide +kernel
theorem dX7_draw_81 : decode cX7_draw 81 = .ok (.laload, 1) := by decide +kernel
theorem dX7_draw_82 : decode cX7_draw 82 = .ok (.ldc2_w 115, 3) := by decide +kernel
theorem dX7_draw_85 : decode cX7_draw 85 = .ok (.ldiv, 1) := by decide +kernel
theorem dX7_draw_86 : decode cX7_draw 86 = .ok (.iload_n 3, 1) := by decide +kernel
theorem dX7_draw_87 : decode cX7_draw 87 = .ok (.i2l, 1) := by decide +kernel
theorem dX7_draw_88 : decode cX7_draw 88 = .ok (.lrem, 1) := by decide +kernel
theorem dX7_draw_89 : decode cX7_draw 89 = .ok (.l2i, 1) := by decide +kernel
theorem dX7_draw_90 : decode cX7_draw 90 = .ok (.istore 4, 2) := by decide +kernel
theorem dX7_draw_92 : decode cX7_draw 92 = .ok (.iload 4, 2) := by decide +kernel
theorem dX7_draw_94 : decode cX7_draw 94 = .ok (.aload_n 0, 1) := by decide +kernel
theorem dX7_draw_95 : decode cX7_draw 95 = .ok (.getfield 33, 3) := by decide +kernel
theorem dX7_draw_98 : decode cX7_draw 98 = .ok (.iload_n 1, 1) := by decide +kernel
theorem dX7_draw_99 : decode cX7_draw 99 = .ok (.iaload, 1) := by decide +kernel
theorem dX7_draw_100 : decode cX7_draw 100 = .ok (.if_icmp .ge 16, 3) := by decide +kernel
theorem dX7_draw_103 : decode cX7_draw 103 = .ok (.aload_n 0, 1) := by decide +kernel
theorem dX7_draw_104 : decode cX7_draw 104 = .ok (.getfield 39, 3) := by decide +kernel
theorem dX7_draw_107 : decode cX7_draw 107 = .ok (.bipush 16, 2) := by decide +kernel
theorem dX7_draw_109 : decode cX7_draw 109 = .ok (.iload_n 1, 1) := by decide +kernel
theorem dX7_draw_110 : decode cX7_draw 110 = .ok (.imul, 1) := by decide +kernel
theorem dX7_draw_111 : decode cX7_draw 111 = .ok (.iload 4, 2) := by decide +kernel
theorem dX7_draw_113 : decode cX7_draw 113 = .ok (.iadd, 1) := by decide +kernel
theorem dX7_draw_114 : decode cX7_draw 114 = .ok (.iload_n 2, 1) := by decide +kernel
theorem dX7_draw_115 : decode cX7_draw 115 = .ok (.iastore, 1) := by decide +kernel
theorem dX7_draw_116 : decode cX7_draw 116 = .ok (.return_, 1) := by decide +kernel
set_option maxRecDepth 20000 in
theorem ggX7_changes_X7_spanOf : GoodIn wsX7_changes wsX7_spanOf := goodIn_r _ [13, 14, 15, 16, 17, 18, 19, 20, 21, 22, 23, 24, 25, 26, 27, 28, 29, 30, 31, 32, 33, 34, 35, 36, 37, 38, 39, 40, 41, 42, 43, 44] (by decide +kernel) (by decide +kernel)
set_option maxRecDepth 20000 in
theorem gX7_changes_X7_spanOf : GoodIn wsX7_changes (wsV RX7 117 RX7 yX7_spanOf wsX7_spanOf) := goodIn_app (goodIn_of _ (by decide +kernel)) ggX7_changes_X7_spanOf
theorem dX7_changes_0 : decode cX7_changes 0 = .ok (.iload_n 2, 1) := by decide +kernel
theorem dX7_changes_1 : decode cX7_changes 1 = .ok (.iconst (-1), 1) := by decide +kernel
theorem dX7_changes_2 : decode cX7_changes 2 = .ok (.if_icmp .ne 14, 3) := by decide +kernel
theorem dX7_changes_5 : decode cX7_changes 5 = .ok (.aload_n 0, 1) := by decide +kernel
theorem dX7_changes_6 : decode cX7_changes 6 = .ok (.getfield 27, 3) := by decide +kernel
theorem dX7_changes_9 : decode cX7_changes 9 = .ok (.iload_n 1, 1) := by decide +kernel
theorem dX7_changes_10 : decode cX7_changes 10 = .ok (.dup2, 1) := by decide +kernel
theorem dX7_changes_11 : decode cX7_changes 11 = .ok (.iaload, 1) := by decide +kernel
theorem dX7_changes_12 : decode cX7_changes 12 = .ok (.iload_n 3, 1) := by decide +kernel
theorem dX7_changes_13 : decode cX7_changes 13 = .ok (.iadd, 1) := by decide +kernel
theorem dX7_changes_14 : decode cX7_changes 14 = .ok (.iastore, 1) := by decide +kernel
theorem dX7_changes_15 : decode cX7_changes 15 = .ok (.return_, 1) := by decide +kernel
theorem dX7_changes_16 : decode cX7_changes 16 = .ok (.aload_n 0, 1) := by decide +kernel
theorem dX7_changes_17 : decode cX7_changes 17 = .ok (.getfield 24, 3) := by decide +kernel
theorem dX7_changes_20 : decode cX7_changes 20 = .ok (.bipush 40, 2) := by decide +kernel
theorem dX7_changes_22 : decode cX7_changes 22 = .ok (.iload_n 1, 1) := by decide +kernel
theorem dX7_changes_23 : decode cX7_changes 23 = .ok (.imul, 1) := by decide +kernel
theorem dX7_changes_24 : decode cX7_changes 24 = .ok (.iload_n 2, 1) := by decide +kernel
theorem dX7_changes_25 : decode cX7_changes 25 = .ok (.iadd, 1) := by decide +kernel
theorem dX7_changes_26 : decode cX7_changes 26 = .ok (.dup2, 1) := by decide +kernel
theorem dX7_changes_27 : decode cX7_changes 27 = .ok (.iaload, 1) := by decide +kernel
theorem dX7_changes_28 : decode cX7_changes 28 = .ok (.iload_n 3, 1) := by decide +kernel
theorem dX7_changes_29 : decode cX7_changes 29 = .ok (.iadd, 1) := by decide +kernel
theorem dX7_changes_30 : decode cX7_changes 30 = .ok (.iastore, 1) := by decide +kernel
theorem dX7_changes_31 : decode cX7_changes 31 = .ok (.aload_n 0, 1) := by decide +kernel
theorem dX7_changes_32 : decode cX7_changes 32 = .ok (.getfield 30, 3) := by decide +kernel
theorem dX7_changes_35 : decode cX7_changes 35 = .ok (.iload_n 1, 1) := by decide +kernel
theorem dX7_changes_36 : decode cX7_changes 36 = .ok (.dup2, 1) := by decide +kernel
theorem dX7_changes_37 : decode cX7_changes 37 = .ok (.iaload, 1) := by decide +kernel
theorem dX7_changes_38 : decode cX7_changes 38 = .ok (.iload_n 3, 1) := by decide +kernel
theorem dX7_changes_39 : decode cX7_changes 39 = .ok (.iadd, 1) := by decide +kernel
theorem dX7_changes_40 : decode cX7_changes 40 = .ok (.iastore, 1) := by decide +kernel
theorem dX7_changes_41 : decode cX7_changes 41 = .ok (.aload_n 0, 1) := by decide +kernel
theorem dX7_changes_42 : decode cX7_changes 42 = .ok (.getfield 45, 3) := by decide +kernel
theorem dX7_changes_45 : decode cX7_changes 45 = .ok (.iload_n 1, 1) := by decide +kernel
theorem dX7_changes_46 : decode cX7_changes 46 = .ok (.iaload, 1) := by decide +kernel
theorem dX7_changes_47 : decode cX7_changes 47 = .ok (.ifCond .ne 4, 3) := by decide +kernel
theorem dX7_changes_50 : decode cX7_changes 50 = .ok (.return_, 1) := by decide +kernel
theorem dX7_changes_51 : decode cX7_changes 51 = .ok (.aload_n 0, 1) := by decide +kernel
theorem dX7_changes_52 : decode cX7_changes 52 = .ok (.getfield 48, 3) := by decide +kernel
theorem dX7_changes_55 : decode cX7_changes 55 = .ok (.iload_n 1, 1) := by decide +kernel
theorem dX7_changes_56 : decode cX7_changes 56 = .ok (.dup2, 1) := by decide +kernel
theorem dX7_changes_57 : decode cX7_changes 57 = .ok (.iaload, 1) := by decide +kernel
theorem dX7_changes_58 : decode cX7_changes 58 = .ok (.iconst 1, 1) := by decide +kernel
theorem dX7_changes_59 : decode cX7_changes 59 = .ok (.iadd, 1) := by decide +kernel
theorem dX7_changes_60 : decode cX7_changes 60 = .ok (.iastore, 1) := by decide +kernel
theorem dX7_changes_61 : decode cX7_changes 61 = .ok (.aload_n 0, 1) := by decide +kernel
theorem dX7_changes_62 : decode cX7_changes 62 = .ok (.getfield 54, 3) := by decide +kernel
theorem dX7_changes_65 : decode cX7_changes 65 = .ok (.bipush 40, 2) := by decide +kernel
theorem dX7_changes_67 : decode cX7_changes 67 = .ok (.iload_n 1, 1) := by decide +kernel
theorem dX7_changes_68 : decode cX7_changes 68 = .ok (.imul, 1) := by decide +kernel
theorem dX7_changes_69 : decode cX7_changes 69 = .ok (.iload_n 2, 1) := by decide +kernel
theorem dX7_changes_70 : decode cX7_changes 70 = .ok (.iadd, 1) := by decide +kernel
theorem dX7_changes_71 : decode cX7_changes 71 = .ok (.baload, 1) := by decide +kernel
theorem dX7_changes_72 : decode cX7_changes 72 = .ok (.ifCond .eq 21, 3) := by decide +kernel
theorem dX7_changes_75 : decode cX7_changes 75 = .ok (.aload_n 0, 1) := by decide +kernel
theorem dX7_changes_76 : decode cX7_changes 76 = .ok (.getfield 51, 3) := by decide +kernel
theorem dX7_changes_79 : decode cX7_changes 79 = .ok (.bipush 40, 2) := by decide +kernel
theorem dX7_changes_81 : decode cX7_changes 81 = .ok (.iload_n 1, 1) := by decide +kernel
theorem dX7_changes_82 : decode cX7_changes 82 = .ok (.imul, 1) := by decide +kernel
theorem dX7_changes_83 : decode cX7_changes 83 = .ok (.iload_n 2, 1) := by decide +kernel
theorem dX7_changes_84 : decode cX7_changes 84 = .ok (.iadd, 1) := by decide +kernel
theorem dX7_changes_85 : decode cX7_changes 85 = .ok (.dup2, 1) := by decide +kernel
theorem dX7_changes_86 : decode cX7_changes 86 = .ok (.iaload, 1) := by decide +kernel
theorem dX7_changes_87 : decode cX7_changes 87 = .ok (.iload_n 3, 1) := by decide +kernel
theorem dX7_changes_88 : decode cX7_changes 88 = .ok (.iadd, 1) := by decide +kernel
theorem dX7_changes_89 : decode cX7_changes 89 = .ok (.iastore, 1) := by decide +kernel
theorem dX7_changes_90 : decode cX7_changes 90 = .ok (.goto 23, 3) := by decide +kernel
theorem dX7_changes_93 : decode cX7_changes 93 = .ok (.aload_n 0, 1) := by decide +kernel
theorem dX7_changes_94 : decode cX7_changes 94 = .ok (.getfield 61, 3) := by decide +kernel
theorem dX7_changes_97 : decode cX7_changes 97 = .ok (.bipush 40, 2) := by decide +kernel
theorem dX7_changes_99 : decode cX7_changes 99 = .ok (.iload_n 1, 1) := by decide +kernel
theorem dX7_changes_100 : decode cX7_changes 100 = .ok (.imul, 1) := by decide +kernel
