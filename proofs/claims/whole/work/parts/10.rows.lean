theorem dX7_splits_190 : decode cX7_splits 190 = .ok (.iadd, 1) := by decide +kernel
theorem dX7_splits_191 : decode cX7_splits 191 = .ok (.aload_n 0, 1) := by decide +kernel
theorem dX7_splits_192 : decode cX7_splits 192 = .ok (.getfield 173, 3) := by decide +kernel
theorem dX7_splits_195 : decode cX7_splits 195 = .ok (.iastore, 1) := by decide +kernel
theorem dX7_splits_196 : decode cX7_splits 196 = .ok (.aload_n 0, 1) := by decide +kernel
theorem dX7_splits_197 : decode cX7_splits 197 = .ok (.getfield 64, 3) := by decide +kernel
theorem dX7_splits_200 : decode cX7_splits 200 = .ok (.bipush 40, 2) := by decide +kernel
theorem dX7_splits_202 : decode cX7_splits 202 = .ok (.iload_n 1, 1) := by decide +kernel
theorem dX7_splits_203 : decode cX7_splits 203 = .ok (.imul, 1) := by decide +kernel
theorem dX7_splits_204 : decode cX7_splits 204 = .ok (.iload_n 2, 1) := by decide +kernel
theorem dX7_splits_205 : decode cX7_splits 205 = .ok (.iadd, 1) := by decide +kernel
theorem dX7_splits_206 : decode cX7_splits 206 = .ok (.aload_n 0, 1) := by decide +kernel
theorem dX7_splits_207 : decode cX7_splits 207 = .ok (.getfield 179, 3) := by decide +kernel
theorem dX7_splits_210 : decode cX7_splits 210 = .ok (.iastore, 1) := by decide +kernel
theorem dX7_splits_211 : decode cX7_splits 211 = .ok (.aload_n 0, 1) := by decide +kernel
theorem dX7_splits_212 : decode cX7_splits 212 = .ok (.getfield 61, 3) := by decide +kernel
theorem dX7_splits_215 : decode cX7_splits 215 = .ok (.bipush 40, 2) := by decide +kernel
theorem dX7_splits_217 : decode cX7_splits 217 = .ok (.iload_n 1, 1) := by decide +kernel
theorem dX7_splits_218 : decode cX7_splits 218 = .ok (.imul, 1) := by decide +kernel
theorem dX7_splits_219 : decode cX7_splits 219 = .ok (.iload_n 2, 1) := by decide +kernel
theorem dX7_splits_220 : decode cX7_splits 220 = .ok (.iadd, 1) := by decide +kernel
theorem dX7_splits_221 : decode cX7_splits 221 = .ok (.iconst 1, 1) := by decide +kernel
theorem dX7_splits_222 : decode cX7_splits 222 = .ok (.iadd, 1) := by decide +kernel
theorem dX7_splits_223 : decode cX7_splits 223 = .ok (.aload_n 0, 1) := by decide +kernel
theorem dX7_splits_224 : decode cX7_splits 224 = .ok (.getfield 182, 3) := by decide +kernel
theorem dX7_splits_227 : decode cX7_splits 227 = .ok (.iastore, 1) := by decide +kernel
theorem dX7_splits_228 : decode cX7_splits 228 = .ok (.aload_n 0, 1) := by decide +kernel
theorem dX7_splits_229 : decode cX7_splits 229 = .ok (.getfield 64, 3) := by decide +kernel
theorem dX7_splits_232 : decode cX7_splits 232 = .ok (.bipush 40, 2) := by decide +kernel
theorem dX7_splits_234 : decode cX7_splits 234 = .ok (.iload_n 1, 1) := by decide +kernel
theorem dX7_splits_235 : decode cX7_splits 235 = .ok (.imul, 1) := by decide +kernel
theorem dX7_splits_236 : decode cX7_splits 236 = .ok (.iload_n 2, 1) := by decide +kernel
theorem dX7_splits_237 : decode cX7_splits 237 = .ok (.iadd, 1) := by decide +kernel
theorem dX7_splits_238 : decode cX7_splits 238 = .ok (.iconst 1, 1) := by decide +kernel
theorem dX7_splits_239 : decode cX7_splits 239 = .ok (.iadd, 1) := by decide +kernel
theorem dX7_splits_240 : decode cX7_splits 240 = .ok (.aload_n 0, 1) := by decide +kernel
theorem dX7_splits_241 : decode cX7_splits 241 = .ok (.getfield 185, 3) := by decide +kernel
theorem dX7_splits_244 : decode cX7_splits 244 = .ok (.iastore, 1) := by decide +kernel
theorem dX7_splits_245 : decode cX7_splits 245 = .ok (.return_, 1) := by decide +kernel
set_option maxRecDepth 20000 in
theorem ggX7_split_X7_isValue : GoodIn wsX7_split wsX7_isValue := goodIn_r _ [7] (by decide +kernel) (by decide +kernel)
set_option maxRecDepth 20000 in
theorem gX7_split_X7_isValue : GoodIn wsX7_split (va_wsS RX7 123 yX7_isValue wsX7_isValue) := goodIn_app (goodIn_of _ (by decide +kernel)) ggX7_split_X7_isValue
set_option maxRecDepth 20000 in
theorem ggX7_split_X7_wrongSketch : GoodIn wsX7_split wsX7_wrongSketch := goodIn_r _ [11, 2, 12, 13, 6, 14, 61, 62, 63, 64, 65, 66, 67, 68, 69, 70, 71, 72, 73, 74, 75, 76, 77, 78, 79, 80, 81, 82, 83, 84, 85, 86, 87, 88, 89, 90] (by decide +kernel) (by decide +kernel)
set_option maxRecDepth 20000 in
theorem gX7_split_X7_wrongSketch : GoodIn wsX7_split (wsV RX7 166 RX7 yX7_wrongSketch wsX7_wrongSketch) := goodIn_app (goodIn_of _ (by decide +kernel)) ggX7_split_X7_wrongSketch
set_option maxRecDepth 20000 in
theorem ggX7_split_X7_refuse : GoodIn wsX7_split wsX7_refuse := goodIn_r _ [18, 3, 61, 62, 63, 64, 65, 66, 67, 68, 69, 70, 71, 72, 73, 74, 75, 76, 77, 78, 79, 80, 81, 82, 83, 84, 85, 86, 87, 88, 89, 90] (by decide +kernel) (by decide +kernel)
set_option maxRecDepth 20000 in
theorem gX7_split_X7_refuse : GoodIn wsX7_split (wsV RX7 138 RX7 yX7_refuse wsX7_refuse) := goodIn_app (goodIn_of _ (by decide +kernel)) ggX7_split_X7_refuse
set_option maxRecDepth 20000 in
theorem ggX7_split_X7_spanOf : GoodIn wsX7_split wsX7_spanOf := goodIn_r _ [22, 1, 61, 62, 63, 64, 65, 66, 67, 68, 69, 70, 71, 72, 73, 74, 75, 76, 77, 78, 79, 80, 81, 82, 83, 84, 85, 86, 87, 88, 89, 90] (by decide +kernel) (by decide +kernel)
set_option maxRecDepth 20000 in
theorem gX7_split_X7_spanOf : GoodIn wsX7_split (wsV RX7 117 RX7 yX7_spanOf wsX7_spanOf) := goodIn_app (goodIn_of _ (by decide +kernel)) ggX7_split_X7_spanOf
set_option maxRecDepth 20000 in
theorem ggX7_split_X7_splits : GoodIn wsX7_split wsX7_splits := goodIn_r _ [26, 1, 27, 28, 2, 29, 30, 31, 32, 33, 34, 35, 6, 36, 37, 38, 39, 40, 41, 42, 43, 44, 45, 46, 47, 48, 49, 50, 51, 52, 53, 54, 55, 56, 57, 58, 59, 60, 61, 62, 63, 64, 65, 66, 67, 68, 69, 70, 71, 72, 73, 74, 75, 76, 77, 78, 79, 80, 81, 82, 83, 84, 85, 86, 87, 88, 89, 90] (by decide +kernel) (by decide +kernel)
set_option maxRecDepth 20000 in
theorem gX7_split_X7_splits : GoodIn wsX7_split (wsV RX7 195 RX7 yX7_splits wsX7_splits) := goodIn_app (goodIn_of _ (by decide +kernel)) ggX7_split_X7_splits
theorem dX7_split_0 : decode cX7_split 0 = .ok (.iload_n 2, 1) := by decide +kernel
theorem dX7_split_1 : decode cX7_split 1 = .ok (.invokestatic 123, 3) := by decide +kernel
theorem dX7_split_4 : decode cX7_split 4 = .ok (.ifCond .ne 7, 3) := by decide +kernel
theorem dX7_split_7 : decode cX7_split 7 = .ok (.iconst 1, 1) := by decide +kernel
theorem dX7_split_8 : decode cX7_split 8 = .ok (.goto 8, 3) := by decide +kernel
theorem dX7_split_11 : decode cX7_split 11 = .ok (.aload_n 0, 1) := by decide +kernel
theorem dX7_split_12 : decode cX7_split 12 = .ok (.iload_n 1, 1) := by decide +kernel
theorem dX7_split_13 : decode cX7_split 13 = .ok (.invokevirtual 166, 3) := by decide +kernel
theorem dX7_split_16 : decode cX7_split 16 = .ok (.istore_n 3, 1) := by decide +kernel
theorem dX7_split_17 : decode cX7_split 17 = .ok (.iload_n 3, 1) := by decide +kernel
theorem dX7_split_18 : decode cX7_split 18 = .ok (.ifCond .le 9, 3) := by decide +kernel
theorem dX7_split_21 : decode cX7_split 21 = .ok (.aload_n 0, 1) := by decide +kernel
theorem dX7_split_22 : decode cX7_split 22 = .ok (.iload_n 3, 1) := by decide +kernel
theorem dX7_split_23 : decode cX7_split 23 = .ok (.invokevirtual 138, 3) := by decide +kernel
theorem dX7_split_26 : decode cX7_split 26 = .ok (.ireturn, 1) := by decide +kernel
theorem dX7_split_27 : decode cX7_split 27 = .ok (.aload_n 0, 1) := by decide +kernel
theorem dX7_split_28 : decode cX7_split 28 = .ok (.iload_n 1, 1) := by decide +kernel
theorem dX7_split_29 : decode cX7_split 29 = .ok (.iload_n 2, 1) := by decide +kernel
theorem dX7_split_30 : decode cX7_split 30 = .ok (.invokevirtual 117, 3) := by decide +kernel
theorem dX7_split_33 : decode cX7_split 33 = .ok (.istore 4, 2) := by decide +kernel
theorem dX7_split_35 : decode cX7_split 35 = .ok (.aload_n 0, 1) := by decide +kernel
theorem dX7_split_36 : decode cX7_split 36 = .ok (.getfield 58, 3) := by decide +kernel
theorem dX7_split_39 : decode cX7_split 39 = .ok (.bipush 40, 2) := by decide +kernel
theorem dX7_split_41 : decode cX7_split 41 = .ok (.iload_n 1, 1) := by decide +kernel
theorem dX7_split_42 : decode cX7_split 42 = .ok (.imul, 1) := by decide +kernel
theorem dX7_split_43 : decode cX7_split 43 = .ok (.iload 4, 2) := by decide +kernel
theorem dX7_split_45 : decode cX7_split 45 = .ok (.iadd, 1) := by decide +kernel
theorem dX7_split_46 : decode cX7_split 46 = .ok (.iaload, 1) := by decide +kernel
theorem dX7_split_47 : decode cX7_split 47 = .ok (.iload_n 2, 1) := by decide +kernel
theorem dX7_split_48 : decode cX7_split 48 = .ok (.if_icmp .eq 14, 3) := by decide +kernel
theorem dX7_split_51 : decode cX7_split 51 = .ok (.aload_n 0, 1) := by decide +kernel
theorem dX7_split_52 : decode cX7_split 52 = .ok (.getfield 45, 3) := by decide +kernel
theorem dX7_split_55 : decode cX7_split 55 = .ok (.iload_n 1, 1) := by decide +kernel
theorem dX7_split_56 : decode cX7_split 56 = .ok (.iaload, 1) := by decide +kernel
theorem dX7_split_57 : decode cX7_split 57 = .ok (.bipush 12, 2) := by decide +kernel
theorem dX7_split_59 : decode cX7_split 59 = .ok (.if_icmp .lt 10, 3) := by decide +kernel
theorem dX7_split_62 : decode cX7_split 62 = .ok (.aload_n 0, 1) := by decide +kernel
theorem dX7_split_63 : decode cX7_split 63 = .ok (.bipush 6, 2) := by decide +kernel
theorem dX7_split_65 : decode cX7_split 65 = .ok (.invokevirtual 138, 3) := by decide +kernel
theorem dX7_split_68 : decode cX7_split 68 = .ok (.ireturn, 1) := by decide +kernel
theorem dX7_split_69 : decode cX7_split 69 = .ok (.aload_n 0, 1) := by decide +kernel
theorem dX7_split_70 : decode cX7_split 70 = .ok (.iload_n 1, 1) := by decide +kernel
theorem dX7_split_71 : decode cX7_split 71 = .ok (.iload 4, 2) := by decide +kernel
theorem dX7_split_73 : decode cX7_split 73 = .ok (.iload_n 2, 1) := by decide +kernel
theorem dX7_split_74 : decode cX7_split 74 = .ok (.invokevirtual 195, 3) := by decide +kernel
theorem dX7_split_77 : decode cX7_split 77 = .ok (.aload_n 0, 1) := by decide +kernel
theorem dX7_split_78 : decode cX7_split 78 = .ok (.iconst 0, 1) := by decide +kernel
theorem dX7_split_79 : decode cX7_split 79 = .ok (.putfield 85, 3) := by decide +kernel
theorem dX7_split_82 : decode cX7_split 82 = .ok (.iload 4, 2) := by decide +kernel
theorem dX7_split_84 : decode cX7_split 84 = .ok (.ireturn, 1) := by decide +kernel
set_option maxRecDepth 20000 in
theorem ggX7_melts_X7_capped : GoodIn wsX7_melts wsX7_capped := goodIn_r _ [8, 9, 10, 11, 12, 13] (by decide +kernel) (by decide +kernel)
set_option maxRecDepth 20000 in
theorem gX7_melts_X7_capped : GoodIn wsX7_melts (va_wsS RX7 176 yX7_capped wsX7_capped) := goodIn_app (goodIn_of _ (by decide +kernel)) ggX7_melts_X7_capped
theorem dX7_melts_0 : decode cX7_melts 0 = .ok (.aload_n 0, 1) := by decide +kernel
theorem dX7_melts_1 : decode cX7_melts 1 = .ok (.getfield 61, 3) := by decide +kernel
theorem dX7_melts_4 : decode cX7_melts 4 = .ok (.bipush 40, 2) := by decide +kernel
theorem dX7_melts_6 : decode cX7_melts 6 = .ok (.iload_n 1, 1) := by decide +kernel
theorem dX7_melts_7 : decode cX7_melts 7 = .ok (.imul, 1) := by decide +kernel
theorem dX7_melts_8 : decode cX7_melts 8 = .ok (.iload_n 2, 1) := by decide +kernel
theorem dX7_melts_9 : decode cX7_melts 9 = .ok (.iadd, 1) := by decide +kernel
theorem dX7_melts_10 : decode cX7_melts 10 = .ok (.dup2, 1) := by decide +kernel
theorem dX7_melts_11 : decode cX7_melts 11 = .ok (.iaload, 1) := by decide +kernel
theorem dX7_melts_12 : decode cX7_melts 12 = .ok (.aload_n 0, 1) := by decide +kernel
theorem dX7_melts_13 : decode cX7_melts 13 = .ok (.getfield 61, 3) := by decide +kernel
theorem dX7_melts_16 : decode cX7_melts 16 = .ok (.bipush 40, 2) := by decide +kernel
theorem dX7_melts_18 : decode cX7_melts 18 = .ok (.iload_n 1, 1) := by decide +kernel
theorem dX7_melts_19 : decode cX7_melts 19 = .ok (.imul, 1) := by decide +kernel
theorem dX7_melts_20 : decode cX7_melts 20 = .ok (.iload_n 2, 1) := by decide +kernel
theorem dX7_melts_21 : decode cX7_melts 21 = .ok (.iadd, 1) := by decide +kernel
theorem dX7_melts_22 : decode cX7_melts 22 = .ok (.iconst 1, 1) := by decide +kernel
theorem dX7_melts_23 : decode cX7_melts 23 = .ok (.iadd, 1) := by decide +kernel
theorem dX7_melts_24 : decode cX7_melts 24 = .ok (.iaload, 1) := by decide +kernel
theorem dX7_melts_25 : decode cX7_melts 25 = .ok (.iadd, 1) := by decide +kernel
theorem dX7_melts_26 : decode cX7_melts 26 = .ok (.iastore, 1) := by decide +kernel
theorem dX7_melts_27 : decode cX7_melts 27 = .ok (.aload_n 0, 1) := by decide +kernel
theorem dX7_melts_28 : decode cX7_melts 28 = .ok (.getfield 64, 3) := by decide +kernel
theorem dX7_melts_31 : decode cX7_melts 31 = .ok (.bipush 40, 2) := by decide +kernel
theorem dX7_melts_33 : decode cX7_melts 33 = .ok (.iload_n 1, 1) := by decide +kernel
theorem dX7_melts_34 : decode cX7_melts 34 = .ok (.imul, 1) := by decide +kernel
theorem dX7_melts_35 : decode cX7_melts 35 = .ok (.iload_n 2, 1) := by decide +kernel
theorem dX7_melts_36 : decode cX7_melts 36 = .ok (.iadd, 1) := by decide +kernel
theorem dX7_melts_37 : decode cX7_melts 37 = .ok (.aload_n 0, 1) := by decide +kernel
theorem dX7_melts_38 : decode cX7_melts 38 = .ok (.getfield 64, 3) := by decide +kernel
theorem dX7_melts_41 : decode cX7_melts 41 = .ok (.bipush 40, 2) := by decide +kernel
theorem dX7_melts_43 : decode cX7_melts 43 = .ok (.iload_n 1, 1) := by decide +kernel
theorem dX7_melts_44 : decode cX7_melts 44 = .ok (.imul, 1) := by decide +kernel
theorem dX7_melts_45 : decode cX7_melts 45 = .ok (.iload_n 2, 1) := by decide +kernel
theorem dX7_melts_46 : decode cX7_melts 46 = .ok (.iadd, 1) := by decide +kernel
theorem dX7_melts_47 : decode cX7_melts 47 = .ok (.iaload, 1) := by decide +kernel
theorem dX7_melts_48 : decode cX7_melts 48 = .ok (.aload_n 0, 1) := by decide +kernel
theorem dX7_melts_49 : decode cX7_melts 49 = .ok (.getfield 64, 3) := by decide +kernel
theorem dX7_melts_52 : decode cX7_melts 52 = .ok (.bipush 40, 2) := by decide +kernel
theorem dX7_melts_54 : decode cX7_melts 54 = .ok (.iload_n 1, 1) := by decide +kernel
theorem dX7_melts_55 : decode cX7_melts 55 = .ok (.imul, 1) := by decide +kernel
theorem dX7_melts_56 : decode cX7_melts 56 = .ok (.iload_n 2, 1) := by decide +kernel
theorem dX7_melts_57 : decode cX7_melts 57 = .ok (.iadd, 1) := by decide +kernel
theorem dX7_melts_58 : decode cX7_melts 58 = .ok (.iconst 1, 1) := by decide +kernel
theorem dX7_melts_59 : decode cX7_melts 59 = .ok (.iadd, 1) := by decide +kernel
theorem dX7_melts_60 : decode cX7_melts 60 = .ok (.iaload, 1) := by decide +kernel
theorem dX7_melts_61 : decode cX7_melts 61 = .ok (.iadd, 1) := by decide +kernel
theorem dX7_melts_62 : decode cX7_melts 62 = .ok (.invokestatic 176, 3) := by decide +kernel
theorem dX7_melts_65 : decode cX7_melts 65 = .ok (.iastore, 1) := by decide +kernel
theorem dX7_melts_66 : decode cX7_melts 66 = .ok (.aload_n 0, 1) := by decide +kernel
theorem dX7_melts_67 : decode cX7_melts 67 = .ok (.getfield 58, 3) := by decide +kernel
theorem dX7_melts_70 : decode cX7_melts 70 = .ok (.bipush 40, 2) := by decide +kernel
theorem dX7_melts_72 : decode cX7_melts 72 = .ok (.iload_n 1, 1) := by decide +kernel
theorem dX7_melts_73 : decode cX7_melts 73 = .ok (.imul, 1) := by decide +kernel
theorem dX7_melts_74 : decode cX7_melts 74 = .ok (.iload_n 2, 1) := by decide +kernel
theorem dX7_melts_75 : decode cX7_melts 75 = .ok (.iadd, 1) := by decide +kernel
theorem dX7_melts_76 : decode cX7_melts 76 = .ok (.aload_n 0, 1) := by decide +kernel
theorem dX7_melts_77 : decode cX7_melts 77 = .ok (.getfield 58, 3) := by decide +kernel
theorem dX7_melts_80 : decode cX7_melts 80 = .ok (.bipush 40, 2) := by decide +kernel
theorem dX7_melts_82 : decode cX7_melts 82 = .ok (.iload_n 1, 1) := by decide +kernel
theorem dX7_melts_83 : decode cX7_melts 83 = .ok (.imul, 1) := by decide +kernel
theorem dX7_melts_84 : decode cX7_melts 84 = .ok (.iload_n 2, 1) := by decide +kernel
theorem dX7_melts_85 : decode cX7_melts 85 = .ok (.iadd, 1) := by decide +kernel
theorem dX7_melts_86 : decode cX7_melts 86 = .ok (.iconst 1, 1) := by decide +kernel
theorem dX7_melts_87 : decode cX7_melts 87 = .ok (.iadd, 1) := by decide +kernel
theorem dX7_melts_88 : decode cX7_melts 88 = .ok (.iaload, 1) := by decide +kernel
theorem dX7_melts_89 : decode cX7_melts 89 = .ok (.iastore, 1) := by decide +kernel
theorem dX7_melts_90 : decode cX7_melts 90 = .ok (.aload_n 0, 1) := by decide +kernel
theorem dX7_melts_91 : decode cX7_melts 91 = .ok (.getfield 45, 3) := by decide +kernel
theorem dX7_melts_94 : decode cX7_melts 94 = .ok (.iload_n 1, 1) := by decide +kernel
theorem dX7_melts_95 : decode cX7_melts 95 = .ok (.dup2, 1) := by decide +kernel
theorem dX7_melts_96 : decode cX7_melts 96 = .ok (.iaload, 1) := by decide +kernel
theorem dX7_melts_97 : decode cX7_melts 97 = .ok (.iconst 1, 1) := by decide +kernel
theorem dX7_melts_98 : decode cX7_melts 98 = .ok (.isub, 1) := by decide +kernel
theorem dX7_melts_99 : decode cX7_melts 99 = .ok (.iastore, 1) := by decide +kernel
theorem dX7_melts_100 : decode cX7_melts 100 = .ok (.iload_n 2, 1) := by decide +kernel
theorem dX7_melts_101 : decode cX7_melts 101 = .ok (.iconst 1, 1) := by decide +kernel
theorem dX7_melts_102 : decode cX7_melts 102 = .ok (.iadd, 1) := by decide +kernel
theorem dX7_melts_103 : decode cX7_melts 103 = .ok (.istore_n 3, 1) := by decide +kernel
theorem dX7_melts_104 : decode cX7_melts 104 = .ok (.iload_n 3, 1) := by decide +kernel
theorem dX7_melts_105 : decode cX7_melts 105 = .ok (.aload_n 0, 1) := by decide +kernel
theorem dX7_melts_106 : decode cX7_melts 106 = .ok (.getfield 45, 3) := by decide +kernel
theorem dX7_melts_109 : decode cX7_melts 109 = .ok (.iload_n 1, 1) := by decide +kernel
theorem dX7_melts_110 : decode cX7_melts 110 = .ok (.iaload, 1) := by decide +kernel
theorem dX7_melts_111 : decode cX7_melts 111 = .ok (.if_icmp .ge 81, 3) := by decide +kernel
theorem dX7_melts_114 : decode cX7_melts 114 = .ok (.aload_n 0, 1) := by decide +kernel
theorem dX7_melts_115 : decode cX7_melts 115 = .ok (.getfield 58, 3) := by decide +kernel
theorem dX7_melts_118 : decode cX7_melts 118 = .ok (.bipush 40, 2) := by decide +kernel
theorem dX7_melts_120 : decode cX7_melts 120 = .ok (.iload_n 1, 1) := by decide +kernel
theorem dX7_melts_121 : decode cX7_melts 121 = .ok (.imul, 1) := by decide +kernel
theorem dX7_melts_122 : decode cX7_melts 122 = .ok (.iload_n 3, 1) := by decide +kernel
theorem dX7_melts_123 : decode cX7_melts 123 = .ok (.iadd, 1) := by decide +kernel
theorem dX7_melts_124 : decode cX7_melts 124 = .ok (.aload_n 0, 1) := by decide +kernel
theorem dX7_melts_125 : decode cX7_melts 125 = .ok (.getfield 58, 3) := by decide +kernel
theorem dX7_melts_128 : decode cX7_melts 128 = .ok (.bipush 40, 2) := by decide +kernel
theorem dX7_melts_130 : decode cX7_melts 130 = .ok (.iload_n 1, 1) := by decide +kernel
theorem dX7_melts_131 : decode cX7_melts 131 = .ok (.imul, 1) := by decide +kernel
theorem dX7_melts_132 : decode cX7_melts 132 = .ok (.iload_n 3, 1) := by decide +kernel
theorem dX7_melts_133 : decode cX7_melts 133 = .ok (.iadd, 1) := by decide +kernel
theorem dX7_melts_134 : decode cX7_melts 134 = .ok (.iconst 1, 1) := by decide +kernel
theorem dX7_melts_135 : decode cX7_melts 135 = .ok (.iadd, 1) := by decide +kernel
theorem dX7_melts_136 : decode cX7_melts 136 = .ok (.iaload, 1) := by decide +kernel
theorem dX7_melts_137 : decode cX7_melts 137 = .ok (.iastore, 1) := by decide +kernel
theorem dX7_melts_138 : decode cX7_melts 138 = .ok (.aload_n 0, 1) := by decide +kernel
theorem dX7_melts_139 : decode cX7_melts 139 = .ok (.getfield 61, 3) := by decide +kernel
theorem dX7_melts_142 : decode cX7_melts 142 = .ok (.bipush 40, 2) := by decide +kernel
theorem dX7_melts_144 : decode cX7_melts 144 = .ok (.iload_n 1, 1) := by decide +kernel
theorem dX7_melts_145 : decode cX7_melts 145 = .ok (.imul, 1) := by decide +kernel
theorem dX7_melts_146 : decode cX7_melts 146 = .ok (.iload_n 3, 1) := by decide +kernel
theorem dX7_melts_147 : decode cX7_melts 147 = .ok (.iadd, 1) := by decide +kernel
theorem dX7_melts_148 : decode cX7_melts 148 = .ok (.aload_n 0, 1) := by decide +kernel
theorem dX7_melts_149 : decode cX7_melts 149 = .ok (.getfield 61, 3) := by decide +kernel
theorem dX7_melts_152 : decode cX7_melts 152 = .ok (.bipush 40, 2) := by decide +kernel
theorem dX7_melts_154 : decode cX7_melts 154 = .ok (.iload_n 1, 1) := by decide +kernel
theorem dX7_melts_155 : decode cX7_melts 155 = .ok (.imul, 1) := by decide +kernel
theorem dX7_melts_156 : decode cX7_melts 156 = .ok (.iload_n 3, 1) := by decide +kernel
theorem dX7_melts_157 : decode cX7_melts 157 = .ok (.iadd, 1) := by decide +kernel
theorem dX7_melts_158 : decode cX7_melts 158 = .ok (.iconst 1, 1) := by decide +kernel
theorem dX7_melts_159 : decode cX7_melts 159 = .ok (.iadd, 1) := by decide +kernel
theorem dX7_melts_160 : decode cX7_melts 160 = .ok (.iaload, 1) := by decide +kernel
theorem dX7_melts_161 : decode cX7_melts 161 = .ok (.iastore, 1) := by decide +kernel
theorem dX7_melts_162 : decode cX7_melts 162 = .ok (.aload_n 0, 1) := by decide +kernel
theorem dX7_melts_163 : decode cX7_melts 163 = .ok (.getfield 64, 3) := by decide +kernel
theorem dX7_melts_166 : decode cX7_melts 166 = .ok (.bipush 40, 2) := by decide +kernel
theorem dX7_melts_168 : decode cX7_melts 168 = .ok (.iload_n 1, 1) := by decide +kernel
theorem dX7_melts_169 : decode cX7_melts 169 = .ok (.imul, 1) := by decide +kernel
theorem dX7_melts_170 : decode cX7_melts 170 = .ok (.iload_n 3, 1) := by decide +kernel
theorem dX7_melts_171 : decode cX7_melts 171 = .ok (.iadd, 1) := by decide +kernel
theorem dX7_melts_172 : decode cX7_melts 172 = .ok (.aload_n 0, 1) := by decide +kernel
theorem dX7_melts_173 : decode cX7_melts 173 = .ok (.getfield 64, 3) := by decide +kernel
theorem dX7_melts_176 : decode cX7_melts 176 = .ok (.bipush 40, 2) := by decide +kernel
theorem dX7_melts_178 : decode cX7_melts 178 = .ok (.iload_n 1, 1) := by decide +kernel
theorem dX7_melts_179 : decode cX7_melts 179 = .ok (.imul, 1) := by decide +kernel
theorem dX7_melts_180 : decode cX7_melts 180 = .ok (.iload_n 3, 1) := by decide +kernel
theorem dX7_melts_181 : decode cX7_melts 181 = .ok (.iadd, 1) := by decide +kernel
theorem dX7_melts_182 : decode cX7_melts 182 = .ok (.iconst 1, 1) := by decide +kernel
theorem dX7_melts_183 : decode cX7_melts 183 = .ok (.iadd, 1) := by decide +kernel
theorem dX7_melts_184 : decode cX7_melts 184 = .ok (.iaload, 1) := by decide +kernel
theorem dX7_melts_185 : decode cX7_melts 185 = .ok (.iastore, 1) := by decide +kernel
theorem dX7_melts_186 : decode cX7_melts 186 = .ok (.iinc 3 1, 3) := by decide +kernel
theorem dX7_melts_189 : decode cX7_melts 189 = .ok (.goto (-85), 3) := by decide +kernel
theorem dX7_melts_192 : decode cX7_melts 192 = .ok (.return_, 1) := by decide +kernel
set_option maxRecDepth 20000 in
theorem ggX7_melt_X7_wrongSketch : GoodIn wsX7_melt wsX7_wrongSketch := goodIn_r _ [6, 1, 7, 8, 5, 9, 30, 31, 32, 33, 34, 35, 36, 37, 38, 39, 40, 41, 42, 43, 44, 45, 46, 47, 48, 49, 50, 51, 52, 53, 54, 55, 56, 57, 58, 59] (by decide +kernel) (by decide +kernel)
set_option maxRecDepth 20000 in
theorem gX7_melt_X7_wrongSketch : GoodIn wsX7_melt (wsV RX7 166 RX7 yX7_wrongSketch wsX7_wrongSketch) := goodIn_app (goodIn_of _ (by decide +kernel)) ggX7_melt_X7_wrongSketch
set_option maxRecDepth 20000 in
theorem ggX7_melt_X7_melts : GoodIn wsX7_melt wsX7_melts := goodIn_r _ [13, 14, 15, 16, 1, 17, 18, 5, 19, 20, 21, 22, 23, 24, 30, 31, 32, 33, 34, 35, 36, 37, 38, 39, 40, 41, 42, 43, 44, 45, 46, 47, 48, 49, 50, 51, 52, 53, 54, 55, 56, 57, 58, 59] (by decide +kernel) (by decide +kernel)
set_option maxRecDepth 20000 in
theorem gX7_melt_X7_melts : GoodIn wsX7_melt (wsV RX7 198 RX7 yX7_melts wsX7_melts) := goodIn_app (goodIn_of _ (by decide +kernel)) ggX7_melt_X7_melts
set_option maxRecDepth 20000 in
theorem ggX7_melt_X7_is : GoodIn wsX7_melt wsX7_is := goodIn_r _ [28, 29, 30, 31, 32, 33, 34, 35, 36, 37, 38, 39, 40, 41, 42, 43, 44, 45, 46, 47, 48, 49, 50, 51, 52, 53, 54, 55, 56, 57, 58, 59] (by decide +kernel) (by decide +kernel)
set_option maxRecDepth 20000 in
theorem gX7_melt_X7_is : GoodIn wsX7_melt (wsV RX7 96 RX7 yX7_is wsX7_is) := goodIn_app (goodIn_of _ (by decide +kernel)) ggX7_melt_X7_is
theorem dX7_melt_0 : decode cX7_melt 0 = .ok (.aload_n 0, 1) := by decide +kernel
theorem dX7_melt_1 : decode cX7_melt 1 = .ok (.iload_n 1, 1) := by decide +kernel
theorem dX7_melt_2 : decode cX7_melt 2 = .ok (.invokevirtual 166, 3) := by decide +kernel
theorem dX7_melt_5 : decode cX7_melt 5 = .ok (.istore_n 3, 1) := by decide +kernel
theorem dX7_melt_6 : decode cX7_melt 6 = .ok (.iload_n 3, 1) := by decide +kernel
theorem dX7_melt_7 : decode cX7_melt 7 = .ok (.ifCond .ne 22, 3) := by decide +kernel
theorem dX7_melt_10 : decode cX7_melt 10 = .ok (.iload_n 2, 1) := by decide +kernel
theorem dX7_melt_11 : decode cX7_melt 11 = .ok (.ifCond .lt 15, 3) := by decide +kernel
theorem dX7_melt_14 : decode cX7_melt 14 = .ok (.iload_n 2, 1) := by decide +kernel
theorem dX7_melt_15 : decode cX7_melt 15 = .ok (.aload_n 0, 1) := by decide +kernel
theorem dX7_melt_16 : decode cX7_melt 16 = .ok (.getfield 45, 3) := by decide +kernel
theorem dX7_melt_19 : decode cX7_melt 19 = .ok (.iload_n 1, 1) := by decide +kernel
theorem dX7_melt_20 : decode cX7_melt 20 = .ok (.iaload, 1) := by decide +kernel
theorem dX7_melt_21 : decode cX7_melt 21 = .ok (.iconst 1, 1) := by decide +kernel
theorem dX7_melt_22 : decode cX7_melt 22 = .ok (.isub, 1) := by decide +kernel
theorem dX7_melt_23 : decode cX7_melt 23 = .ok (.if_icmp .lt 6, 3) := by decide +kernel
theorem dX7_melt_26 : decode cX7_melt 26 = .ok (.bipush 6, 2) := by decide +kernel
theorem dX7_melt_28 : decode cX7_melt 28 = .ok (.istore_n 3, 1) := by decide +kernel
theorem dX7_melt_29 : decode cX7_melt 29 = .ok (.iload_n 3, 1) := by decide +kernel
theorem dX7_melt_30 : decode cX7_melt 30 = .ok (.ifCond .ne 9, 3) := by decide +kernel
theorem dX7_melt_33 : decode cX7_melt 33 = .ok (.aload_n 0, 1) := by decide +kernel
theorem dX7_melt_34 : decode cX7_melt 34 = .ok (.iload_n 1, 1) := by decide +kernel
theorem dX7_melt_35 : decode cX7_melt 35 = .ok (.iload_n 2, 1) := by decide +kernel
theorem dX7_melt_36 : decode cX7_melt 36 = .ok (.invokevirtual 198, 3) := by decide +kernel
theorem dX7_melt_39 : decode cX7_melt 39 = .ok (.aload_n 0, 1) := by decide +kernel
theorem dX7_melt_40 : decode cX7_melt 40 = .ok (.iload_n 3, 1) := by decide +kernel
theorem dX7_melt_41 : decode cX7_melt 41 = .ok (.invokevirtual 96, 3) := by decide +kernel
theorem dX7_melt_44 : decode cX7_melt 44 = .ok (.ireturn, 1) := by decide +kernel
set_option maxRecDepth 20000 in
theorem ggX7_pair_X7_both : GoodIn wsX7_pair wsX7_both := goodIn_r _ [6, 7, 8, 9, 10, 11, 12, 13, 14, 15, 16, 17, 18, 19, 20, 21, 22, 23, 24, 25, 26, 27, 28, 29, 30, 31, 32, 33, 34, 35, 36, 37] (by decide +kernel) (by decide +kernel)
set_option maxRecDepth 20000 in
theorem gX7_pair_X7_both : GoodIn wsX7_pair (wsV RX7 201 RX7 yX7_both wsX7_both) := goodIn_app (goodIn_of _ (by decide +kernel)) ggX7_pair_X7_both
theorem dX7_pair_0 : decode cX7_pair 0 = .ok (.iconst (-1), 1) := by decide +kernel
theorem dX7_pair_1 : decode cX7_pair 1 = .ok (.istore_n 3, 1) := by decide +kernel
theorem dX7_pair_2 : decode cX7_pair 2 = .ok (.iconst 0, 1) := by decide +kernel
theorem dX7_pair_3 : decode cX7_pair 3 = .ok (.istore 4, 2) := by decide +kernel
theorem dX7_pair_5 : decode cX7_pair 5 = .ok (.iload 4, 2) := by decide +kernel
theorem dX7_pair_7 : decode cX7_pair 7 = .ok (.iconst 1, 1) := by decide +kernel
theorem dX7_pair_8 : decode cX7_pair 8 = .ok (.iadd, 1) := by decide +kernel
theorem dX7_pair_9 : decode cX7_pair 9 = .ok (.aload_n 0, 1) := by decide +kernel
theorem dX7_pair_10 : decode cX7_pair 10 = .ok (.getfield 45, 3) := by decide +kernel
theorem dX7_pair_13 : decode cX7_pair 13 = .ok (.iload_n 1, 1) := by decide +kernel
theorem dX7_pair_14 : decode cX7_pair 14 = .ok (.iaload, 1) := by decide +kernel
theorem dX7_pair_15 : decode cX7_pair 15 = .ok (.if_icmp .ge 50, 3) := by decide +kernel
theorem dX7_pair_18 : decode cX7_pair 18 = .ok (.iload 4, 2) := by decide +kernel
theorem dX7_pair_20 : decode cX7_pair 20 = .ok (.iload_n 2, 1) := by decide +kernel
theorem dX7_pair_21 : decode cX7_pair 21 = .ok (.if_icmp .eq 38, 3) := by decide +kernel
theorem dX7_pair_24 : decode cX7_pair 24 = .ok (.iload 4, 2) := by decide +kernel
theorem dX7_pair_26 : decode cX7_pair 26 = .ok (.iconst 1, 1) := by decide +kernel
theorem dX7_pair_27 : decode cX7_pair 27 = .ok (.iadd, 1) := by decide +kernel
theorem dX7_pair_28 : decode cX7_pair 28 = .ok (.iload_n 2, 1) := by decide +kernel
theorem dX7_pair_29 : decode cX7_pair 29 = .ok (.if_icmp .ne 6, 3) := by decide +kernel
theorem dX7_pair_32 : decode cX7_pair 32 = .ok (.goto 27, 3) := by decide +kernel
theorem dX7_pair_35 : decode cX7_pair 35 = .ok (.iload_n 3, 1) := by decide +kernel
theorem dX7_pair_36 : decode cX7_pair 36 = .ok (.iconst (-1), 1) := by decide +kernel
theorem dX7_pair_37 : decode cX7_pair 37 = .ok (.if_icmp .eq 19, 3) := by decide +kernel
theorem dX7_pair_40 : decode cX7_pair 40 = .ok (.aload_n 0, 1) := by decide +kernel
theorem dX7_pair_41 : decode cX7_pair 41 = .ok (.iload_n 1, 1) := by decide +kernel
theorem dX7_pair_42 : decode cX7_pair 42 = .ok (.iload 4, 2) := by decide +kernel
theorem dX7_pair_44 : decode cX7_pair 44 = .ok (.invokevirtual 201, 3) := by decide +kernel
theorem dX7_pair_47 : decode cX7_pair 47 = .ok (.aload_n 0, 1) := by decide +kernel
theorem dX7_pair_48 : decode cX7_pair 48 = .ok (.iload_n 1, 1) := by decide +kernel
theorem dX7_pair_49 : decode cX7_pair 49 = .ok (.iload_n 3, 1) := by decide +kernel
theorem dX7_pair_50 : decode cX7_pair 50 = .ok (.invokevirtual 201, 3) := by decide +kernel
theorem dX7_pair_53 : decode cX7_pair 53 = .ok (.if_icmp .ge 6, 3) := by decide +kernel
theorem dX7_pair_56 : decode cX7_pair 56 = .ok (.iload 4, 2) := by decide +kernel
theorem dX7_pair_58 : decode cX7_pair 58 = .ok (.istore_n 3, 1) := by decide +kernel
theorem dX7_pair_59 : decode cX7_pair 59 = .ok (.iinc 4 1, 3) := by decide +kernel
theorem dX7_pair_62 : decode cX7_pair 62 = .ok (.goto (-57), 3) := by decide +kernel
theorem dX7_pair_65 : decode cX7_pair 65 = .ok (.iload_n 3, 1) := by decide +kernel
theorem dX7_pair_66 : decode cX7_pair 66 = .ok (.ireturn, 1) := by decide +kernel
theorem dX7_both_0 : decode cX7_both 0 = .ok (.aload_n 0, 1) := by decide +kernel
theorem dX7_both_1 : decode cX7_both 1 = .ok (.getfield 61, 3) := by decide +kernel
theorem dX7_both_4 : decode cX7_both 4 = .ok (.bipush 40, 2) := by decide +kernel
theorem dX7_both_6 : decode cX7_both 6 = .ok (.iload_n 1, 1) := by decide +kernel
theorem dX7_both_7 : decode cX7_both 7 = .ok (.imul, 1) := by decide +kernel
theorem dX7_both_8 : decode cX7_both 8 = .ok (.iload_n 2, 1) := by decide +kernel
theorem dX7_both_9 : decode cX7_both 9 = .ok (.iadd, 1) := by decide +kernel
theorem dX7_both_10 : decode cX7_both 10 = .ok (.iaload, 1) := by decide +kernel
theorem dX7_both_11 : decode cX7_both 11 = .ok (.aload_n 0, 1) := by decide +kernel
theorem dX7_both_12 : decode cX7_both 12 = .ok (.getfield 61, 3) := by decide +kernel
theorem dX7_both_15 : decode cX7_both 15 = .ok (.bipush 40, 2) := by decide +kernel
theorem dX7_both_17 : decode cX7_both 17 = .ok (.iload_n 1, 1) := by decide +kernel
theorem dX7_both_18 : decode cX7_both 18 = .ok (.imul, 1) := by decide +kernel
theorem dX7_both_19 : decode cX7_both 19 = .ok (.iload_n 2, 1) := by decide +kernel
theorem dX7_both_20 : decode cX7_both 20 = .ok (.iadd, 1) := by decide +kernel
theorem dX7_both_21 : decode cX7_both 21 = .ok (.iconst 1, 1) := by decide +kernel
theorem dX7_both_22 : decode cX7_both 22 = .ok (.iadd, 1) := by decide +kernel
theorem dX7_both_23 : decode cX7_both 23 = .ok (.iaload, 1) := by decide +kernel
theorem dX7_both_24 : decode cX7_both 24 = .ok (.iadd, 1) := by decide +kernel
theorem dX7_both_25 : decode cX7_both 25 = .ok (.ireturn, 1) := by decide +kernel
set_option maxRecDepth 20000 in
theorem ggX7_keep_X7_wrongSketch : GoodIn wsX7_keep wsX7_wrongSketch := goodIn_r _ [8, 2, 9, 10, 7, 11, 70, 71, 72, 73, 74, 75, 76, 77, 78, 79, 80, 81, 82, 83, 84, 85, 86, 87, 88, 89, 90, 91, 92, 93, 94, 95, 96, 97, 98, 99] (by decide +kernel) (by decide +kernel)
set_option maxRecDepth 20000 in
theorem gX7_keep_X7_wrongSketch : GoodIn wsX7_keep (wsV RX7 166 RX7 yX7_wrongSketch wsX7_wrongSketch) := goodIn_app (goodIn_of _ (by decide +kernel)) ggX7_keep_X7_wrongSketch
set_option maxRecDepth 20000 in
theorem ggX7_keep_X7_refuse : GoodIn wsX7_keep wsX7_refuse := goodIn_r _ [15, 1, 70, 71, 72, 73, 74, 75, 76, 77, 78, 79, 80, 81, 82, 83, 84, 85, 86, 87, 88, 89, 90, 91, 92, 93, 94, 95, 96, 97, 98, 99] (by decide +kernel) (by decide +kernel)
set_option maxRecDepth 20000 in
theorem gX7_keep_X7_refuse : GoodIn wsX7_keep (wsV RX7 138 RX7 yX7_refuse wsX7_refuse) := goodIn_app (goodIn_of _ (by decide +kernel)) ggX7_keep_X7_refuse
set_option maxRecDepth 20000 in
theorem ggX7_keep_X7_longOf : GoodIn wsX7_keep wsX7_longOf := goodIn_r _ [19, 20, 21, 22, 23, 7, 24, 25, 26, 27, 28, 29, 70, 71, 72, 73, 74, 75, 76, 77, 78, 79, 80, 81, 82, 83, 84, 85, 86, 87, 88, 89, 90, 91, 92, 93, 94, 95, 96, 97, 98, 99] (by decide +kernel) (by decide +kernel)
set_option maxRecDepth 20000 in
theorem gX7_keep_X7_longOf : GoodIn wsX7_keep (wsV RX7 169 RX7 yX7_longOf wsX7_longOf) := goodIn_app (goodIn_of _ (by decide +kernel)) ggX7_keep_X7_longOf
set_option maxRecDepth 20000 in
theorem ggX7_keep_X7_pair : GoodIn wsX7_keep wsX7_pair := goodIn_r _ [33, 2, 34, 35, 36, 7, 37, 3, 70, 71, 72, 73, 74, 75, 76, 77, 78, 79, 80, 81, 82, 83, 84, 85, 86, 87, 88, 89, 90, 91, 92, 93, 94, 95, 96, 97, 98, 99] (by decide +kernel) (by decide +kernel)
set_option maxRecDepth 20000 in
theorem gX7_keep_X7_pair : GoodIn wsX7_keep (wsV RX7 204 RX7 yX7_pair wsX7_pair) := goodIn_app (goodIn_of _ (by decide +kernel)) ggX7_keep_X7_pair
set_option maxRecDepth 20000 in
theorem ggX7_keep_X7_both : GoodIn wsX7_keep wsX7_both := goodIn_r _ [37, 3, 70, 71, 72, 73, 74, 75, 76, 77, 78, 79, 80, 81, 82, 83, 84, 85, 86, 87, 88, 89, 90, 91, 92, 93, 94, 95, 96, 97, 98, 99] (by decide +kernel) (by decide +kernel)
set_option maxRecDepth 20000 in
theorem gX7_keep_X7_both : GoodIn wsX7_keep (wsV RX7 201 RX7 yX7_both wsX7_both) := goodIn_app (goodIn_of _ (by decide +kernel)) ggX7_keep_X7_both
set_option maxRecDepth 20000 in
theorem ggX7_keep_X7_melts : GoodIn wsX7_keep wsX7_melts := goodIn_r _ [41, 3, 42, 20, 2, 43, 44, 7, 45, 46, 47, 48, 49, 50, 70, 71, 72, 73, 74, 75, 76, 77, 78, 79, 80, 81, 82, 83, 84, 85, 86, 87, 88, 89, 90, 91, 92, 93, 94, 95, 96, 97, 98, 99] (by decide +kernel) (by decide +kernel)
set_option maxRecDepth 20000 in
theorem gX7_keep_X7_melts : GoodIn wsX7_keep (wsV RX7 198 RX7 yX7_melts wsX7_melts) := goodIn_app (goodIn_of _ (by decide +kernel)) ggX7_keep_X7_melts
set_option maxRecDepth 20000 in
theorem ggX7_keep_X7_begins : GoodIn wsX7_keep wsX7_begins := goodIn_r _ [24, 20, 70, 71, 72, 73, 74, 75, 76, 77, 78, 79, 80, 81, 82, 83, 84, 85, 86, 87, 88, 89, 90, 91, 92, 93, 94, 95, 96, 97, 98, 99] (by decide +kernel) (by decide +kernel)
set_option maxRecDepth 20000 in
theorem gX7_keep_X7_begins : GoodIn wsX7_keep (wsV RX7 143 RX7 yX7_begins wsX7_begins) := goodIn_app (goodIn_of _ (by decide +kernel)) ggX7_keep_X7_begins
set_option maxRecDepth 20000 in
theorem ggX7_keep_X7_light : GoodIn wsX7_keep wsX7_light := goodIn_r _ [28, 29, 70, 71, 72, 73, 74, 75, 76, 77, 78, 79, 80, 81, 82, 83, 84, 85, 86, 87, 88, 89, 90, 91, 92, 93, 94, 95, 96, 97, 98, 99] (by decide +kernel) (by decide +kernel)
set_option maxRecDepth 20000 in
theorem gX7_keep_X7_light : GoodIn wsX7_keep (wsV RX7 146 RX7 yX7_light wsX7_light) := goodIn_app (goodIn_of _ (by decide +kernel)) ggX7_keep_X7_light
set_option maxRecDepth 20000 in
theorem ggX7_keep_X7_splits : GoodIn wsX7_keep wsX7_splits := goodIn_r _ [54, 20, 3, 42, 2, 55, 56, 57, 58, 21, 22, 23, 7, 24, 25, 26, 27, 28, 29, 59, 60, 61, 62, 63, 64, 49, 65, 43, 44, 45, 46, 47, 48, 50, 66, 67, 68, 69, 70, 71, 72, 73, 74, 75, 76, 77, 78, 79, 80, 81, 82, 83, 84, 85, 86, 87, 88, 89, 90, 91, 92, 93, 94, 95, 96, 97, 98, 99] (by decide +kernel) (by decide +kernel)
set_option maxRecDepth 20000 in
theorem gX7_keep_X7_splits : GoodIn wsX7_keep (wsV RX7 195 RX7 yX7_splits wsX7_splits) := goodIn_app (goodIn_of _ (by decide +kernel)) ggX7_keep_X7_splits
theorem dX7_keep_0 : decode cX7_keep 0 = .ok (.aload_n 0, 1) := by decide +kernel
theorem dX7_keep_1 : decode cX7_keep 1 = .ok (.iload_n 1, 1) := by decide +kernel
theorem dX7_keep_2 : decode cX7_keep 2 = .ok (.invokevirtual 166, 3) := by decide +kernel
theorem dX7_keep_5 : decode cX7_keep 5 = .ok (.istore_n 2, 1) := by decide +kernel
theorem dX7_keep_6 : decode cX7_keep 6 = .ok (.iload_n 2, 1) := by decide +kernel
theorem dX7_keep_7 : decode cX7_keep 7 = .ok (.ifCond .le 9, 3) := by decide +kernel
theorem dX7_keep_10 : decode cX7_keep 10 = .ok (.aload_n 0, 1) := by decide +kernel
theorem dX7_keep_11 : decode cX7_keep 11 = .ok (.iload_n 2, 1) := by decide +kernel
theorem dX7_keep_12 : decode cX7_keep 12 = .ok (.invokevirtual 138, 3) := by decide +kernel
theorem dX7_keep_15 : decode cX7_keep 15 = .ok (.ireturn, 1) := by decide +kernel
theorem dX7_keep_16 : decode cX7_keep 16 = .ok (.aload_n 0, 1) := by decide +kernel
theorem dX7_keep_17 : decode cX7_keep 17 = .ok (.iconst 0, 1) := by decide +kernel
theorem dX7_keep_18 : decode cX7_keep 18 = .ok (.putfield 85, 3) := by decide +kernel
theorem dX7_keep_21 : decode cX7_keep 21 = .ok (.iconst (-1), 1) := by decide +kernel
theorem dX7_keep_22 : decode cX7_keep 22 = .ok (.istore_n 3, 1) := by decide +kernel
theorem dX7_keep_23 : decode cX7_keep 23 = .ok (.iconst 0, 1) := by decide +kernel
theorem dX7_keep_24 : decode cX7_keep 24 = .ok (.istore 4, 2) := by decide +kernel
theorem dX7_keep_26 : decode cX7_keep 26 = .ok (.iload 4, 2) := by decide +kernel
theorem dX7_keep_28 : decode cX7_keep 28 = .ok (.aload_n 0, 1) := by decide +kernel
theorem dX7_keep_29 : decode cX7_keep 29 = .ok (.getfield 45, 3) := by decide +kernel
theorem dX7_keep_32 : decode cX7_keep 32 = .ok (.iload_n 1, 1) := by decide +kernel
theorem dX7_keep_33 : decode cX7_keep 33 = .ok (.iaload, 1) := by decide +kernel
theorem dX7_keep_34 : decode cX7_keep 34 = .ok (.if_icmp .ge 54, 3) := by decide +kernel
theorem dX7_keep_37 : decode cX7_keep 37 = .ok (.aload_n 0, 1) := by decide +kernel
theorem dX7_keep_38 : decode cX7_keep 38 = .ok (.iload_n 1, 1) := by decide +kernel
theorem dX7_keep_39 : decode cX7_keep 39 = .ok (.iload 4, 2) := by decide +kernel
theorem dX7_keep_41 : decode cX7_keep 41 = .ok (.invokevirtual 169, 3) := by decide +kernel
theorem dX7_keep_44 : decode cX7_keep 44 = .ok (.iconst 2, 1) := by decide +kernel
theorem dX7_keep_45 : decode cX7_keep 45 = .ok (.if_icmp .lt 37, 3) := by decide +kernel
theorem dX7_keep_48 : decode cX7_keep 48 = .ok (.iload_n 3, 1) := by decide +kernel
theorem dX7_keep_49 : decode cX7_keep 49 = .ok (.iconst (-1), 1) := by decide +kernel
theorem dX7_keep_50 : decode cX7_keep 50 = .ok (.if_icmp .eq 29, 3) := by decide +kernel
theorem dX7_keep_53 : decode cX7_keep 53 = .ok (.aload_n 0, 1) := by decide +kernel
theorem dX7_keep_54 : decode cX7_keep 54 = .ok (.getfield 61, 3) := by decide +kernel
theorem dX7_keep_57 : decode cX7_keep 57 = .ok (.bipush 40, 2) := by decide +kernel
theorem dX7_keep_59 : decode cX7_keep 59 = .ok (.iload_n 1, 1) := by decide +kernel
theorem dX7_keep_60 : decode cX7_keep 60 = .ok (.imul, 1) := by decide +kernel
theorem dX7_keep_61 : decode cX7_keep 61 = .ok (.iload 4, 2) := by decide +kernel
theorem dX7_keep_63 : decode cX7_keep 63 = .ok (.iadd, 1) := by decide +kernel
theorem dX7_keep_64 : decode cX7_keep 64 = .ok (.iaload, 1) := by decide +kernel
theorem dX7_keep_65 : decode cX7_keep 65 = .ok (.aload_n 0, 1) := by decide +kernel
theorem dX7_keep_66 : decode cX7_keep 66 = .ok (.getfield 61, 3) := by decide +kernel
theorem dX7_keep_69 : decode cX7_keep 69 = .ok (.bipush 40, 2) := by decide +kernel
theorem dX7_keep_71 : decode cX7_keep 71 = .ok (.iload_n 1, 1) := by decide +kernel
theorem dX7_keep_72 : decode cX7_keep 72 = .ok (.imul, 1) := by decide +kernel
theorem dX7_keep_73 : decode cX7_keep 73 = .ok (.iload_n 3, 1) := by decide +kernel
theorem dX7_keep_74 : decode cX7_keep 74 = .ok (.iadd, 1) := by decide +kernel
theorem dX7_keep_75 : decode cX7_keep 75 = .ok (.iaload, 1) := by decide +kernel
theorem dX7_keep_76 : decode cX7_keep 76 = .ok (.if_icmp .le 6, 3) := by decide +kernel
theorem dX7_keep_79 : decode cX7_keep 79 = .ok (.iload 4, 2) := by decide +kernel
theorem dX7_keep_81 : decode cX7_keep 81 = .ok (.istore_n 3, 1) := by decide +kernel
theorem dX7_keep_82 : decode cX7_keep 82 = .ok (.iinc 4 1, 3) := by decide +kernel
theorem dX7_keep_85 : decode cX7_keep 85 = .ok (.goto (-59), 3) := by decide +kernel
theorem dX7_keep_88 : decode cX7_keep 88 = .ok (.iload_n 3, 1) := by decide +kernel
theorem dX7_keep_89 : decode cX7_keep 89 = .ok (.iconst (-1), 1) := by decide +kernel
theorem dX7_keep_90 : decode cX7_keep 90 = .ok (.if_icmp .ne 5, 3) := by decide +kernel
theorem dX7_keep_93 : decode cX7_keep 93 = .ok (.iconst 0, 1) := by decide +kernel
theorem dX7_keep_94 : decode cX7_keep 94 = .ok (.ireturn, 1) := by decide +kernel
theorem dX7_keep_95 : decode cX7_keep 95 = .ok (.aload_n 0, 1) := by decide +kernel
theorem dX7_keep_96 : decode cX7_keep 96 = .ok (.iload_n 1, 1) := by decide +kernel
theorem dX7_keep_97 : decode cX7_keep 97 = .ok (.iload_n 3, 1) := by decide +kernel
theorem dX7_keep_98 : decode cX7_keep 98 = .ok (.invokevirtual 204, 3) := by decide +kernel
theorem dX7_keep_101 : decode cX7_keep 101 = .ok (.istore 4, 2) := by decide +kernel
theorem dX7_keep_103 : decode cX7_keep 103 = .ok (.iload 4, 2) := by decide +kernel
theorem dX7_keep_105 : decode cX7_keep 105 = .ok (.iconst (-1), 1) := by decide +kernel
theorem dX7_keep_106 : decode cX7_keep 106 = .ok (.if_icmp .eq 26, 3) := by decide +kernel
theorem dX7_keep_109 : decode cX7_keep 109 = .ok (.aload_n 0, 1) := by decide +kernel
theorem dX7_keep_110 : decode cX7_keep 110 = .ok (.getfield 61, 3) := by decide +kernel
theorem dX7_keep_113 : decode cX7_keep 113 = .ok (.bipush 40, 2) := by decide +kernel
theorem dX7_keep_115 : decode cX7_keep 115 = .ok (.iload_n 1, 1) := by decide +kernel
theorem dX7_keep_116 : decode cX7_keep 116 = .ok (.imul, 1) := by decide +kernel
theorem dX7_keep_117 : decode cX7_keep 117 = .ok (.iload_n 3, 1) := by decide +kernel
theorem dX7_keep_118 : decode cX7_keep 118 = .ok (.iadd, 1) := by decide +kernel
theorem dX7_keep_119 : decode cX7_keep 119 = .ok (.iaload, 1) := by decide +kernel
theorem dX7_keep_120 : decode cX7_keep 120 = .ok (.iconst 2, 1) := by decide +kernel
theorem dX7_keep_121 : decode cX7_keep 121 = .ok (.aload_n 0, 1) := by decide +kernel
theorem dX7_keep_122 : decode cX7_keep 122 = .ok (.iload_n 1, 1) := by decide +kernel
theorem dX7_keep_123 : decode cX7_keep 123 = .ok (.iload 4, 2) := by decide +kernel
theorem dX7_keep_125 : decode cX7_keep 125 = .ok (.invokevirtual 201, 3) := by decide +kernel
theorem dX7_keep_128 : decode cX7_keep 128 = .ok (.imul, 1) := by decide +kernel
theorem dX7_keep_129 : decode cX7_keep 129 = .ok (.if_icmp .gt 5, 3) := by decide +kernel
theorem dX7_keep_132 : decode cX7_keep 132 = .ok (.iconst 0, 1) := by decide +kernel
theorem dX7_keep_133 : decode cX7_keep 133 = .ok (.ireturn, 1) := by decide +kernel
theorem dX7_keep_134 : decode cX7_keep 134 = .ok (.aload_n 0, 1) := by decide +kernel
theorem dX7_keep_135 : decode cX7_keep 135 = .ok (.iload_n 1, 1) := by decide +kernel
theorem dX7_keep_136 : decode cX7_keep 136 = .ok (.iload 4, 2) := by decide +kernel
theorem dX7_keep_138 : decode cX7_keep 138 = .ok (.invokevirtual 198, 3) := by decide +kernel
theorem dX7_keep_141 : decode cX7_keep 141 = .ok (.iload 4, 2) := by decide +kernel
theorem dX7_keep_143 : decode cX7_keep 143 = .ok (.iload_n 3, 1) := by decide +kernel
theorem dX7_keep_144 : decode cX7_keep 144 = .ok (.if_icmp .ge 6, 3) := by decide +kernel
theorem dX7_keep_147 : decode cX7_keep 147 = .ok (.iinc 3 (-1), 3) := by decide +kernel
theorem dX7_keep_150 : decode cX7_keep 150 = .ok (.aload_n 0, 1) := by decide +kernel
theorem dX7_keep_151 : decode cX7_keep 151 = .ok (.iload_n 1, 1) := by decide +kernel
theorem dX7_keep_152 : decode cX7_keep 152 = .ok (.iload_n 3, 1) := by decide +kernel
theorem dX7_keep_153 : decode cX7_keep 153 = .ok (.invokevirtual 143, 3) := by decide +kernel
theorem dX7_keep_156 : decode cX7_keep 156 = .ok (.istore 5, 2) := by decide +kernel
theorem dX7_keep_158 : decode cX7_keep 158 = .ok (.aload_n 0, 1) := by decide +kernel
theorem dX7_keep_159 : decode cX7_keep 159 = .ok (.iload_n 1, 1) := by decide +kernel
theorem dX7_keep_160 : decode cX7_keep 160 = .ok (.iload_n 3, 1) := by decide +kernel
theorem dX7_keep_161 : decode cX7_keep 161 = .ok (.invokevirtual 169, 3) := by decide +kernel
theorem dX7_keep_164 : decode cX7_keep 164 = .ok (.istore 6, 2) := by decide +kernel
theorem dX7_keep_166 : decode cX7_keep 166 = .ok (.iload 5, 2) := by decide +kernel
theorem dX7_keep_168 : decode cX7_keep 168 = .ok (.istore 7, 2) := by decide +kernel
theorem dX7_keep_170 : decode cX7_keep 170 = .ok (.iconst 2, 1) := by decide +kernel
theorem dX7_keep_171 : decode cX7_keep 171 = .ok (.aload_n 0, 1) := by decide +kernel
theorem dX7_keep_172 : decode cX7_keep 172 = .ok (.iload_n 1, 1) := by decide +kernel
theorem dX7_keep_173 : decode cX7_keep 173 = .ok (.iload 5, 2) := by decide +kernel
theorem dX7_keep_175 : decode cX7_keep 175 = .ok (.iload 7, 2) := by decide +kernel
theorem dX7_keep_177 : decode cX7_keep 177 = .ok (.invokevirtual 146, 3) := by decide +kernel
theorem dX7_keep_180 : decode cX7_keep 180 = .ok (.imul, 1) := by decide +kernel
theorem dX7_keep_181 : decode cX7_keep 181 = .ok (.iload 6, 2) := by decide +kernel
theorem dX7_keep_183 : decode cX7_keep 183 = .ok (.if_icmp .ge 9, 3) := by decide +kernel
theorem dX7_keep_186 : decode cX7_keep 186 = .ok (.iinc 7 1, 3) := by decide +kernel
theorem dX7_keep_189 : decode cX7_keep 189 = .ok (.goto (-19), 3) := by decide +kernel
theorem dX7_keep_192 : decode cX7_keep 192 = .ok (.aload_n 0, 1) := by decide +kernel
theorem dX7_keep_193 : decode cX7_keep 193 = .ok (.iload_n 1, 1) := by decide +kernel
theorem dX7_keep_194 : decode cX7_keep 194 = .ok (.iload_n 3, 1) := by decide +kernel
theorem dX7_keep_195 : decode cX7_keep 195 = .ok (.iload 7, 2) := by decide +kernel
theorem dX7_keep_197 : decode cX7_keep 197 = .ok (.invokevirtual 195, 3) := by decide +kernel
theorem dX7_keep_200 : decode cX7_keep 200 = .ok (.iconst 1, 1) := by decide +kernel
theorem dX7_keep_201 : decode cX7_keep 201 = .ok (.ireturn, 1) := by decide +kernel
set_option maxRecDepth 20000 in
theorem ggX7_gives_X7_begins : GoodIn wsX7_gives wsX7_begins := goodIn_r _ [16, 2, 41, 42, 43, 44, 45, 46, 47, 48, 49, 50, 51, 52, 53, 54, 55, 56, 57, 58, 59, 60, 61, 62, 63, 64, 65, 66, 67, 68, 69, 70] (by decide +kernel) (by decide +kernel)
set_option maxRecDepth 20000 in
theorem gX7_gives_X7_begins : GoodIn wsX7_gives (wsV RX7 143 RX7 yX7_begins wsX7_begins) := goodIn_app (goodIn_of _ (by decide +kernel)) ggX7_gives_X7_begins
set_option maxRecDepth 20000 in
theorem ggX7_gives_X7_light : GoodIn wsX7_gives wsX7_light := goodIn_r _ [20, 21, 41, 42, 43, 44, 45, 46, 47, 48, 49, 50, 51, 52, 53, 54, 55, 56, 57, 58, 59, 60, 61, 62, 63, 64, 65, 66, 67, 68, 69, 70] (by decide +kernel) (by decide +kernel)
set_option maxRecDepth 20000 in
theorem gX7_gives_X7_light : GoodIn wsX7_gives (wsV RX7 146 RX7 yX7_light wsX7_light) := goodIn_app (goodIn_of _ (by decide +kernel)) ggX7_gives_X7_light
set_option maxRecDepth 20000 in
theorem ggX7_gives_X7_halves : GoodIn wsX7_gives wsX7_halves := goodIn_r _ [25, 7, 9, 10, 11, 26, 27, 28, 29, 30, 31, 15, 32, 33, 34, 35, 36, 37, 38, 39, 40, 41, 42, 43, 44, 45, 46, 47, 48, 49, 50, 51, 52, 53, 54, 55, 56, 57, 58, 59, 60, 61, 62, 63, 64, 65, 66, 67, 68, 69, 70] (by decide +kernel) (by decide +kernel)
set_option maxRecDepth 20000 in
theorem gX7_gives_X7_halves : GoodIn wsX7_gives (wsV RX7 191 RX7 yX7_halves wsX7_halves) := goodIn_app (goodIn_of _ (by decide +kernel)) ggX7_gives_X7_halves
set_option maxRecDepth 20000 in
theorem ggX7_gives_X7_capped : GoodIn wsX7_gives wsX7_capped := goodIn_r _ [32, 33, 34, 35, 28, 36] (by decide +kernel) (by decide +kernel)
set_option maxRecDepth 20000 in
theorem gX7_gives_X7_capped : GoodIn wsX7_gives (va_wsS RX7 176 yX7_capped wsX7_capped) := goodIn_app (goodIn_of _ (by decide +kernel)) ggX7_gives_X7_capped
theorem dX7_gives_0 : decode cX7_gives 0 = .ok (.iconst 0, 1) := by decide +kernel
theorem dX7_gives_1 : decode cX7_gives 1 = .ok (.istore_n 3, 1) := by decide +kernel
theorem dX7_gives_2 : decode cX7_gives 2 = .ok (.iconst 0, 1) := by decide +kernel
theorem dX7_gives_3 : decode cX7_gives 3 = .ok (.istore 4, 2) := by decide +kernel
theorem dX7_gives_5 : decode cX7_gives 5 = .ok (.iload 4, 2) := by decide +kernel
theorem dX7_gives_7 : decode cX7_gives 7 = .ok (.aload_n 0, 1) := by decide +kernel
theorem dX7_gives_8 : decode cX7_gives 8 = .ok (.getfield 45, 3) := by decide +kernel
theorem dX7_gives_11 : decode cX7_gives 11 = .ok (.iload_n 1, 1) := by decide +kernel
theorem dX7_gives_12 : decode cX7_gives 12 = .ok (.iaload, 1) := by decide +kernel
theorem dX7_gives_13 : decode cX7_gives 13 = .ok (.if_icmp .ge 200, 3) := by decide +kernel
theorem dX7_gives_16 : decode cX7_gives 16 = .ok (.aload_n 0, 1) := by decide +kernel
theorem dX7_gives_17 : decode cX7_gives 17 = .ok (.iload_n 1, 1) := by decide +kernel
theorem dX7_gives_18 : decode cX7_gives 18 = .ok (.iload 4, 2) := by decide +kernel
theorem dX7_gives_20 : decode cX7_gives 20 = .ok (.invokevirtual 143, 3) := by decide +kernel
theorem dX7_gives_23 : decode cX7_gives 23 = .ok (.istore 5, 2) := by decide +kernel
theorem dX7_gives_25 : decode cX7_gives 25 = .ok (.aload_n 0, 1) := by decide +kernel
theorem dX7_gives_26 : decode cX7_gives 26 = .ok (.getfield 58, 3) := by decide +kernel
theorem dX7_gives_29 : decode cX7_gives 29 = .ok (.bipush 40, 2) := by decide +kernel
theorem dX7_gives_31 : decode cX7_gives 31 = .ok (.iload_n 1, 1) := by decide +kernel
theorem dX7_gives_32 : decode cX7_gives 32 = .ok (.imul, 1) := by decide +kernel
theorem dX7_gives_33 : decode cX7_gives 33 = .ok (.iload 4, 2) := by decide +kernel
theorem dX7_gives_35 : decode cX7_gives 35 = .ok (.iadd, 1) := by decide +kernel
theorem dX7_gives_36 : decode cX7_gives 36 = .ok (.iaload, 1) := by decide +kernel
theorem dX7_gives_37 : decode cX7_gives 37 = .ok (.istore 6, 2) := by decide +kernel
theorem dX7_gives_39 : decode cX7_gives 39 = .ok (.aload_n 0, 1) := by decide +kernel
theorem dX7_gives_40 : decode cX7_gives 40 = .ok (.getfield 61, 3) := by decide +kernel
theorem dX7_gives_43 : decode cX7_gives 43 = .ok (.bipush 40, 2) := by decide +kernel
theorem dX7_gives_45 : decode cX7_gives 45 = .ok (.iload_n 1, 1) := by decide +kernel
theorem dX7_gives_46 : decode cX7_gives 46 = .ok (.imul, 1) := by decide +kernel
theorem dX7_gives_47 : decode cX7_gives 47 = .ok (.iload 4, 2) := by decide +kernel
theorem dX7_gives_49 : decode cX7_gives 49 = .ok (.iadd, 1) := by decide +kernel
theorem dX7_gives_50 : decode cX7_gives 50 = .ok (.iaload, 1) := by decide +kernel
theorem dX7_gives_51 : decode cX7_gives 51 = .ok (.istore 7, 2) := by decide +kernel
theorem dX7_gives_53 : decode cX7_gives 53 = .ok (.aload_n 0, 1) := by decide +kernel
theorem dX7_gives_54 : decode cX7_gives 54 = .ok (.getfield 64, 3) := by decide +kernel
theorem dX7_gives_57 : decode cX7_gives 57 = .ok (.bipush 40, 2) := by decide +kernel
theorem dX7_gives_59 : decode cX7_gives 59 = .ok (.iload_n 1, 1) := by decide +kernel
theorem dX7_gives_60 : decode cX7_gives 60 = .ok (.imul, 1) := by decide +kernel
theorem dX7_gives_61 : decode cX7_gives 61 = .ok (.iload 4, 2) := by decide +kernel
theorem dX7_gives_63 : decode cX7_gives 63 = .ok (.iadd, 1) := by decide +kernel
theorem dX7_gives_64 : decode cX7_gives 64 = .ok (.iaload, 1) := by decide +kernel
theorem dX7_gives_65 : decode cX7_gives 65 = .ok (.istore 8, 2) := by decide +kernel
theorem dX7_gives_67 : decode cX7_gives 67 = .ok (.aload_n 0, 1) := by decide +kernel
theorem dX7_gives_68 : decode cX7_gives 68 = .ok (.getfield 76, 3) := by decide +kernel
theorem dX7_gives_71 : decode cX7_gives 71 = .ok (.iload_n 3, 1) := by decide +kernel
theorem dX7_gives_72 : decode cX7_gives 72 = .ok (.iaload, 1) := by decide +kernel
theorem dX7_gives_73 : decode cX7_gives 73 = .ok (.iload 6, 2) := by decide +kernel
theorem dX7_gives_75 : decode cX7_gives 75 = .ok (.if_icmp .ge 100, 3) := by decide +kernel
theorem dX7_gives_78 : decode cX7_gives 78 = .ok (.aload_n 0, 1) := by decide +kernel
theorem dX7_gives_79 : decode cX7_gives 79 = .ok (.iload 7, 2) := by decide +kernel
theorem dX7_gives_81 : decode cX7_gives 81 = .ok (.iload 8, 2) := by decide +kernel
theorem dX7_gives_83 : decode cX7_gives 83 = .ok (.aload_n 0, 1) := by decide +kernel
theorem dX7_gives_84 : decode cX7_gives 84 = .ok (.iload_n 1, 1) := by decide +kernel
theorem dX7_gives_85 : decode cX7_gives 85 = .ok (.iload 5, 2) := by decide +kernel
theorem dX7_gives_87 : decode cX7_gives 87 = .ok (.aload_n 0, 1) := by decide +kernel
theorem dX7_gives_88 : decode cX7_gives 88 = .ok (.getfield 76, 3) := by decide +kernel
theorem dX7_gives_91 : decode cX7_gives 91 = .ok (.iload_n 3, 1) := by decide +kernel
theorem dX7_gives_92 : decode cX7_gives 92 = .ok (.iaload, 1) := by decide +kernel
theorem dX7_gives_93 : decode cX7_gives 93 = .ok (.invokevirtual 146, 3) := by decide +kernel
theorem dX7_gives_96 : decode cX7_gives 96 = .ok (.aload_n 0, 1) := by decide +kernel
theorem dX7_gives_97 : decode cX7_gives 97 = .ok (.iload_n 1, 1) := by decide +kernel
theorem dX7_gives_98 : decode cX7_gives 98 = .ok (.aload_n 0, 1) := by decide +kernel
theorem dX7_gives_99 : decode cX7_gives 99 = .ok (.getfield 76, 3) := by decide +kernel
theorem dX7_gives_102 : decode cX7_gives 102 = .ok (.iload_n 3, 1) := by decide +kernel
theorem dX7_gives_103 : decode cX7_gives 103 = .ok (.iaload, 1) := by decide +kernel
theorem dX7_gives_104 : decode cX7_gives 104 = .ok (.iconst 1, 1) := by decide +kernel
theorem dX7_gives_105 : decode cX7_gives 105 = .ok (.iadd, 1) := by decide +kernel
theorem dX7_gives_106 : decode cX7_gives 106 = .ok (.iload 6, 2) := by decide +kernel
theorem dX7_gives_108 : decode cX7_gives 108 = .ok (.invokevirtual 146, 3) := by decide +kernel
theorem dX7_gives_111 : decode cX7_gives 111 = .ok (.invokevirtual 191, 3) := by decide +kernel
theorem dX7_gives_114 : decode cX7_gives 114 = .ok (.aload_n 0, 1) := by decide +kernel
theorem dX7_gives_115 : decode cX7_gives 115 = .ok (.getfield 79, 3) := by decide +kernel
theorem dX7_gives_118 : decode cX7_gives 118 = .ok (.iload_n 3, 1) := by decide +kernel
theorem dX7_gives_119 : decode cX7_gives 119 = .ok (.dup2, 1) := by decide +kernel
theorem dX7_gives_120 : decode cX7_gives 120 = .ok (.iaload, 1) := by decide +kernel
theorem dX7_gives_121 : decode cX7_gives 121 = .ok (.aload_n 0, 1) := by decide +kernel
theorem dX7_gives_122 : decode cX7_gives 122 = .ok (.getfield 173, 3) := by decide +kernel
theorem dX7_gives_125 : decode cX7_gives 125 = .ok (.iadd, 1) := by decide +kernel
theorem dX7_gives_126 : decode cX7_gives 126 = .ok (.iastore, 1) := by decide +kernel
theorem dX7_gives_127 : decode cX7_gives 127 = .ok (.aload_n 0, 1) := by decide +kernel
theorem dX7_gives_128 : decode cX7_gives 128 = .ok (.getfield 82, 3) := by decide +kernel
theorem dX7_gives_131 : decode cX7_gives 131 = .ok (.iload_n 3, 1) := by decide +kernel
theorem dX7_gives_132 : decode cX7_gives 132 = .ok (.aload_n 0, 1) := by decide +kernel
theorem dX7_gives_133 : decode cX7_gives 133 = .ok (.getfield 82, 3) := by decide +kernel
theorem dX7_gives_136 : decode cX7_gives 136 = .ok (.iload_n 3, 1) := by decide +kernel
theorem dX7_gives_137 : decode cX7_gives 137 = .ok (.iaload, 1) := by decide +kernel
theorem dX7_gives_138 : decode cX7_gives 138 = .ok (.aload_n 0, 1) := by decide +kernel
theorem dX7_gives_139 : decode cX7_gives 139 = .ok (.getfield 179, 3) := by decide +kernel
theorem dX7_gives_142 : decode cX7_gives 142 = .ok (.iadd, 1) := by decide +kernel
theorem dX7_gives_143 : decode cX7_gives 143 = .ok (.invokestatic 176, 3) := by decide +kernel
theorem dX7_gives_146 : decode cX7_gives 146 = .ok (.iastore, 1) := by decide +kernel
theorem dX7_gives_147 : decode cX7_gives 147 = .ok (.aload_n 0, 1) := by decide +kernel
theorem dX7_gives_148 : decode cX7_gives 148 = .ok (.getfield 182, 3) := by decide +kernel
theorem dX7_gives_151 : decode cX7_gives 151 = .ok (.istore 7, 2) := by decide +kernel
theorem dX7_gives_153 : decode cX7_gives 153 = .ok (.aload_n 0, 1) := by decide +kernel
theorem dX7_gives_154 : decode cX7_gives 154 = .ok (.getfield 185, 3) := by decide +kernel
theorem dX7_gives_157 : decode cX7_gives 157 = .ok (.istore 8, 2) := by decide +kernel
theorem dX7_gives_159 : decode cX7_gives 159 = .ok (.aload_n 0, 1) := by decide +kernel
theorem dX7_gives_160 : decode cX7_gives 160 = .ok (.getfield 76, 3) := by decide +kernel
theorem dX7_gives_163 : decode cX7_gives 163 = .ok (.iload_n 3, 1) := by decide +kernel
theorem dX7_gives_164 : decode cX7_gives 164 = .ok (.iaload, 1) := by decide +kernel
theorem dX7_gives_165 : decode cX7_gives 165 = .ok (.iconst 1, 1) := by decide +kernel
theorem dX7_gives_166 : decode cX7_gives 166 = .ok (.iadd, 1) := by decide +kernel
theorem dX7_gives_167 : decode cX7_gives 167 = .ok (.istore 5, 2) := by decide +kernel
theorem dX7_gives_169 : decode cX7_gives 169 = .ok (.iinc 3 1, 3) := by decide +kernel
theorem dX7_gives_172 : decode cX7_gives 172 = .ok (.goto (-105), 3) := by decide +kernel
theorem dX7_gives_175 : decode cX7_gives 175 = .ok (.aload_n 0, 1) := by decide +kernel
theorem dX7_gives_176 : decode cX7_gives 176 = .ok (.getfield 79, 3) := by decide +kernel
theorem dX7_gives_179 : decode cX7_gives 179 = .ok (.iload_n 3, 1) := by decide +kernel
theorem dX7_gives_180 : decode cX7_gives 180 = .ok (.dup2, 1) := by decide +kernel
theorem dX7_gives_181 : decode cX7_gives 181 = .ok (.iaload, 1) := by decide +kernel
theorem dX7_gives_182 : decode cX7_gives 182 = .ok (.iload 7, 2) := by decide +kernel
theorem dX7_gives_184 : decode cX7_gives 184 = .ok (.iadd, 1) := by decide +kernel
theorem dX7_gives_185 : decode cX7_gives 185 = .ok (.iastore, 1) := by decide +kernel
theorem dX7_gives_186 : decode cX7_gives 186 = .ok (.aload_n 0, 1) := by decide +kernel
theorem dX7_gives_187 : decode cX7_gives 187 = .ok (.getfield 82, 3) := by decide +kernel
theorem dX7_gives_190 : decode cX7_gives 190 = .ok (.iload_n 3, 1) := by decide +kernel
theorem dX7_gives_191 : decode cX7_gives 191 = .ok (.aload_n 0, 1) := by decide +kernel
theorem dX7_gives_192 : decode cX7_gives 192 = .ok (.getfield 82, 3) := by decide +kernel
theorem dX7_gives_195 : decode cX7_gives 195 = .ok (.iload_n 3, 1) := by decide +kernel
theorem dX7_gives_196 : decode cX7_gives 196 = .ok (.iaload, 1) := by decide +kernel
theorem dX7_gives_197 : decode cX7_gives 197 = .ok (.iload 8, 2) := by decide +kernel
theorem dX7_gives_199 : decode cX7_gives 199 = .ok (.iadd, 1) := by decide +kernel
theorem dX7_gives_200 : decode cX7_gives 200 = .ok (.invokestatic 176, 3) := by decide +kernel
theorem dX7_gives_203 : decode cX7_gives 203 = .ok (.iastore, 1) := by decide +kernel
theorem dX7_gives_204 : decode cX7_gives 204 = .ok (.iinc 3 1, 3) := by decide +kernel
theorem dX7_gives_207 : decode cX7_gives 207 = .ok (.iinc 4 1, 3) := by decide +kernel
theorem dX7_gives_210 : decode cX7_gives 210 = .ok (.goto (-205), 3) := by decide +kernel
theorem dX7_gives_213 : decode cX7_gives 213 = .ok (.return_, 1) := by decide +kernel
set_option maxRecDepth 20000 in
theorem ggX7_load_X7_heavies : GoodIn wsX7_load wsX7_heavies := goodIn_r _ [8, 9, 10, 11, 12, 13, 14, 15, 16, 17, 18, 19, 20, 21, 22, 23, 24, 25, 26, 27, 28, 29, 30, 31, 32, 33, 34, 35, 36, 37, 38, 39, 40] (by decide +kernel) (by decide +kernel)
set_option maxRecDepth 20000 in
theorem gX7_load_X7_heavies : GoodIn wsX7_load (wsV RX7 207 RX7 yX7_heavies wsX7_heavies) := goodIn_app (goodIn_of _ (by decide +kernel)) ggX7_load_X7_heavies
theorem dX7_load_0 : decode cX7_load 0 = .ok (.aload_n 0, 1) := by decide +kernel
theorem dX7_load_1 : decode cX7_load 1 = .ok (.iload_n 1, 1) := by decide +kernel
theorem dX7_load_2 : decode cX7_load 2 = .ok (.iconst 0, 1) := by decide +kernel
theorem dX7_load_3 : decode cX7_load 3 = .ok (.bipush 39, 2) := by decide +kernel
theorem dX7_load_5 : decode cX7_load 5 = .ok (.invokevirtual 207, 3) := by decide +kernel
theorem dX7_load_8 : decode cX7_load 8 = .ok (.istore_n 2, 1) := by decide +kernel
theorem dX7_load_9 : decode cX7_load 9 = .ok (.iconst 0, 1) := by decide +kernel
theorem dX7_load_10 : decode cX7_load 10 = .ok (.istore_n 3, 1) := by decide +kernel
theorem dX7_load_11 : decode cX7_load 11 = .ok (.iload_n 3, 1) := by decide +kernel
theorem dX7_load_12 : decode cX7_load 12 = .ok (.aload_n 0, 1) := by decide +kernel
theorem dX7_load_13 : decode cX7_load 13 = .ok (.getfield 45, 3) := by decide +kernel
theorem dX7_load_16 : decode cX7_load 16 = .ok (.iload_n 1, 1) := by decide +kernel
theorem dX7_load_17 : decode cX7_load 17 = .ok (.iaload, 1) := by decide +kernel
theorem dX7_load_18 : decode cX7_load 18 = .ok (.if_icmp .ge 35, 3) := by decide +kernel
theorem dX7_load_21 : decode cX7_load 21 = .ok (.iload_n 2, 1) := by decide +kernel
theorem dX7_load_22 : decode cX7_load 22 = .ok (.aload_n 0, 1) := by decide +kernel
theorem dX7_load_23 : decode cX7_load 23 = .ok (.getfield 61, 3) := by decide +kernel
theorem dX7_load_26 : decode cX7_load 26 = .ok (.bipush 40, 2) := by decide +kernel
theorem dX7_load_28 : decode cX7_load 28 = .ok (.iload_n 1, 1) := by decide +kernel
theorem dX7_load_29 : decode cX7_load 29 = .ok (.imul, 1) := by decide +kernel
theorem dX7_load_30 : decode cX7_load 30 = .ok (.iload_n 3, 1) := by decide +kernel
theorem dX7_load_31 : decode cX7_load 31 = .ok (.iadd, 1) := by decide +kernel
theorem dX7_load_32 : decode cX7_load 32 = .ok (.iaload, 1) := by decide +kernel
theorem dX7_load_33 : decode cX7_load 33 = .ok (.aload_n 0, 1) := by decide +kernel
theorem dX7_load_34 : decode cX7_load 34 = .ok (.getfield 64, 3) := by decide +kernel
theorem dX7_load_37 : decode cX7_load 37 = .ok (.bipush 40, 2) := by decide +kernel
theorem dX7_load_39 : decode cX7_load 39 = .ok (.iload_n 1, 1) := by decide +kernel
theorem dX7_load_40 : decode cX7_load 40 = .ok (.imul, 1) := by decide +kernel
theorem dX7_load_41 : decode cX7_load 41 = .ok (.iload_n 3, 1) := by decide +kernel
theorem dX7_load_42 : decode cX7_load 42 = .ok (.iadd, 1) := by decide +kernel
theorem dX7_load_43 : decode cX7_load 43 = .ok (.iaload, 1) := by decide +kernel
theorem dX7_load_44 : decode cX7_load 44 = .ok (.iadd, 1) := by decide +kernel
theorem dX7_load_45 : decode cX7_load 45 = .ok (.iadd, 1) := by decide +kernel
theorem dX7_load_46 : decode cX7_load 46 = .ok (.istore_n 2, 1) := by decide +kernel
theorem dX7_load_47 : decode cX7_load 47 = .ok (.iinc 3 1, 3) := by decide +kernel
theorem dX7_load_50 : decode cX7_load 50 = .ok (.goto (-39), 3) := by decide +kernel
theorem dX7_load_53 : decode cX7_load 53 = .ok (.iload_n 2, 1) := by decide +kernel
theorem dX7_load_54 : decode cX7_load 54 = .ok (.ireturn, 1) := by decide +kernel
set_option maxRecDepth 20000 in
theorem ggX7_together_X7_isColumn : GoodIn wsX7_together wsX7_isColumn := goodIn_r _ [16] (by decide +kernel) (by decide +kernel)
set_option maxRecDepth 20000 in
theorem gX7_together_X7_isColumn : GoodIn wsX7_together (va_wsS RX7 120 yX7_isColumn wsX7_isColumn) := goodIn_app (goodIn_of _ (by decide +kernel)) ggX7_together_X7_isColumn
set_option maxRecDepth 20000 in
theorem ggX7_together_X7_refuse : GoodIn wsX7_together wsX7_refuse := goodIn_r _ [20, 12, 80, 81, 82, 83, 84, 85, 86, 87, 88, 89, 90, 91, 92, 93, 94, 95, 96, 97, 98, 99, 100, 101, 102, 103, 104, 105, 106, 107, 108, 109] (by decide +kernel) (by decide +kernel)
set_option maxRecDepth 20000 in
theorem gX7_together_X7_refuse : GoodIn wsX7_together (wsV RX7 138 RX7 yX7_refuse wsX7_refuse) := goodIn_app (goodIn_of _ (by decide +kernel)) ggX7_together_X7_refuse
set_option maxRecDepth 20000 in
theorem ggX7_together_X7_load : GoodIn wsX7_together wsX7_load := goodIn_r _ [24, 1, 9, 10, 25, 26, 27, 15, 28, 7, 8, 80, 81, 82, 83, 84, 85, 86, 87, 88, 89, 90, 91, 92, 93, 94, 95, 96, 97, 98, 99, 100, 101, 102, 103, 104, 105, 106, 107, 108, 109] (by decide +kernel) (by decide +kernel)
set_option maxRecDepth 20000 in
theorem gX7_together_X7_load : GoodIn wsX7_together (wsV RX7 210 RX7 yX7_load wsX7_load) := goodIn_app (goodIn_of _ (by decide +kernel)) ggX7_together_X7_load
set_option maxRecDepth 20000 in
theorem ggX7_together_X7_spanOf : GoodIn wsX7_together wsX7_spanOf := goodIn_r _ [32, 3, 80, 81, 82, 83, 84, 85, 86, 87, 88, 89, 90, 91, 92, 93, 94, 95, 96, 97, 98, 99, 100, 101, 102, 103, 104, 105, 106, 107, 108, 109] (by decide +kernel) (by decide +kernel)
set_option maxRecDepth 20000 in
theorem gX7_together_X7_spanOf : GoodIn wsX7_together (wsV RX7 117 RX7 yX7_spanOf wsX7_spanOf) := goodIn_app (goodIn_of _ (by decide +kernel)) ggX7_together_X7_spanOf
set_option maxRecDepth 20000 in
theorem ggX7_together_X7_gives : GoodIn wsX7_together wsX7_gives := goodIn_r _ [36, 1, 3, 9, 10, 4, 5, 37, 6, 38, 39, 40, 41, 42, 43, 15, 44, 45, 46, 47, 48, 7, 49, 50, 51, 52, 53, 54, 55, 56, 57, 58, 59, 60, 61, 62, 63, 64, 65, 66, 67, 80, 81, 82, 83, 84, 85, 86, 87, 88, 89, 90, 91, 92, 93, 94, 95, 96, 97, 98, 99, 100, 101, 102, 103, 104, 105, 106, 107, 108, 109] (by decide +kernel) (by decide +kernel)
set_option maxRecDepth 20000 in
theorem gX7_together_X7_gives : GoodIn wsX7_together (wsV RX7 214 RX7 yX7_gives wsX7_gives) := goodIn_app (goodIn_of _ (by decide +kernel)) ggX7_together_X7_gives
set_option maxRecDepth 20000 in
theorem ggX7_together_X7_pair : GoodIn wsX7_together wsX7_pair := goodIn_r _ [71, 1, 72, 73, 74, 15, 75, 9, 80, 81, 82, 83, 84, 85, 86, 87, 88, 89, 90, 91, 92, 93, 94, 95, 96, 97, 98, 99, 100, 101, 102, 103, 104, 105, 106, 107, 108, 109] (by decide +kernel) (by decide +kernel)
set_option maxRecDepth 20000 in
theorem gX7_together_X7_pair : GoodIn wsX7_together (wsV RX7 204 RX7 yX7_pair wsX7_pair) := goodIn_app (goodIn_of _ (by decide +kernel)) ggX7_together_X7_pair
set_option maxRecDepth 20000 in
theorem ggX7_together_X7_melts : GoodIn wsX7_together wsX7_melts := goodIn_r _ [79, 9, 10, 3, 1, 57, 58, 15, 59, 60, 61, 62, 55, 63, 80, 81, 82, 83, 84, 85, 86, 87, 88, 89, 90, 91, 92, 93, 94, 95, 96, 97, 98, 99, 100, 101, 102, 103, 104, 105, 106, 107, 108, 109] (by decide +kernel) (by decide +kernel)
set_option maxRecDepth 20000 in
theorem gX7_together_X7_melts : GoodIn wsX7_together (wsV RX7 198 RX7 yX7_melts wsX7_melts) := goodIn_app (goodIn_of _ (by decide +kernel)) ggX7_together_X7_melts
theorem dX7_together_0 : decode cX7_together 0 = .ok (.iload_n 1, 1) := by decide +kernel
theorem dX7_together_1 : decode cX7_together 1 = .ok (.invokestatic 120, 3) := by decide +kernel
theorem dX7_together_4 : decode cX7_together 4 = .ok (.ifCond .eq 15, 3) := by decide +kernel
theorem dX7_together_7 : decode cX7_together 7 = .ok (.iload_n 2, 1) := by decide +kernel
theorem dX7_together_8 : decode cX7_together 8 = .ok (.invokestatic 120, 3) := by decide +kernel
theorem dX7_together_11 : decode cX7_together 11 = .ok (.ifCond .eq 8, 3) := by decide +kernel
theorem dX7_together_14 : decode cX7_together 14 = .ok (.iload_n 1, 1) := by decide +kernel
theorem dX7_together_15 : decode cX7_together 15 = .ok (.iload_n 2, 1) := by decide +kernel
theorem dX7_together_16 : decode cX7_together 16 = .ok (.if_icmp .ne 9, 3) := by decide +kernel
theorem dX7_together_19 : decode cX7_together 19 = .ok (.aload_n 0, 1) := by decide +kernel
theorem dX7_together_20 : decode cX7_together 20 = .ok (.iconst 1, 1) := by decide +kernel
theorem dX7_together_21 : decode cX7_together 21 = .ok (.invokevirtual 138, 3) := by decide +kernel
theorem dX7_together_24 : decode cX7_together 24 = .ok (.ireturn, 1) := by decide +kernel
theorem dX7_together_25 : decode cX7_together 25 = .ok (.aload_n 0, 1) := by decide +kernel
theorem dX7_together_26 : decode cX7_together 26 = .ok (.getfield 45, 3) := by decide +kernel
theorem dX7_together_29 : decode cX7_together 29 = .ok (.iload_n 1, 1) := by decide +kernel
theorem dX7_together_30 : decode cX7_together 30 = .ok (.iaload, 1) := by decide +kernel
theorem dX7_together_31 : decode cX7_together 31 = .ok (.ifCond .eq 12, 3) := by decide +kernel
theorem dX7_together_34 : decode cX7_together 34 = .ok (.aload_n 0, 1) := by decide +kernel
theorem dX7_together_35 : decode cX7_together 35 = .ok (.getfield 45, 3) := by decide +kernel
theorem dX7_together_38 : decode cX7_together 38 = .ok (.iload_n 2, 1) := by decide +kernel
theorem dX7_together_39 : decode cX7_together 39 = .ok (.iaload, 1) := by decide +kernel
theorem dX7_together_40 : decode cX7_together 40 = .ok (.ifCond .ne 9, 3) := by decide +kernel
theorem dX7_together_43 : decode cX7_together 43 = .ok (.aload_n 0, 1) := by decide +kernel
theorem dX7_together_44 : decode cX7_together 44 = .ok (.iconst 5, 1) := by decide +kernel
theorem dX7_together_45 : decode cX7_together 45 = .ok (.invokevirtual 138, 3) := by decide +kernel
theorem dX7_together_48 : decode cX7_together 48 = .ok (.ireturn, 1) := by decide +kernel
theorem dX7_together_49 : decode cX7_together 49 = .ok (.aload_n 0, 1) := by decide +kernel
theorem dX7_together_50 : decode cX7_together 50 = .ok (.iload_n 1, 1) := by decide +kernel
theorem dX7_together_51 : decode cX7_together 51 = .ok (.invokevirtual 210, 3) := by decide +kernel
theorem dX7_together_54 : decode cX7_together 54 = .ok (.aload_n 0, 1) := by decide +kernel
theorem dX7_together_55 : decode cX7_together 55 = .ok (.iload_n 2, 1) := by decide +kernel
theorem dX7_together_56 : decode cX7_together 56 = .ok (.invokevirtual 210, 3) := by decide +kernel
theorem dX7_together_59 : decode cX7_together 59 = .ok (.iadd, 1) := by decide +kernel
theorem dX7_together_60 : decode cX7_together 60 = .ok (.ldc 213, 2) := by decide +kernel
theorem dX7_together_62 : decode cX7_together 62 = .ok (.if_icmp .le 9, 3) := by decide +kernel
theorem dX7_together_65 : decode cX7_together 65 = .ok (.aload_n 0, 1) := by decide +kernel
theorem dX7_together_66 : decode cX7_together 66 = .ok (.iconst 4, 1) := by decide +kernel
theorem dX7_together_67 : decode cX7_together 67 = .ok (.invokevirtual 138, 3) := by decide +kernel
theorem dX7_together_70 : decode cX7_together 70 = .ok (.ireturn, 1) := by decide +kernel
theorem dX7_together_71 : decode cX7_together 71 = .ok (.iconst 0, 1) := by decide +kernel
theorem dX7_together_72 : decode cX7_together 72 = .ok (.istore_n 3, 1) := by decide +kernel
theorem dX7_together_73 : decode cX7_together 73 = .ok (.iconst 0, 1) := by decide +kernel
theorem dX7_together_74 : decode cX7_together 74 = .ok (.istore 4, 2) := by decide +kernel
theorem dX7_together_76 : decode cX7_together 76 = .ok (.iload 4, 2) := by decide +kernel
theorem dX7_together_78 : decode cX7_together 78 = .ok (.bipush 40, 2) := by decide +kernel
theorem dX7_together_80 : decode cX7_together 80 = .ok (.if_icmp .ge 81, 3) := by decide +kernel
theorem dX7_together_83 : decode cX7_together 83 = .ok (.aload_n 0, 1) := by decide +kernel
theorem dX7_together_84 : decode cX7_together 84 = .ok (.getfield 58, 3) := by decide +kernel
theorem dX7_together_87 : decode cX7_together 87 = .ok (.bipush 40, 2) := by decide +kernel
theorem dX7_together_89 : decode cX7_together 89 = .ok (.iload_n 1, 1) := by decide +kernel
theorem dX7_together_90 : decode cX7_together 90 = .ok (.imul, 1) := by decide +kernel
theorem dX7_together_91 : decode cX7_together 91 = .ok (.aload_n 0, 1) := by decide +kernel
theorem dX7_together_92 : decode cX7_together 92 = .ok (.iload_n 1, 1) := by decide +kernel
theorem dX7_together_93 : decode cX7_together 93 = .ok (.iload 4, 2) := by decide +kernel
theorem dX7_together_95 : decode cX7_together 95 = .ok (.invokevirtual 117, 3) := by decide +kernel
theorem dX7_together_98 : decode cX7_together 98 = .ok (.iadd, 1) := by decide +kernel
theorem dX7_together_99 : decode cX7_together 99 = .ok (.iaload, 1) := by decide +kernel
theorem dX7_together_100 : decode cX7_together 100 = .ok (.iload 4, 2) := by decide +kernel
theorem dX7_together_102 : decode cX7_together 102 = .ok (.if_icmp .eq 28, 3) := by decide +kernel
theorem dX7_together_105 : decode cX7_together 105 = .ok (.aload_n 0, 1) := by decide +kernel
theorem dX7_together_106 : decode cX7_together 106 = .ok (.getfield 58, 3) := by decide +kernel
theorem dX7_together_109 : decode cX7_together 109 = .ok (.bipush 40, 2) := by decide +kernel
theorem dX7_together_111 : decode cX7_together 111 = .ok (.iload_n 2, 1) := by decide +kernel
theorem dX7_together_112 : decode cX7_together 112 = .ok (.imul, 1) := by decide +kernel
theorem dX7_together_113 : decode cX7_together 113 = .ok (.aload_n 0, 1) := by decide +kernel
theorem dX7_together_114 : decode cX7_together 114 = .ok (.iload_n 2, 1) := by decide +kernel
theorem dX7_together_115 : decode cX7_together 115 = .ok (.iload 4, 2) := by decide +kernel
theorem dX7_together_117 : decode cX7_together 117 = .ok (.invokevirtual 117, 3) := by decide +kernel
theorem dX7_together_120 : decode cX7_together 120 = .ok (.iadd, 1) := by decide +kernel
theorem dX7_together_121 : decode cX7_together 121 = .ok (.iaload, 1) := by decide +kernel
theorem dX7_together_122 : decode cX7_together 122 = .ok (.iload 4, 2) := by decide +kernel
theorem dX7_together_124 : decode cX7_together 124 = .ok (.if_icmp .eq 6, 3) := by decide +kernel
theorem dX7_together_127 : decode cX7_together 127 = .ok (.goto 28, 3) := by decide +kernel
theorem dX7_together_130 : decode cX7_together 130 = .ok (.aload_n 0, 1) := by decide +kernel
theorem dX7_together_131 : decode cX7_together 131 = .ok (.getfield 76, 3) := by decide +kernel
theorem dX7_together_134 : decode cX7_together 134 = .ok (.iload_n 3, 1) := by decide +kernel
theorem dX7_together_135 : decode cX7_together 135 = .ok (.iload 4, 2) := by decide +kernel
theorem dX7_together_137 : decode cX7_together 137 = .ok (.iastore, 1) := by decide +kernel
theorem dX7_together_138 : decode cX7_together 138 = .ok (.aload_n 0, 1) := by decide +kernel
theorem dX7_together_139 : decode cX7_together 139 = .ok (.getfield 79, 3) := by decide +kernel
theorem dX7_together_142 : decode cX7_together 142 = .ok (.iload_n 3, 1) := by decide +kernel
theorem dX7_together_143 : decode cX7_together 143 = .ok (.iconst 0, 1) := by decide +kernel
theorem dX7_together_144 : decode cX7_together 144 = .ok (.iastore, 1) := by decide +kernel
theorem dX7_together_145 : decode cX7_together 145 = .ok (.aload_n 0, 1) := by decide +kernel
theorem dX7_together_146 : decode cX7_together 146 = .ok (.getfield 82, 3) := by decide +kernel
theorem dX7_together_149 : decode cX7_together 149 = .ok (.iload_n 3, 1) := by decide +kernel
theorem dX7_together_150 : decode cX7_together 150 = .ok (.iconst 0, 1) := by decide +kernel
theorem dX7_together_151 : decode cX7_together 151 = .ok (.iastore, 1) := by decide +kernel
theorem dX7_together_152 : decode cX7_together 152 = .ok (.iinc 3 1, 3) := by decide +kernel
theorem dX7_together_155 : decode cX7_together 155 = .ok (.iinc 4 1, 3) := by decide +kernel
theorem dX7_together_158 : decode cX7_together 158 = .ok (.goto (-82), 3) := by decide +kernel
theorem dX7_together_161 : decode cX7_together 161 = .ok (.aload_n 0, 1) := by decide +kernel
theorem dX7_together_162 : decode cX7_together 162 = .ok (.iload_n 1, 1) := by decide +kernel
theorem dX7_together_163 : decode cX7_together 163 = .ok (.iload_n 3, 1) := by decide +kernel
theorem dX7_together_164 : decode cX7_together 164 = .ok (.invokevirtual 214, 3) := by decide +kernel
theorem dX7_together_167 : decode cX7_together 167 = .ok (.aload_n 0, 1) := by decide +kernel
theorem dX7_together_168 : decode cX7_together 168 = .ok (.iload_n 2, 1) := by decide +kernel
theorem dX7_together_169 : decode cX7_together 169 = .ok (.iload_n 3, 1) := by decide +kernel
theorem dX7_together_170 : decode cX7_together 170 = .ok (.invokevirtual 214, 3) := by decide +kernel
theorem dX7_together_173 : decode cX7_together 173 = .ok (.iconst 0, 1) := by decide +kernel
theorem dX7_together_174 : decode cX7_together 174 = .ok (.istore 4, 2) := by decide +kernel
theorem dX7_together_176 : decode cX7_together 176 = .ok (.iload 4, 2) := by decide +kernel
theorem dX7_together_178 : decode cX7_together 178 = .ok (.bipush 40, 2) := by decide +kernel
theorem dX7_together_180 : decode cX7_together 180 = .ok (.if_icmp .ge 110, 3) := by decide +kernel
theorem dX7_together_183 : decode cX7_together 183 = .ok (.aload_n 0, 1) := by decide +kernel
theorem dX7_together_184 : decode cX7_together 184 = .ok (.getfield 54, 3) := by decide +kernel
theorem dX7_together_187 : decode cX7_together 187 = .ok (.bipush 40, 2) := by decide +kernel
theorem dX7_together_189 : decode cX7_together 189 = .ok (.iload_n 2, 1) := by decide +kernel
theorem dX7_together_190 : decode cX7_together 190 = .ok (.imul, 1) := by decide +kernel
theorem dX7_together_191 : decode cX7_together 191 = .ok (.iload 4, 2) := by decide +kernel
theorem dX7_together_193 : decode cX7_together 193 = .ok (.iadd, 1) := by decide +kernel
theorem dX7_together_194 : decode cX7_together 194 = .ok (.baload, 1) := by decide +kernel
theorem dX7_together_195 : decode cX7_together 195 = .ok (.ifCond .eq 18, 3) := by decide +kernel
theorem dX7_together_198 : decode cX7_together 198 = .ok (.aload_n 0, 1) := by decide +kernel
theorem dX7_together_199 : decode cX7_together 199 = .ok (.getfield 51, 3) := by decide +kernel
theorem dX7_together_202 : decode cX7_together 202 = .ok (.bipush 40, 2) := by decide +kernel
theorem dX7_together_204 : decode cX7_together 204 = .ok (.iload_n 2, 1) := by decide +kernel
theorem dX7_together_205 : decode cX7_together 205 = .ok (.imul, 1) := by decide +kernel
theorem dX7_together_206 : decode cX7_together 206 = .ok (.iload 4, 2) := by decide +kernel
theorem dX7_together_208 : decode cX7_together 208 = .ok (.iadd, 1) := by decide +kernel
theorem dX7_together_209 : decode cX7_together 209 = .ok (.iaload, 1) := by decide +kernel
theorem dX7_together_210 : decode cX7_together 210 = .ok (.goto 4, 3) := by decide +kernel
theorem dX7_together_213 : decode cX7_together 213 = .ok (.iconst 0, 1) := by decide +kernel
theorem dX7_together_214 : decode cX7_together 214 = .ok (.istore 5, 2) := by decide +kernel
theorem dX7_together_216 : decode cX7_together 216 = .ok (.aload_n 0, 1) := by decide +kernel
theorem dX7_together_217 : decode cX7_together 217 = .ok (.getfield 54, 3) := by decide +kernel
theorem dX7_together_220 : decode cX7_together 220 = .ok (.bipush 40, 2) := by decide +kernel
theorem dX7_together_222 : decode cX7_together 222 = .ok (.iload_n 1, 1) := by decide +kernel
theorem dX7_together_223 : decode cX7_together 223 = .ok (.imul, 1) := by decide +kernel
theorem dX7_together_224 : decode cX7_together 224 = .ok (.iload 4, 2) := by decide +kernel
theorem dX7_together_226 : decode cX7_together 226 = .ok (.iadd, 1) := by decide +kernel
theorem dX7_together_227 : decode cX7_together 227 = .ok (.baload, 1) := by decide +kernel
theorem dX7_together_228 : decode cX7_together 228 = .ok (.ifCond .eq 23, 3) := by decide +kernel
theorem dX7_together_231 : decode cX7_together 231 = .ok (.aload_n 0, 1) := by decide +kernel
theorem dX7_together_232 : decode cX7_together 232 = .ok (.getfield 51, 3) := by decide +kernel
theorem dX7_together_235 : decode cX7_together 235 = .ok (.bipush 40, 2) := by decide +kernel
theorem dX7_together_237 : decode cX7_together 237 = .ok (.iload_n 1, 1) := by decide +kernel
theorem dX7_together_238 : decode cX7_together 238 = .ok (.imul, 1) := by decide +kernel
theorem dX7_together_239 : decode cX7_together 239 = .ok (.iload 4, 2) := by decide +kernel
theorem dX7_together_241 : decode cX7_together 241 = .ok (.iadd, 1) := by decide +kernel
theorem dX7_together_242 : decode cX7_together 242 = .ok (.dup2, 1) := by decide +kernel
theorem dX7_together_243 : decode cX7_together 243 = .ok (.iaload, 1) := by decide +kernel
theorem dX7_together_244 : decode cX7_together 244 = .ok (.iload 5, 2) := by decide +kernel
theorem dX7_together_246 : decode cX7_together 246 = .ok (.iadd, 1) := by decide +kernel
theorem dX7_together_247 : decode cX7_together 247 = .ok (.iastore, 1) := by decide +kernel
theorem dX7_together_248 : decode cX7_together 248 = .ok (.goto 36, 3) := by decide +kernel
theorem dX7_together_251 : decode cX7_together 251 = .ok (.iconst 0, 1) := by decide +kernel
theorem dX7_together_252 : decode cX7_together 252 = .ok (.istore 6, 2) := by decide +kernel
theorem dX7_together_254 : decode cX7_together 254 = .ok (.aload_n 0, 1) := by decide +kernel
theorem dX7_together_255 : decode cX7_together 255 = .ok (.getfield 76, 3) := by decide +kernel
theorem dX7_together_258 : decode cX7_together 258 = .ok (.iload 6, 2) := by decide +kernel
theorem dX7_together_260 : decode cX7_together 260 = .ok (.iaload, 1) := by decide +kernel
theorem dX7_together_261 : decode cX7_together 261 = .ok (.iload 4, 2) := by decide +kernel
theorem dX7_together_263 : decode cX7_together 263 = .ok (.if_icmp .ge 9, 3) := by decide +kernel
theorem dX7_together_266 : decode cX7_together 266 = .ok (.iinc 6 1, 3) := by decide +kernel
theorem dX7_together_269 : decode cX7_together 269 = .ok (.goto (-15), 3) := by decide +kernel
theorem dX7_together_272 : decode cX7_together 272 = .ok (.aload_n 0, 1) := by decide +kernel
theorem dX7_together_273 : decode cX7_together 273 = .ok (.getfield 79, 3) := by decide +kernel
theorem dX7_together_276 : decode cX7_together 276 = .ok (.iload 6, 2) := by decide +kernel
theorem dX7_together_278 : decode cX7_together 278 = .ok (.dup2, 1) := by decide +kernel
theorem dX7_together_279 : decode cX7_together 279 = .ok (.iaload, 1) := by decide +kernel
theorem dX7_together_280 : decode cX7_together 280 = .ok (.iload 5, 2) := by decide +kernel
theorem dX7_together_282 : decode cX7_together 282 = .ok (.iadd, 1) := by decide +kernel
theorem dX7_together_283 : decode cX7_together 283 = .ok (.iastore, 1) := by decide +kernel
theorem dX7_together_284 : decode cX7_together 284 = .ok (.iinc 4 1, 3) := by decide +kernel
theorem dX7_together_287 : decode cX7_together 287 = .ok (.goto (-111), 3) := by decide +kernel
theorem dX7_together_290 : decode cX7_together 290 = .ok (.aload_n 0, 1) := by decide +kernel
theorem dX7_together_291 : decode cX7_together 291 = .ok (.getfield 45, 3) := by decide +kernel
theorem dX7_together_294 : decode cX7_together 294 = .ok (.iload_n 1, 1) := by decide +kernel
theorem dX7_together_295 : decode cX7_together 295 = .ok (.iload_n 3, 1) := by decide +kernel
theorem dX7_together_296 : decode cX7_together 296 = .ok (.iastore, 1) := by decide +kernel
theorem dX7_together_297 : decode cX7_together 297 = .ok (.iconst 0, 1) := by decide +kernel
theorem dX7_together_298 : decode cX7_together 298 = .ok (.istore 4, 2) := by decide +kernel
theorem dX7_together_300 : decode cX7_together 300 = .ok (.iload 4, 2) := by decide +kernel
theorem dX7_together_302 : decode cX7_together 302 = .ok (.iload_n 3, 1) := by decide +kernel
theorem dX7_together_303 : decode cX7_together 303 = .ok (.if_icmp .ge 66, 3) := by decide +kernel
theorem dX7_together_306 : decode cX7_together 306 = .ok (.aload_n 0, 1) := by decide +kernel
theorem dX7_together_307 : decode cX7_together 307 = .ok (.getfield 58, 3) := by decide +kernel
theorem dX7_together_310 : decode cX7_together 310 = .ok (.bipush 40, 2) := by decide +kernel
theorem dX7_together_312 : decode cX7_together 312 = .ok (.iload_n 1, 1) := by decide +kernel
theorem dX7_together_313 : decode cX7_together 313 = .ok (.imul, 1) := by decide +kernel
theorem dX7_together_314 : decode cX7_together 314 = .ok (.iload 4, 2) := by decide +kernel
theorem dX7_together_316 : decode cX7_together 316 = .ok (.iadd, 1) := by decide +kernel
theorem dX7_together_317 : decode cX7_together 317 = .ok (.aload_n 0, 1) := by decide +kernel
theorem dX7_together_318 : decode cX7_together 318 = .ok (.getfield 76, 3) := by decide +kernel
theorem dX7_together_321 : decode cX7_together 321 = .ok (.iload 4, 2) := by decide +kernel
theorem dX7_together_323 : decode cX7_together 323 = .ok (.iaload, 1) := by decide +kernel
theorem dX7_together_324 : decode cX7_together 324 = .ok (.iastore, 1) := by decide +kernel
theorem dX7_together_325 : decode cX7_together 325 = .ok (.aload_n 0, 1) := by decide +kernel
theorem dX7_together_326 : decode cX7_together 326 = .ok (.getfield 61, 3) := by decide +kernel
theorem dX7_together_329 : decode cX7_together 329 = .ok (.bipush 40, 2) := by decide +kernel
theorem dX7_together_331 : decode cX7_together 331 = .ok (.iload_n 1, 1) := by decide +kernel
theorem dX7_together_332 : decode cX7_together 332 = .ok (.imul, 1) := by decide +kernel
theorem dX7_together_333 : decode cX7_together 333 = .ok (.iload 4, 2) := by decide +kernel
theorem dX7_together_335 : decode cX7_together 335 = .ok (.iadd, 1) := by decide +kernel
theorem dX7_together_336 : decode cX7_together 336 = .ok (.aload_n 0, 1) := by decide +kernel
theorem dX7_together_337 : decode cX7_together 337 = .ok (.getfield 79, 3) := by decide +kernel
theorem dX7_together_340 : decode cX7_together 340 = .ok (.iload 4, 2) := by decide +kernel
theorem dX7_together_342 : decode cX7_together 342 = .ok (.iaload, 1) := by decide +kernel
theorem dX7_together_343 : decode cX7_together 343 = .ok (.iastore, 1) := by decide +kernel
theorem dX7_together_344 : decode cX7_together 344 = .ok (.aload_n 0, 1) := by decide +kernel
theorem dX7_together_345 : decode cX7_together 345 = .ok (.getfield 64, 3) := by decide +kernel
theorem dX7_together_348 : decode cX7_together 348 = .ok (.bipush 40, 2) := by decide +kernel
theorem dX7_together_350 : decode cX7_together 350 = .ok (.iload_n 1, 1) := by decide +kernel
theorem dX7_together_351 : decode cX7_together 351 = .ok (.imul, 1) := by decide +kernel
theorem dX7_together_352 : decode cX7_together 352 = .ok (.iload 4, 2) := by decide +kernel
theorem dX7_together_354 : decode cX7_together 354 = .ok (.iadd, 1) := by decide +kernel
theorem dX7_together_355 : decode cX7_together 355 = .ok (.aload_n 0, 1) := by decide +kernel
theorem dX7_together_356 : decode cX7_together 356 = .ok (.getfield 82, 3) := by decide +kernel
theorem dX7_together_359 : decode cX7_together 359 = .ok (.iload 4, 2) := by decide +kernel
theorem dX7_together_361 : decode cX7_together 361 = .ok (.iaload, 1) := by decide +kernel
theorem dX7_together_362 : decode cX7_together 362 = .ok (.iastore, 1) := by decide +kernel
theorem dX7_together_363 : decode cX7_together 363 = .ok (.iinc 4 1, 3) := by decide +kernel
theorem dX7_together_366 : decode cX7_together 366 = .ok (.goto (-66), 3) := by decide +kernel
theorem dX7_together_369 : decode cX7_together 369 = .ok (.aload_n 0, 1) := by decide +kernel
theorem dX7_together_370 : decode cX7_together 370 = .ok (.getfield 45, 3) := by decide +kernel
theorem dX7_together_373 : decode cX7_together 373 = .ok (.iload_n 1, 1) := by decide +kernel
theorem dX7_together_374 : decode cX7_together 374 = .ok (.iaload, 1) := by decide +kernel
theorem dX7_together_375 : decode cX7_together 375 = .ok (.bipush 12, 2) := by decide +kernel
theorem dX7_together_377 : decode cX7_together 377 = .ok (.if_icmp .le 17, 3) := by decide +kernel
theorem dX7_together_380 : decode cX7_together 380 = .ok (.aload_n 0, 1) := by decide +kernel
theorem dX7_together_381 : decode cX7_together 381 = .ok (.iload_n 1, 1) := by decide +kernel
theorem dX7_together_382 : decode cX7_together 382 = .ok (.aload_n 0, 1) := by decide +kernel
theorem dX7_together_383 : decode cX7_together 383 = .ok (.iload_n 1, 1) := by decide +kernel
theorem dX7_together_384 : decode cX7_together 384 = .ok (.iconst (-1), 1) := by decide +kernel
theorem dX7_together_385 : decode cX7_together 385 = .ok (.invokevirtual 204, 3) := by decide +kernel
theorem dX7_together_388 : decode cX7_together 388 = .ok (.invokevirtual 198, 3) := by decide +kernel
theorem dX7_together_391 : decode cX7_together 391 = .ok (.goto (-22), 3) := by decide +kernel
theorem dX7_together_394 : decode cX7_together 394 = .ok (.aload_n 0, 1) := by decide +kernel
theorem dX7_together_395 : decode cX7_together 395 = .ok (.getfield 48, 3) := by decide +kernel
theorem dX7_together_398 : decode cX7_together 398 = .ok (.iload_n 1, 1) := by decide +kernel
theorem dX7_together_399 : decode cX7_together 399 = .ok (.iconst 0, 1) := by decide +kernel
theorem dX7_together_400 : decode cX7_together 400 = .ok (.iastore, 1) := by decide +kernel
theorem dX7_together_401 : decode cX7_together 401 = .ok (.aload_n 0, 1) := by decide +kernel
theorem dX7_together_402 : decode cX7_together 402 = .ok (.iconst 0, 1) := by decide +kernel
theorem dX7_together_403 : decode cX7_together 403 = .ok (.putfield 85, 3) := by decide +kernel
theorem dX7_together_406 : decode cX7_together 406 = .ok (.aload_n 0, 1) := by decide +kernel
theorem dX7_together_407 : decode cX7_together 407 = .ok (.getfield 45, 3) := by decide +kernel
theorem dX7_together_410 : decode cX7_together 410 = .ok (.iload_n 1, 1) := by decide +kernel
theorem dX7_together_411 : decode cX7_together 411 = .ok (.iaload, 1) := by decide +kernel
theorem dX7_together_412 : decode cX7_together 412 = .ok (.ireturn, 1) := by decide +kernel
set_option maxRecDepth 20000 in
theorem ggX7_drifts_X7_wrongSketch : GoodIn wsX7_drifts wsX7_wrongSketch := goodIn_r _ [7, 8, 9, 10, 6, 11, 16, 17, 18, 19, 20, 21, 22, 23, 24, 25, 26, 27, 28, 29, 30, 31, 32, 33, 34, 35, 36, 37, 38, 39, 40, 41, 42, 43, 44, 45] (by decide +kernel) (by decide +kernel)
set_option maxRecDepth 20000 in
theorem gX7_drifts_X7_wrongSketch : GoodIn wsX7_drifts (wsV RX7 166 RX7 yX7_wrongSketch wsX7_wrongSketch) := goodIn_app (goodIn_of _ (by decide +kernel)) ggX7_drifts_X7_wrongSketch
set_option maxRecDepth 20000 in
theorem ggX7_drifts_X7_refuse : GoodIn wsX7_drifts wsX7_refuse := goodIn_r _ [15, 1, 16, 17, 18, 19, 20, 21, 22, 23, 24, 25, 26, 27, 28, 29, 30, 31, 32, 33, 34, 35, 36, 37, 38, 39, 40, 41, 42, 43, 44, 45] (by decide +kernel) (by decide +kernel)
set_option maxRecDepth 20000 in
theorem gX7_drifts_X7_refuse : GoodIn wsX7_drifts (wsV RX7 138 RX7 yX7_refuse wsX7_refuse) := goodIn_app (goodIn_of _ (by decide +kernel)) ggX7_drifts_X7_refuse
theorem dX7_drifts_0 : decode cX7_drifts 0 = .ok (.aload_n 0, 1) := by decide +kernel
theorem dX7_drifts_1 : decode cX7_drifts 1 = .ok (.iload_n 1, 1) := by decide +kernel
theorem dX7_drifts_2 : decode cX7_drifts 2 = .ok (.invokevirtual 166, 3) := by decide +kernel
theorem dX7_drifts_5 : decode cX7_drifts 5 = .ok (.istore_n 2, 1) := by decide +kernel
theorem dX7_drifts_6 : decode cX7_drifts 6 = .ok (.iload_n 2, 1) := by decide +kernel
theorem dX7_drifts_7 : decode cX7_drifts 7 = .ok (.ifCond .le 9, 3) := by decide +kernel
theorem dX7_drifts_10 : decode cX7_drifts 10 = .ok (.aload_n 0, 1) := by decide +kernel
theorem dX7_drifts_11 : decode cX7_drifts 11 = .ok (.iload_n 2, 1) := by decide +kernel
theorem dX7_drifts_12 : decode cX7_drifts 12 = .ok (.invokevirtual 138, 3) := by decide +kernel
theorem dX7_drifts_15 : decode cX7_drifts 15 = .ok (.ireturn, 1) := by decide +kernel
theorem dX7_drifts_16 : decode cX7_drifts 16 = .ok (.aload_n 0, 1) := by decide +kernel
theorem dX7_drifts_17 : decode cX7_drifts 17 = .ok (.iconst 0, 1) := by decide +kernel
theorem dX7_drifts_18 : decode cX7_drifts 18 = .ok (.putfield 85, 3) := by decide +kernel
theorem dX7_drifts_21 : decode cX7_drifts 21 = .ok (.aload_n 0, 1) := by decide +kernel
theorem dX7_drifts_22 : decode cX7_drifts 22 = .ok (.getfield 48, 3) := by decide +kernel
theorem dX7_drifts_25 : decode cX7_drifts 25 = .ok (.iload_n 1, 1) := by decide +kernel
theorem dX7_drifts_26 : decode cX7_drifts 26 = .ok (.iaload, 1) := by decide +kernel
theorem dX7_drifts_27 : decode cX7_drifts 27 = .ok (.ireturn, 1) := by decide +kernel
theorem dX7_tells_0 : decode cX7_tells 0 = .ok (.lload_n 1, 1) := by decide +kernel
theorem dX7_tells_1 : decode cX7_tells 1 = .ok (.lconst 0, 1) := by decide +kernel
theorem dX7_tells_2 : decode cX7_tells 2 = .ok (.lcmp, 1) := by decide +kernel
theorem dX7_tells_3 : decode cX7_tells 3 = .ok (.ifCond .ge 8, 3) := by decide +kernel
theorem dX7_tells_6 : decode cX7_tells 6 = .ok (.lload_n 1, 1) := by decide +kernel
theorem dX7_tells_7 : decode cX7_tells 7 = .ok (.lneg, 1) := by decide +kernel
theorem dX7_tells_8 : decode cX7_tells 8 = .ok (.goto 4, 3) := by decide +kernel
theorem dX7_tells_11 : decode cX7_tells 11 = .ok (.lload_n 1, 1) := by decide +kernel
theorem dX7_tells_12 : decode cX7_tells 12 = .ok (.lstore 5, 2) := by decide +kernel
theorem dX7_tells_14 : decode cX7_tells 14 = .ok (.lload_n 3, 1) := by decide +kernel
theorem dX7_tells_15 : decode cX7_tells 15 = .ok (.lstore 7, 2) := by decide +kernel
theorem dX7_tells_17 : decode cX7_tells 17 = .ok (.lload 7, 2) := by decide +kernel
theorem dX7_tells_19 : decode cX7_tells 19 = .ok (.lconst 0, 1) := by decide +kernel
theorem dX7_tells_20 : decode cX7_tells 20 = .ok (.lcmp, 1) := by decide +kernel
theorem dX7_tells_21 : decode cX7_tells 21 = .ok (.ifCond .eq 21, 3) := by decide +kernel
theorem dX7_tells_24 : decode cX7_tells 24 = .ok (.lload 5, 2) := by decide +kernel
theorem dX7_tells_26 : decode cX7_tells 26 = .ok (.lload 7, 2) := by decide +kernel
theorem dX7_tells_28 : decode cX7_tells 28 = .ok (.lrem, 1) := by decide +kernel
theorem dX7_tells_29 : decode cX7_tells 29 = .ok (.lstore 9, 2) := by decide +kernel
theorem dX7_tells_31 : decode cX7_tells 31 = .ok (.lload 7, 2) := by decide +kernel
theorem dX7_tells_33 : decode cX7_tells 33 = .ok (.lstore 5, 2) := by decide +kernel
theorem dX7_tells_35 : decode cX7_tells 35 = .ok (.lload 9, 2) := by decide +kernel
theorem dX7_tells_37 : decode cX7_tells 37 = .ok (.lstore 7, 2) := by decide +kernel
theorem dX7_tells_39 : decode cX7_tells 39 = .ok (.goto (-22), 3) := by decide +kernel
theorem dX7_tells_42 : decode cX7_tells 42 = .ok (.aload_n 0, 1) := by decide +kernel
theorem dX7_tells_43 : decode cX7_tells 43 = .ok (.lload_n 1, 1) := by decide +kernel
theorem dX7_tells_44 : decode cX7_tells 44 = .ok (.lload 5, 2) := by decide +kernel
theorem dX7_tells_46 : decode cX7_tells 46 = .ok (.ldiv, 1) := by decide +kernel
theorem dX7_tells_47 : decode cX7_tells 47 = .ok (.putfield 89, 3) := by decide +kernel
theorem dX7_tells_50 : decode cX7_tells 50 = .ok (.aload_n 0, 1) := by decide +kernel
theorem dX7_tells_51 : decode cX7_tells 51 = .ok (.lload_n 3, 1) := by decide +kernel
theorem dX7_tells_52 : decode cX7_tells 52 = .ok (.lload 5, 2) := by decide +kernel
theorem dX7_tells_54 : decode cX7_tells 54 = .ok (.ldiv, 1) := by decide +kernel
theorem dX7_tells_55 : decode cX7_tells 55 = .ok (.putfield 7, 3) := by decide +kernel
theorem dX7_tells_58 : decode cX7_tells 58 = .ok (.aload_n 0, 1) := by decide +kernel
theorem dX7_tells_59 : decode cX7_tells 59 = .ok (.iconst 0, 1) := by decide +kernel
theorem dX7_tells_60 : decode cX7_tells 60 = .ok (.putfield 85, 3) := by decide +kernel
theorem dX7_tells_63 : decode cX7_tells 63 = .ok (.lload_n 1, 1) := by decide +kernel
theorem dX7_tells_64 : decode cX7_tells 64 = .ok (.lconst 0, 1) := by decide +kernel
theorem dX7_tells_65 : decode cX7_tells 65 = .ok (.lcmp, 1) := by decide +kernel
theorem dX7_tells_66 : decode cX7_tells 66 = .ok (.ifCond .le 7, 3) := by decide +kernel
theorem dX7_tells_69 : decode cX7_tells 69 = .ok (.iconst 1, 1) := by decide +kernel
theorem dX7_tells_70 : decode cX7_tells 70 = .ok (.goto 14, 3) := by decide +kernel
theorem dX7_tells_73 : decode cX7_tells 73 = .ok (.lload_n 1, 1) := by decide +kernel
theorem dX7_tells_74 : decode cX7_tells 74 = .ok (.lconst 0, 1) := by decide +kernel
theorem dX7_tells_75 : decode cX7_tells 75 = .ok (.lcmp, 1) := by decide +kernel
theorem dX7_tells_76 : decode cX7_tells 76 = .ok (.ifCond .ge 7, 3) := by decide +kernel
theorem dX7_tells_79 : decode cX7_tells 79 = .ok (.iconst (-1), 1) := by decide +kernel
theorem dX7_tells_80 : decode cX7_tells 80 = .ok (.goto 4, 3) := by decide +kernel
theorem dX7_tells_83 : decode cX7_tells 83 = .ok (.iconst 0, 1) := by decide +kernel
theorem dX7_tells_84 : decode cX7_tells 84 = .ok (.ireturn, 1) := by decide +kernel
set_option maxRecDepth 20000 in
theorem ggX7_wrongAsk_X7_isValue : GoodIn wsX7_wrongAsk wsX7_isValue := goodIn_r _ [4] (by decide +kernel) (by decide +kernel)
set_option maxRecDepth 20000 in
theorem gX7_wrongAsk_X7_isValue : GoodIn wsX7_wrongAsk (va_wsS RX7 123 yX7_isValue wsX7_isValue) := goodIn_app (goodIn_of _ (by decide +kernel)) ggX7_wrongAsk_X7_isValue
set_option maxRecDepth 20000 in
theorem ggX7_wrongAsk_X7_wrongSketch : GoodIn wsX7_wrongAsk wsX7_wrongSketch := goodIn_r _ [8, 9, 10, 11, 3, 12, 13, 14, 15, 16, 17, 18, 19, 20, 21, 22, 23, 24, 25, 26, 27, 28, 29, 30, 31, 32, 33, 34, 35, 36, 37, 38, 39, 40, 41, 42] (by decide +kernel) (by decide +kernel)
set_option maxRecDepth 20000 in
theorem gX7_wrongAsk_X7_wrongSketch : GoodIn wsX7_wrongAsk (wsV RX7 166 RX7 yX7_wrongSketch wsX7_wrongSketch) := goodIn_app (goodIn_of _ (by decide +kernel)) ggX7_wrongAsk_X7_wrongSketch
theorem dX7_wrongAsk_0 : decode cX7_wrongAsk 0 = .ok (.iload_n 2, 1) := by decide +kernel
theorem dX7_wrongAsk_1 : decode cX7_wrongAsk 1 = .ok (.invokestatic 123, 3) := by decide +kernel
theorem dX7_wrongAsk_4 : decode cX7_wrongAsk 4 = .ok (.ifCond .eq 15, 3) := by decide +kernel
theorem dX7_wrongAsk_7 : decode cX7_wrongAsk 7 = .ok (.iload_n 3, 1) := by decide +kernel
theorem dX7_wrongAsk_8 : decode cX7_wrongAsk 8 = .ok (.invokestatic 123, 3) := by decide +kernel
theorem dX7_wrongAsk_11 : decode cX7_wrongAsk 11 = .ok (.ifCond .eq 8, 3) := by decide +kernel
theorem dX7_wrongAsk_14 : decode cX7_wrongAsk 14 = .ok (.iload_n 2, 1) := by decide +kernel
theorem dX7_wrongAsk_15 : decode cX7_wrongAsk 15 = .ok (.iload_n 3, 1) := by decide +kernel
theorem dX7_wrongAsk_16 : decode cX7_wrongAsk 16 = .ok (.if_icmp .le 7, 3) := by decide +kernel
theorem dX7_wrongAsk_19 : decode cX7_wrongAsk 19 = .ok (.iconst 1, 1) := by decide +kernel
theorem dX7_wrongAsk_20 : decode cX7_wrongAsk 20 = .ok (.goto 8, 3) := by decide +kernel
theorem dX7_wrongAsk_23 : decode cX7_wrongAsk 23 = .ok (.aload_n 0, 1) := by decide +kernel
theorem dX7_wrongAsk_24 : decode cX7_wrongAsk 24 = .ok (.iload_n 1, 1) := by decide +kernel
theorem dX7_wrongAsk_25 : decode cX7_wrongAsk 25 = .ok (.invokevirtual 166, 3) := by decide +kernel
theorem dX7_wrongAsk_28 : decode cX7_wrongAsk 28 = .ok (.ireturn, 1) := by decide +kernel
theorem dX7_heavies_0 : decode cX7_heavies 0 = .ok (.iconst 0, 1) := by decide +kernel
theorem dX7_heavies_1 : decode cX7_heavies 1 = .ok (.istore 4, 2) := by decide +kernel
theorem dX7_heavies_3 : decode cX7_heavies 3 = .ok (.iload_n 2, 1) := by decide +kernel
theorem dX7_heavies_4 : decode cX7_heavies 4 = .ok (.istore 5, 2) := by decide +kernel
theorem dX7_heavies_6 : decode cX7_heavies 6 = .ok (.iload 5, 2) := by decide +kernel
theorem dX7_heavies_8 : decode cX7_heavies 8 = .ok (.iload_n 3, 1) := by decide +kernel
theorem dX7_heavies_9 : decode cX7_heavies 9 = .ok (.if_icmp .gt 45, 3) := by decide +kernel
theorem dX7_heavies_12 : decode cX7_heavies 12 = .ok (.iload 4, 2) := by decide +kernel
theorem dX7_heavies_14 : decode cX7_heavies 14 = .ok (.aload_n 0, 1) := by decide +kernel
theorem dX7_heavies_15 : decode cX7_heavies 15 = .ok (.getfield 54, 3) := by decide +kernel
theorem dX7_heavies_18 : decode cX7_heavies 18 = .ok (.bipush 40, 2) := by decide +kernel
theorem dX7_heavies_20 : decode cX7_heavies 20 = .ok (.iload_n 1, 1) := by decide +kernel
theorem dX7_heavies_21 : decode cX7_heavies 21 = .ok (.imul, 1) := by decide +kernel
theorem dX7_heavies_22 : decode cX7_heavies 22 = .ok (.iload 5, 2) := by decide +kernel
theorem dX7_heavies_24 : decode cX7_heavies 24 = .ok (.iadd, 1) := by decide +kernel
theorem dX7_heavies_25 : decode cX7_heavies 25 = .ok (.baload, 1) := by decide +kernel
theorem dX7_heavies_26 : decode cX7_heavies 26 = .ok (.ifCond .eq 18, 3) := by decide +kernel
theorem dX7_heavies_29 : decode cX7_heavies 29 = .ok (.aload_n 0, 1) := by decide +kernel
theorem dX7_heavies_30 : decode cX7_heavies 30 = .ok (.getfield 51, 3) := by decide +kernel
theorem dX7_heavies_33 : decode cX7_heavies 33 = .ok (.bipush 40, 2) := by decide +kernel
theorem dX7_heavies_35 : decode cX7_heavies 35 = .ok (.iload_n 1, 1) := by decide +kernel
theorem dX7_heavies_36 : decode cX7_heavies 36 = .ok (.imul, 1) := by decide +kernel
theorem dX7_heavies_37 : decode cX7_heavies 37 = .ok (.iload 5, 2) := by decide +kernel
theorem dX7_heavies_39 : decode cX7_heavies 39 = .ok (.iadd, 1) := by decide +kernel
theorem dX7_heavies_40 : decode cX7_heavies 40 = .ok (.iaload, 1) := by decide +kernel
theorem dX7_heavies_41 : decode cX7_heavies 41 = .ok (.goto 4, 3) := by decide +kernel
theorem dX7_heavies_44 : decode cX7_heavies 44 = .ok (.iconst 0, 1) := by decide +kernel
theorem dX7_heavies_45 : decode cX7_heavies 45 = .ok (.iadd, 1) := by decide +kernel
theorem dX7_heavies_46 : decode cX7_heavies 46 = .ok (.istore 4, 2) := by decide +kernel
theorem dX7_heavies_48 : decode cX7_heavies 48 = .ok (.iinc 5 1, 3) := by decide +kernel
theorem dX7_heavies_51 : decode cX7_heavies 51 = .ok (.goto (-45), 3) := by decide +kernel
theorem dX7_heavies_54 : decode cX7_heavies 54 = .ok (.iload 4, 2) := by decide +kernel
theorem dX7_heavies_56 : decode cX7_heavies 56 = .ok (.ireturn, 1) := by decide +kernel
set_option maxRecDepth 20000 in
theorem ggX7_asked_X7_begins : GoodIn wsX7_asked wsX7_begins := goodIn_r _ [13, 5, 19, 20, 21, 22, 23, 24, 25, 26, 27, 28, 29, 30, 31, 32, 33, 34, 35, 36, 37, 38, 39, 40, 41, 42, 43, 44, 45, 46, 47, 48] (by decide +kernel) (by decide +kernel)
set_option maxRecDepth 20000 in
theorem gX7_asked_X7_begins : GoodIn wsX7_asked (wsV RX7 143 RX7 yX7_begins wsX7_begins) := goodIn_app (goodIn_of _ (by decide +kernel)) ggX7_asked_X7_begins
set_option maxRecDepth 20000 in
theorem ggX7_asked_X7_light : GoodIn wsX7_asked wsX7_light := goodIn_r _ [17, 18, 19, 20, 21, 22, 23, 24, 25, 26, 27, 28, 29, 30, 31, 32, 33, 34, 35, 36, 37, 38, 39, 40, 41, 42, 43, 44, 45, 46, 47, 48] (by decide +kernel) (by decide +kernel)
set_option maxRecDepth 20000 in
theorem gX7_asked_X7_light : GoodIn wsX7_asked (wsV RX7 146 RX7 yX7_light wsX7_light) := goodIn_app (goodIn_of _ (by decide +kernel)) ggX7_asked_X7_light
theorem dX7_asked_0 : decode cX7_asked 0 = .ok (.aload_n 0, 1) := by decide +kernel
theorem dX7_asked_1 : decode cX7_asked 1 = .ok (.iload_n 1, 1) := by decide +kernel
theorem dX7_asked_2 : decode cX7_asked 2 = .ok (.iload_n 3, 1) := by decide +kernel
theorem dX7_asked_3 : decode cX7_asked 3 = .ok (.aload_n 0, 1) := by decide +kernel
theorem dX7_asked_4 : decode cX7_asked 4 = .ok (.iload_n 1, 1) := by decide +kernel
theorem dX7_asked_5 : decode cX7_asked 5 = .ok (.iload_n 2, 1) := by decide +kernel
theorem dX7_asked_6 : decode cX7_asked 6 = .ok (.invokevirtual 143, 3) := by decide +kernel
theorem dX7_asked_9 : decode cX7_asked 9 = .ok (.invokestatic 156, 3) := by decide +kernel
theorem dX7_asked_12 : decode cX7_asked 12 = .ok (.iload 4, 2) := by decide +kernel
theorem dX7_asked_14 : decode cX7_asked 14 = .ok (.aload_n 0, 1) := by decide +kernel
theorem dX7_asked_15 : decode cX7_asked 15 = .ok (.getfield 58, 3) := by decide +kernel
theorem dX7_asked_18 : decode cX7_asked 18 = .ok (.bipush 40, 2) := by decide +kernel
theorem dX7_asked_20 : decode cX7_asked 20 = .ok (.iload_n 1, 1) := by decide +kernel
theorem dX7_asked_21 : decode cX7_asked 21 = .ok (.imul, 1) := by decide +kernel
theorem dX7_asked_22 : decode cX7_asked 22 = .ok (.iload_n 2, 1) := by decide +kernel
theorem dX7_asked_23 : decode cX7_asked 23 = .ok (.iadd, 1) := by decide +kernel
theorem dX7_asked_24 : decode cX7_asked 24 = .ok (.iaload, 1) := by decide +kernel
theorem dX7_asked_25 : decode cX7_asked 25 = .ok (.invokestatic 151, 3) := by decide +kernel
theorem dX7_asked_28 : decode cX7_asked 28 = .ok (.invokevirtual 146, 3) := by decide +kernel
theorem dX7_asked_31 : decode cX7_asked 31 = .ok (.ireturn, 1) := by decide +kernel
set_option maxRecDepth 20000 in
theorem ggX7_guess_X7_wrongAsk : GoodIn wsX7_guess wsX7_wrongAsk := goodIn_r _ [7, 8, 9, 6, 10, 11, 12, 13, 14, 1, 15, 16, 17, 59, 60, 61, 62, 63, 64, 65, 66, 67, 68, 69, 70, 71, 72, 73, 74, 75, 76, 77, 78, 79, 80, 81, 82, 83, 84, 85, 86, 87, 88] (by decide +kernel) (by decide +kernel)
set_option maxRecDepth 20000 in
theorem gX7_guess_X7_wrongAsk : GoodIn wsX7_guess (wsV RX7 217 RX7 yX7_wrongAsk wsX7_wrongAsk) := goodIn_app (goodIn_of _ (by decide +kernel)) ggX7_guess_X7_wrongAsk
set_option maxRecDepth 20000 in
theorem ggX7_guess_X7_refuse : GoodIn wsX7_guess wsX7_refuse := goodIn_r _ [21, 22, 59, 60, 61, 62, 63, 64, 65, 66, 67, 68, 69, 70, 71, 72, 73, 74, 75, 76, 77, 78, 79, 80, 81, 82, 83, 84, 85, 86, 87, 88] (by decide +kernel) (by decide +kernel)
set_option maxRecDepth 20000 in
theorem gX7_guess_X7_refuse : GoodIn wsX7_guess (wsV RX7 138 RX7 yX7_refuse wsX7_refuse) := goodIn_app (goodIn_of _ (by decide +kernel)) ggX7_guess_X7_refuse
set_option maxRecDepth 20000 in
theorem ggX7_guess_X7_heavies : GoodIn wsX7_guess wsX7_heavies := goodIn_r _ [26, 27, 28, 59, 60, 61, 62, 63, 64, 65, 66, 67, 68, 69, 70, 71, 72, 73, 74, 75, 76, 77, 78, 79, 80, 81, 82, 83, 84, 85, 86, 87, 88] (by decide +kernel) (by decide +kernel)
set_option maxRecDepth 20000 in
theorem gX7_guess_X7_heavies : GoodIn wsX7_guess (wsV RX7 207 RX7 yX7_heavies wsX7_heavies) := goodIn_app (goodIn_of _ (by decide +kernel)) ggX7_guess_X7_heavies
set_option maxRecDepth 20000 in
theorem ggX7_guess_X7_longOf : GoodIn wsX7_guess wsX7_longOf := goodIn_r _ [32, 33, 34, 35, 36, 6, 37, 38, 39, 40, 41, 27, 59, 60, 61, 62, 63, 64, 65, 66, 67, 68, 69, 70, 71, 72, 73, 74, 75, 76, 77, 78, 79, 80, 81, 82, 83, 84, 85, 86, 87, 88] (by decide +kernel) (by decide +kernel)
set_option maxRecDepth 20000 in
theorem gX7_guess_X7_longOf : GoodIn wsX7_guess (wsV RX7 169 RX7 yX7_longOf wsX7_longOf) := goodIn_app (goodIn_of _ (by decide +kernel)) ggX7_guess_X7_longOf
set_option maxRecDepth 20000 in
theorem ggX7_guess_X7_asked : GoodIn wsX7_guess wsX7_asked := goodIn_r _ [45, 46, 47, 48, 49, 33, 50, 51, 52, 34, 35, 36, 6, 37, 38, 39, 40, 41, 27, 59, 60, 61, 62, 63, 64, 65, 66, 67, 68, 69, 70, 71, 72, 73, 74, 75, 76, 77, 78, 79, 80, 81, 82, 83, 84, 85, 86, 87, 88] (by decide +kernel) (by decide +kernel)
set_option maxRecDepth 20000 in
theorem gX7_guess_X7_asked : GoodIn wsX7_guess (wsV RX7 220 RX7 yX7_asked wsX7_asked) := goodIn_app (goodIn_of _ (by decide +kernel)) ggX7_guess_X7_asked
set_option maxRecDepth 20000 in
theorem ggX7_guess_X7_tells : GoodIn wsX7_guess wsX7_tells := goodIn_r _ [56, 57, 58, 22, 59, 60, 61, 62, 63, 64, 65, 66, 67, 68, 69, 70, 71, 72, 73, 74, 75, 76, 77, 78, 79, 80, 81, 82, 83, 84, 85, 86, 87, 88] (by decide +kernel) (by decide +kernel)
set_option maxRecDepth 20000 in
theorem gX7_guess_X7_tells : GoodIn wsX7_guess (wsV RX7 224 RX7 yX7_tells wsX7_tells) := goodIn_app (goodIn_of _ (by decide +kernel)) ggX7_guess_X7_tells
theorem dX7_guess_0 : decode cX7_guess 0 = .ok (.aload_n 0, 1) := by decide +kernel
theorem dX7_guess_1 : decode cX7_guess 1 = .ok (.iload_n 1, 1) := by decide +kernel
theorem dX7_guess_2 : decode cX7_guess 2 = .ok (.iload_n 2, 1) := by decide +kernel
theorem dX7_guess_3 : decode cX7_guess 3 = .ok (.iload_n 3, 1) := by decide +kernel
theorem dX7_guess_4 : decode cX7_guess 4 = .ok (.invokevirtual 217, 3) := by decide +kernel
theorem dX7_guess_7 : decode cX7_guess 7 = .ok (.istore 4, 2) := by decide +kernel
theorem dX7_guess_9 : decode cX7_guess 9 = .ok (.iload 4, 2) := by decide +kernel
theorem dX7_guess_11 : decode cX7_guess 11 = .ok (.ifCond .le 10, 3) := by decide +kernel
theorem dX7_guess_14 : decode cX7_guess 14 = .ok (.aload_n 0, 1) := by decide +kernel
theorem dX7_guess_15 : decode cX7_guess 15 = .ok (.iload 4, 2) := by decide +kernel
theorem dX7_guess_17 : decode cX7_guess 17 = .ok (.invokevirtual 138, 3) := by decide +kernel
theorem dX7_guess_20 : decode cX7_guess 20 = .ok (.ireturn, 1) := by decide +kernel
theorem dX7_guess_21 : decode cX7_guess 21 = .ok (.aload_n 0, 1) := by decide +kernel
theorem dX7_guess_22 : decode cX7_guess 22 = .ok (.iload_n 1, 1) := by decide +kernel
theorem dX7_guess_23 : decode cX7_guess 23 = .ok (.iload_n 2, 1) := by decide +kernel
theorem dX7_guess_24 : decode cX7_guess 24 = .ok (.iload_n 3, 1) := by decide +kernel
theorem dX7_guess_25 : decode cX7_guess 25 = .ok (.invokevirtual 207, 3) := by decide +kernel
theorem dX7_guess_28 : decode cX7_guess 28 = .ok (.i2l, 1) := by decide +kernel
theorem dX7_guess_29 : decode cX7_guess 29 = .ok (.lstore 5, 2) := by decide +kernel
theorem dX7_guess_31 : decode cX7_guess 31 = .ok (.lconst 1, 1) := by decide +kernel
theorem dX7_guess_32 : decode cX7_guess 32 = .ok (.lstore 7, 2) := by decide +kernel
theorem dX7_guess_34 : decode cX7_guess 34 = .ok (.iconst 0, 1) := by decide +kernel
theorem dX7_guess_35 : decode cX7_guess 35 = .ok (.istore 9, 2) := by decide +kernel
theorem dX7_guess_37 : decode cX7_guess 37 = .ok (.iload 9, 2) := by decide +kernel
theorem dX7_guess_39 : decode cX7_guess 39 = .ok (.aload_n 0, 1) := by decide +kernel
theorem dX7_guess_40 : decode cX7_guess 40 = .ok (.getfield 45, 3) := by decide +kernel
theorem dX7_guess_43 : decode cX7_guess 43 = .ok (.iload_n 1, 1) := by decide +kernel
theorem dX7_guess_44 : decode cX7_guess 44 = .ok (.iaload, 1) := by decide +kernel
theorem dX7_guess_45 : decode cX7_guess 45 = .ok (.if_icmp .ge 99, 3) := by decide +kernel
theorem dX7_guess_48 : decode cX7_guess 48 = .ok (.aload_n 0, 1) := by decide +kernel
theorem dX7_guess_49 : decode cX7_guess 49 = .ok (.iload_n 1, 1) := by decide +kernel
theorem dX7_guess_50 : decode cX7_guess 50 = .ok (.iload 9, 2) := by decide +kernel
theorem dX7_guess_52 : decode cX7_guess 52 = .ok (.invokevirtual 169, 3) := by decide +kernel
theorem dX7_guess_55 : decode cX7_guess 55 = .ok (.istore 10, 2) := by decide +kernel
theorem dX7_guess_57 : decode cX7_guess 57 = .ok (.aload_n 0, 1) := by decide +kernel
theorem dX7_guess_58 : decode cX7_guess 58 = .ok (.iload_n 1, 1) := by decide +kernel
theorem dX7_guess_59 : decode cX7_guess 59 = .ok (.iload 9, 2) := by decide +kernel
theorem dX7_guess_61 : decode cX7_guess 61 = .ok (.iload_n 2, 1) := by decide +kernel
theorem dX7_guess_62 : decode cX7_guess 62 = .ok (.iload_n 3, 1) := by decide +kernel
theorem dX7_guess_63 : decode cX7_guess 63 = .ok (.invokevirtual 220, 3) := by decide +kernel
theorem dX7_guess_66 : decode cX7_guess 66 = .ok (.istore 11, 2) := by decide +kernel
theorem dX7_guess_68 : decode cX7_guess 68 = .ok (.iload 11, 2) := by decide +kernel
theorem dX7_guess_70 : decode cX7_guess 70 = .ok (.ifCond .ne 6, 3) := by decide +kernel
theorem dX7_guess_73 : decode cX7_guess 73 = .ok (.goto 65, 3) := by decide +kernel
theorem dX7_guess_76 : decode cX7_guess 76 = .ok (.iload 11, 2) := by decide +kernel
theorem dX7_guess_78 : decode cX7_guess 78 = .ok (.iload 10, 2) := by decide +kernel
theorem dX7_guess_80 : decode cX7_guess 80 = .ok (.if_icmp .ne 7, 3) := by decide +kernel
theorem dX7_guess_83 : decode cX7_guess 83 = .ok (.lconst 1, 1) := by decide +kernel
theorem dX7_guess_84 : decode cX7_guess 84 = .ok (.goto 6, 3) := by decide +kernel
theorem dX7_guess_87 : decode cX7_guess 87 = .ok (.iload 10, 2) := by decide +kernel
theorem dX7_guess_89 : decode cX7_guess 89 = .ok (.i2l, 1) := by decide +kernel
theorem dX7_guess_90 : decode cX7_guess 90 = .ok (.lstore 12, 2) := by decide +kernel
theorem dX7_guess_92 : decode cX7_guess 92 = .ok (.lload 5, 2) := by decide +kernel
theorem dX7_guess_94 : decode cX7_guess 94 = .ok (.lload 12, 2) := by decide +kernel
theorem dX7_guess_96 : decode cX7_guess 96 = .ok (.lmul, 1) := by decide +kernel
theorem dX7_guess_97 : decode cX7_guess 97 = .ok (.lload 7, 2) := by decide +kernel
theorem dX7_guess_99 : decode cX7_guess 99 = .ok (.aload_n 0, 1) := by decide +kernel
theorem dX7_guess_100 : decode cX7_guess 100 = .ok (.getfield 61, 3) := by decide +kernel
theorem dX7_guess_103 : decode cX7_guess 103 = .ok (.bipush 40, 2) := by decide +kernel
theorem dX7_guess_105 : decode cX7_guess 105 = .ok (.iload_n 1, 1) := by decide +kernel
theorem dX7_guess_106 : decode cX7_guess 106 = .ok (.imul, 1) := by decide +kernel
theorem dX7_guess_107 : decode cX7_guess 107 = .ok (.iload 9, 2) := by decide +kernel
theorem dX7_guess_109 : decode cX7_guess 109 = .ok (.iadd, 1) := by decide +kernel
theorem dX7_guess_110 : decode cX7_guess 110 = .ok (.iaload, 1) := by decide +kernel
theorem dX7_guess_111 : decode cX7_guess 111 = .ok (.i2l, 1) := by decide +kernel
theorem dX7_guess_112 : decode cX7_guess 112 = .ok (.lmul, 1) := by decide +kernel
theorem dX7_guess_113 : decode cX7_guess 113 = .ok (.iload 11, 2) := by decide +kernel
theorem dX7_guess_115 : decode cX7_guess 115 = .ok (.iload 10, 2) := by decide +kernel
theorem dX7_guess_117 : decode cX7_guess 117 = .ok (.if_icmp .ne 7, 3) := by decide +kernel
theorem dX7_guess_120 : decode cX7_guess 120 = .ok (.lconst 1, 1) := by decide +kernel
theorem dX7_guess_121 : decode cX7_guess 121 = .ok (.goto 6, 3) := by decide +kernel
theorem dX7_guess_124 : decode cX7_guess 124 = .ok (.iload 11, 2) := by decide +kernel
theorem dX7_guess_126 : decode cX7_guess 126 = .ok (.i2l, 1) := by decide +kernel
theorem dX7_guess_127 : decode cX7_guess 127 = .ok (.lmul, 1) := by decide +kernel
theorem dX7_guess_128 : decode cX7_guess 128 = .ok (.ladd, 1) := by decide +kernel
theorem dX7_guess_129 : decode cX7_guess 129 = .ok (.lstore 5, 2) := by decide +kernel
theorem dX7_guess_131 : decode cX7_guess 131 = .ok (.lload 7, 2) := by decide +kernel
theorem dX7_guess_133 : decode cX7_guess 133 = .ok (.lload 12, 2) := by decide +kernel
theorem dX7_guess_135 : decode cX7_guess 135 = .ok (.lmul, 1) := by decide +kernel
theorem dX7_guess_136 : decode cX7_guess 136 = .ok (.lstore 7, 2) := by decide +kernel
theorem dX7_guess_138 : decode cX7_guess 138 = .ok (.iinc 9 1, 3) := by decide +kernel
theorem dX7_guess_141 : decode cX7_guess 141 = .ok (.goto (-104), 3) := by decide +kernel
theorem dX7_guess_144 : decode cX7_guess 144 = .ok (.aload_n 0, 1) := by decide +kernel
theorem dX7_guess_145 : decode cX7_guess 145 = .ok (.lload 5, 2) := by decide +kernel
theorem dX7_guess_147 : decode cX7_guess 147 = .ok (.lload 7, 2) := by decide +kernel
theorem dX7_guess_149 : decode cX7_guess 149 = .ok (.invokevirtual 224, 3) := by decide +kernel
theorem dX7_guess_152 : decode cX7_guess 152 = .ok (.ireturn, 1) := by decide +kernel
set_option maxRecDepth 20000 in
theorem ggX7_boundOf_X7_heavies : GoodIn wsX7_boundOf wsX7_heavies := goodIn_r _ [12, 13, 14, 35, 36, 37, 38, 39, 40, 41, 42, 43, 44, 45, 46, 47, 48, 49, 50, 51, 52, 53, 54, 55, 56, 57, 58, 59, 60, 61, 62, 63, 64] (by decide +kernel) (by decide +kernel)
set_option maxRecDepth 20000 in
theorem gX7_boundOf_X7_heavies : GoodIn wsX7_boundOf (wsV RX7 207 RX7 yX7_heavies wsX7_heavies) := goodIn_app (goodIn_of _ (by decide +kernel)) ggX7_boundOf_X7_heavies
set_option maxRecDepth 20000 in
theorem ggX7_boundOf_X7_asked : GoodIn wsX7_boundOf wsX7_asked := goodIn_r _ [18, 4, 5, 6, 7, 19, 20, 21, 22, 23, 24, 25, 11, 26, 27, 28, 29, 30, 13, 35, 36, 37, 38, 39, 40, 41, 42, 43, 44, 45, 46, 47, 48, 49, 50, 51, 52, 53, 54, 55, 56, 57, 58, 59, 60, 61, 62, 63, 64] (by decide +kernel) (by decide +kernel)
set_option maxRecDepth 20000 in
theorem gX7_boundOf_X7_asked : GoodIn wsX7_boundOf (wsV RX7 220 RX7 yX7_asked wsX7_asked) := goodIn_app (goodIn_of _ (by decide +kernel)) ggX7_boundOf_X7_asked
set_option maxRecDepth 20000 in
theorem ggX7_boundOf_X7_longOf : GoodIn wsX7_boundOf wsX7_longOf := goodIn_r _ [34, 19, 23, 24, 25, 11, 26, 27, 28, 29, 30, 13, 35, 36, 37, 38, 39, 40, 41, 42, 43, 44, 45, 46, 47, 48, 49, 50, 51, 52, 53, 54, 55, 56, 57, 58, 59, 60, 61, 62, 63, 64] (by decide +kernel) (by decide +kernel)
set_option maxRecDepth 20000 in
theorem gX7_boundOf_X7_longOf : GoodIn wsX7_boundOf (wsV RX7 169 RX7 yX7_longOf wsX7_longOf) := goodIn_app (goodIn_of _ (by decide +kernel)) ggX7_boundOf_X7_longOf
theorem dX7_boundOf_0 : decode cX7_boundOf 0 = .ok (.aload_n 0, 1) := by decide +kernel
theorem dX7_boundOf_1 : decode cX7_boundOf 1 = .ok (.iload_n 1, 1) := by decide +kernel
theorem dX7_boundOf_2 : decode cX7_boundOf 2 = .ok (.iload_n 2, 1) := by decide +kernel
theorem dX7_boundOf_3 : decode cX7_boundOf 3 = .ok (.iload_n 3, 1) := by decide +kernel
theorem dX7_boundOf_4 : decode cX7_boundOf 4 = .ok (.invokevirtual 207, 3) := by decide +kernel
theorem dX7_boundOf_7 : decode cX7_boundOf 7 = .ok (.istore 5, 2) := by decide +kernel
theorem dX7_boundOf_9 : decode cX7_boundOf 9 = .ok (.iconst 0, 1) := by decide +kernel
theorem dX7_boundOf_10 : decode cX7_boundOf 10 = .ok (.istore 6, 2) := by decide +kernel
theorem dX7_boundOf_12 : decode cX7_boundOf 12 = .ok (.iload 6, 2) := by decide +kernel
theorem dX7_boundOf_14 : decode cX7_boundOf 14 = .ok (.aload_n 0, 1) := by decide +kernel
theorem dX7_boundOf_15 : decode cX7_boundOf 15 = .ok (.getfield 45, 3) := by decide +kernel
theorem dX7_boundOf_18 : decode cX7_boundOf 18 = .ok (.iload_n 1, 1) := by decide +kernel
theorem dX7_boundOf_19 : decode cX7_boundOf 19 = .ok (.iaload, 1) := by decide +kernel
theorem dX7_boundOf_20 : decode cX7_boundOf 20 = .ok (.if_icmp .ge 116, 3) := by decide +kernel
theorem dX7_boundOf_23 : decode cX7_boundOf 23 = .ok (.aload_n 0, 1) := by decide +kernel
theorem dX7_boundOf_24 : decode cX7_boundOf 24 = .ok (.iload_n 1, 1) := by decide +kernel
theorem dX7_boundOf_25 : decode cX7_boundOf 25 = .ok (.iload 6, 2) := by decide +kernel
theorem dX7_boundOf_27 : decode cX7_boundOf 27 = .ok (.iload_n 2, 1) := by decide +kernel
theorem dX7_boundOf_28 : decode cX7_boundOf 28 = .ok (.iload_n 3, 1) := by decide +kernel
theorem dX7_boundOf_29 : decode cX7_boundOf 29 = .ok (.invokevirtual 220, 3) := by decide +kernel
theorem dX7_boundOf_32 : decode cX7_boundOf 32 = .ok (.istore 7, 2) := by decide +kernel
theorem dX7_boundOf_34 : decode cX7_boundOf 34 = .ok (.iload 7, 2) := by decide +kernel
theorem dX7_boundOf_36 : decode cX7_boundOf 36 = .ok (.ifCond .ne 6, 3) := by decide +kernel
theorem dX7_boundOf_39 : decode cX7_boundOf 39 = .ok (.goto 91, 3) := by decide +kernel
theorem dX7_boundOf_42 : decode cX7_boundOf 42 = .ok (.iload 4, 2) := by decide +kernel
theorem dX7_boundOf_44 : decode cX7_boundOf 44 = .ok (.ifCond .eq 40, 3) := by decide +kernel
theorem dX7_boundOf_47 : decode cX7_boundOf 47 = .ok (.iload 5, 2) := by decide +kernel
theorem dX7_boundOf_49 : decode cX7_boundOf 49 = .ok (.iconst 0, 1) := by decide +kernel
theorem dX7_boundOf_50 : decode cX7_boundOf 50 = .ok (.aload_n 0, 1) := by decide +kernel
theorem dX7_boundOf_51 : decode cX7_boundOf 51 = .ok (.getfield 61, 3) := by decide +kernel
theorem dX7_boundOf_54 : decode cX7_boundOf 54 = .ok (.bipush 40, 2) := by decide +kernel
theorem dX7_boundOf_56 : decode cX7_boundOf 56 = .ok (.iload_n 1, 1) := by decide +kernel
theorem dX7_boundOf_57 : decode cX7_boundOf 57 = .ok (.imul, 1) := by decide +kernel
theorem dX7_boundOf_58 : decode cX7_boundOf 58 = .ok (.iload 6, 2) := by decide +kernel
theorem dX7_boundOf_60 : decode cX7_boundOf 60 = .ok (.iadd, 1) := by decide +kernel
theorem dX7_boundOf_61 : decode cX7_boundOf 61 = .ok (.iaload, 1) := by decide +kernel
theorem dX7_boundOf_62 : decode cX7_boundOf 62 = .ok (.aload_n 0, 1) := by decide +kernel
theorem dX7_boundOf_63 : decode cX7_boundOf 63 = .ok (.getfield 64, 3) := by decide +kernel
theorem dX7_boundOf_66 : decode cX7_boundOf 66 = .ok (.bipush 40, 2) := by decide +kernel
theorem dX7_boundOf_68 : decode cX7_boundOf 68 = .ok (.iload_n 1, 1) := by decide +kernel
theorem dX7_boundOf_69 : decode cX7_boundOf 69 = .ok (.imul, 1) := by decide +kernel
theorem dX7_boundOf_70 : decode cX7_boundOf 70 = .ok (.iload 6, 2) := by decide +kernel
theorem dX7_boundOf_72 : decode cX7_boundOf 72 = .ok (.iadd, 1) := by decide +kernel
theorem dX7_boundOf_73 : decode cX7_boundOf 73 = .ok (.iaload, 1) := by decide +kernel
theorem dX7_boundOf_74 : decode cX7_boundOf 74 = .ok (.iadd, 1) := by decide +kernel
theorem dX7_boundOf_75 : decode cX7_boundOf 75 = .ok (.invokestatic 156, 3) := by decide +kernel
theorem dX7_boundOf_78 : decode cX7_boundOf 78 = .ok (.iadd, 1) := by decide +kernel
theorem dX7_boundOf_79 : decode cX7_boundOf 79 = .ok (.istore 5, 2) := by decide +kernel
theorem dX7_boundOf_81 : decode cX7_boundOf 81 = .ok (.goto 49, 3) := by decide +kernel
theorem dX7_boundOf_84 : decode cX7_boundOf 84 = .ok (.iload 7, 2) := by decide +kernel
theorem dX7_boundOf_86 : decode cX7_boundOf 86 = .ok (.aload_n 0, 1) := by decide +kernel
theorem dX7_boundOf_87 : decode cX7_boundOf 87 = .ok (.iload_n 1, 1) := by decide +kernel
theorem dX7_boundOf_88 : decode cX7_boundOf 88 = .ok (.iload 6, 2) := by decide +kernel
theorem dX7_boundOf_90 : decode cX7_boundOf 90 = .ok (.invokevirtual 169, 3) := by decide +kernel
theorem dX7_boundOf_93 : decode cX7_boundOf 93 = .ok (.if_icmp .ne 37, 3) := by decide +kernel
theorem dX7_boundOf_96 : decode cX7_boundOf 96 = .ok (.iload 5, 2) := by decide +kernel
theorem dX7_boundOf_98 : decode cX7_boundOf 98 = .ok (.iconst 0, 1) := by decide +kernel
theorem dX7_boundOf_99 : decode cX7_boundOf 99 = .ok (.aload_n 0, 1) := by decide +kernel
theorem dX7_boundOf_100 : decode cX7_boundOf 100 = .ok (.getfield 61, 3) := by decide +kernel
theorem dX7_boundOf_103 : decode cX7_boundOf 103 = .ok (.bipush 40, 2) := by decide +kernel
theorem dX7_boundOf_105 : decode cX7_boundOf 105 = .ok (.iload_n 1, 1) := by decide +kernel
theorem dX7_boundOf_106 : decode cX7_boundOf 106 = .ok (.imul, 1) := by decide +kernel
theorem dX7_boundOf_107 : decode cX7_boundOf 107 = .ok (.iload 6, 2) := by decide +kernel
theorem dX7_boundOf_109 : decode cX7_boundOf 109 = .ok (.iadd, 1) := by decide +kernel
theorem dX7_boundOf_110 : decode cX7_boundOf 110 = .ok (.iaload, 1) := by decide +kernel
theorem dX7_boundOf_111 : decode cX7_boundOf 111 = .ok (.aload_n 0, 1) := by decide +kernel
theorem dX7_boundOf_112 : decode cX7_boundOf 112 = .ok (.getfield 64, 3) := by decide +kernel
theorem dX7_boundOf_115 : decode cX7_boundOf 115 = .ok (.bipush 40, 2) := by decide +kernel
theorem dX7_boundOf_117 : decode cX7_boundOf 117 = .ok (.iload_n 1, 1) := by decide +kernel
theorem dX7_boundOf_118 : decode cX7_boundOf 118 = .ok (.imul, 1) := by decide +kernel
theorem dX7_boundOf_119 : decode cX7_boundOf 119 = .ok (.iload 6, 2) := by decide +kernel
theorem dX7_boundOf_121 : decode cX7_boundOf 121 = .ok (.iadd, 1) := by decide +kernel
theorem dX7_boundOf_122 : decode cX7_boundOf 122 = .ok (.iaload, 1) := by decide +kernel
theorem dX7_boundOf_123 : decode cX7_boundOf 123 = .ok (.isub, 1) := by decide +kernel
theorem dX7_boundOf_124 : decode cX7_boundOf 124 = .ok (.invokestatic 156, 3) := by decide +kernel
theorem dX7_boundOf_127 : decode cX7_boundOf 127 = .ok (.iadd, 1) := by decide +kernel
theorem dX7_boundOf_128 : decode cX7_boundOf 128 = .ok (.istore 5, 2) := by decide +kernel
theorem dX7_boundOf_130 : decode cX7_boundOf 130 = .ok (.iinc 6 1, 3) := by decide +kernel
theorem dX7_boundOf_133 : decode cX7_boundOf 133 = .ok (.goto (-121), 3) := by decide +kernel
theorem dX7_boundOf_136 : decode cX7_boundOf 136 = .ok (.iload 5, 2) := by decide +kernel
theorem dX7_boundOf_138 : decode cX7_boundOf 138 = .ok (.ireturn, 1) := by decide +kernel
set_option maxRecDepth 20000 in
theorem ggX7_bound_X7_wrongAsk : GoodIn wsX7_bound wsX7_wrongAsk := goodIn_r _ [6, 7, 8, 5, 9, 10, 11, 12, 13, 14, 15, 16, 17, 58, 59, 60, 61, 62, 63, 64, 65, 66, 67, 68, 69, 70, 71, 72, 73, 74, 75, 76, 77, 78, 79, 80, 81, 82, 83, 84, 85, 86, 87] (by decide +kernel) (by decide +kernel)
set_option maxRecDepth 20000 in
theorem gX7_bound_X7_wrongAsk : GoodIn wsX7_bound (wsV RX7 217 RX7 yX7_wrongAsk wsX7_wrongAsk) := goodIn_app (goodIn_of _ (by decide +kernel)) ggX7_bound_X7_wrongAsk
set_option maxRecDepth 20000 in
theorem ggX7_bound_X7_refuse : GoodIn wsX7_bound wsX7_refuse := goodIn_r _ [21, 1, 58, 59, 60, 61, 62, 63, 64, 65, 66, 67, 68, 69, 70, 71, 72, 73, 74, 75, 76, 77, 78, 79, 80, 81, 82, 83, 84, 85, 86, 87] (by decide +kernel) (by decide +kernel)
set_option maxRecDepth 20000 in
theorem gX7_bound_X7_refuse : GoodIn wsX7_bound (wsV RX7 138 RX7 yX7_refuse wsX7_refuse) := goodIn_app (goodIn_of _ (by decide +kernel)) ggX7_bound_X7_refuse
set_option maxRecDepth 20000 in
theorem ggX7_bound_X7_boundOf : GoodIn wsX7_bound wsX7_boundOf := goodIn_r _ [25, 14, 26, 27, 28, 29, 30, 31, 32, 33, 34, 5, 35, 36, 37, 38, 39, 40, 41, 42, 43, 44, 45, 46, 47, 48, 49, 50, 51, 52, 53, 54, 55, 56, 57, 58, 59, 60, 61, 62, 63, 64, 65, 66, 67, 68, 69, 70, 71, 72, 73, 74, 75, 76, 77, 78, 79, 80, 81, 82, 83, 84, 85, 86, 87] (by decide +kernel) (by decide +kernel)
set_option maxRecDepth 20000 in
theorem gX7_bound_X7_boundOf : GoodIn wsX7_bound (wsV RX7 228 RX7 yX7_boundOf wsX7_boundOf) := goodIn_app (goodIn_of _ (by decide +kernel)) ggX7_bound_X7_boundOf
theorem dX7_bound_0 : decode cX7_bound 0 = .ok (.aload_n 0, 1) := by decide +kernel
theorem dX7_bound_1 : decode cX7_bound 1 = .ok (.iload_n 1, 1) := by decide +kernel
theorem dX7_bound_2 : decode cX7_bound 2 = .ok (.iload_n 2, 1) := by decide +kernel
theorem dX7_bound_3 : decode cX7_bound 3 = .ok (.iload_n 3, 1) := by decide +kernel
theorem dX7_bound_4 : decode cX7_bound 4 = .ok (.invokevirtual 217, 3) := by decide +kernel
theorem dX7_bound_7 : decode cX7_bound 7 = .ok (.istore 5, 2) := by decide +kernel
theorem dX7_bound_9 : decode cX7_bound 9 = .ok (.iload 5, 2) := by decide +kernel
theorem dX7_bound_11 : decode cX7_bound 11 = .ok (.ifCond .le 10, 3) := by decide +kernel
theorem dX7_bound_14 : decode cX7_bound 14 = .ok (.aload_n 0, 1) := by decide +kernel
theorem dX7_bound_15 : decode cX7_bound 15 = .ok (.iload 5, 2) := by decide +kernel
theorem dX7_bound_17 : decode cX7_bound 17 = .ok (.invokevirtual 138, 3) := by decide +kernel
theorem dX7_bound_20 : decode cX7_bound 20 = .ok (.ireturn, 1) := by decide +kernel
theorem dX7_bound_21 : decode cX7_bound 21 = .ok (.aload_n 0, 1) := by decide +kernel
theorem dX7_bound_22 : decode cX7_bound 22 = .ok (.iconst 0, 1) := by decide +kernel
theorem dX7_bound_23 : decode cX7_bound 23 = .ok (.putfield 85, 3) := by decide +kernel
theorem dX7_bound_26 : decode cX7_bound 26 = .ok (.aload_n 0, 1) := by decide +kernel
theorem dX7_bound_27 : decode cX7_bound 27 = .ok (.iload_n 1, 1) := by decide +kernel
theorem dX7_bound_28 : decode cX7_bound 28 = .ok (.iload_n 2, 1) := by decide +kernel
theorem dX7_bound_29 : decode cX7_bound 29 = .ok (.iload_n 3, 1) := by decide +kernel
theorem dX7_bound_30 : decode cX7_bound 30 = .ok (.iload 4, 2) := by decide +kernel
theorem dX7_bound_32 : decode cX7_bound 32 = .ok (.invokevirtual 228, 3) := by decide +kernel
theorem dX7_bound_35 : decode cX7_bound 35 = .ok (.ireturn, 1) := by decide +kernel
theorem dX7_common_0 : decode cX7_common 0 = .ok (.lload_n 0, 1) := by decide +kernel
theorem dX7_common_1 : decode cX7_common 1 = .ok (.lconst 0, 1) := by decide +kernel
theorem dX7_common_2 : decode cX7_common 2 = .ok (.lcmp, 1) := by decide +kernel
theorem dX7_common_3 : decode cX7_common 3 = .ok (.ifCond .ge 8, 3) := by decide +kernel
theorem dX7_common_6 : decode cX7_common 6 = .ok (.lload_n 0, 1) := by decide +kernel
theorem dX7_common_7 : decode cX7_common 7 = .ok (.lneg, 1) := by decide +kernel
theorem dX7_common_8 : decode cX7_common 8 = .ok (.goto 4, 3) := by decide +kernel
theorem dX7_common_11 : decode cX7_common 11 = .ok (.lload_n 0, 1) := by decide +kernel
theorem dX7_common_12 : decode cX7_common 12 = .ok (.lstore 4, 2) := by decide +kernel
theorem dX7_common_14 : decode cX7_common 14 = .ok (.lload_n 2, 1) := by decide +kernel
theorem dX7_common_15 : decode cX7_common 15 = .ok (.lstore 6, 2) := by decide +kernel
theorem dX7_common_17 : decode cX7_common 17 = .ok (.lload 6, 2) := by decide +kernel
theorem dX7_common_19 : decode cX7_common 19 = .ok (.lconst 0, 1) := by decide +kernel
theorem dX7_common_20 : decode cX7_common 20 = .ok (.lcmp, 1) := by decide +kernel
theorem dX7_common_21 : decode cX7_common 21 = .ok (.ifCond .eq 21, 3) := by decide +kernel
theorem dX7_common_24 : decode cX7_common 24 = .ok (.lload 4, 2) := by decide +kernel
theorem dX7_common_26 : decode cX7_common 26 = .ok (.lload 6, 2) := by decide +kernel
theorem dX7_common_28 : decode cX7_common 28 = .ok (.lrem, 1) := by decide +kernel
theorem dX7_common_29 : decode cX7_common 29 = .ok (.lstore 8, 2) := by decide +kernel
theorem dX7_common_31 : decode cX7_common 31 = .ok (.lload 6, 2) := by decide +kernel
theorem dX7_common_33 : decode cX7_common 33 = .ok (.lstore 4, 2) := by decide +kernel
theorem dX7_common_35 : decode cX7_common 35 = .ok (.lload 8, 2) := by decide +kernel
theorem dX7_common_37 : decode cX7_common 37 = .ok (.lstore 6, 2) := by decide +kernel
theorem dX7_common_39 : decode cX7_common 39 = .ok (.goto (-22), 3) := by decide +kernel
theorem dX7_common_42 : decode cX7_common 42 = .ok (.lload 4, 2) := by decide +kernel
theorem dX7_common_44 : decode cX7_common 44 = .ok (.lreturn, 1) := by decide +kernel
set_option maxRecDepth 20000 in
theorem ggX7_join_X7_isColumn : GoodIn wsX7_join wsX7_isColumn := goodIn_r _ [8] (by decide +kernel) (by decide +kernel)
set_option maxRecDepth 20000 in
theorem gX7_join_X7_isColumn : GoodIn wsX7_join (va_wsS RX7 120 yX7_isColumn wsX7_isColumn) := goodIn_app (goodIn_of _ (by decide +kernel)) ggX7_join_X7_isColumn
set_option maxRecDepth 20000 in
theorem ggX7_join_X7_refuse : GoodIn wsX7_join wsX7_refuse := goodIn_r _ [12, 13, 40, 41, 42, 43, 44, 45, 46, 47, 48, 49, 50, 51, 52, 53, 54, 55, 56, 57, 58, 59, 60, 61, 62, 63, 64, 65, 66, 67, 68, 69] (by decide +kernel) (by decide +kernel)
set_option maxRecDepth 20000 in
theorem gX7_join_X7_refuse : GoodIn wsX7_join (wsV RX7 138 RX7 yX7_refuse wsX7_refuse) := goodIn_app (goodIn_of _ (by decide +kernel)) ggX7_join_X7_refuse
set_option maxRecDepth 20000 in
theorem ggX7_join_X7_spanOf : GoodIn wsX7_join wsX7_spanOf := goodIn_r _ [17, 18, 40, 41, 42, 43, 44, 45, 46, 47, 48, 49, 50, 51, 52, 53, 54, 55, 56, 57, 58, 59, 60, 61, 62, 63, 64, 65, 66, 67, 68, 69] (by decide +kernel) (by decide +kernel)
set_option maxRecDepth 20000 in
theorem gX7_join_X7_spanOf : GoodIn wsX7_join (wsV RX7 117 RX7 yX7_spanOf wsX7_spanOf) := goodIn_app (goodIn_of _ (by decide +kernel)) ggX7_join_X7_spanOf
set_option maxRecDepth 20000 in
theorem ggX7_join_X7_longOf : GoodIn wsX7_join wsX7_longOf := goodIn_r _ [22, 18, 23, 24, 25, 7, 26, 27, 28, 29, 30, 2, 40, 41, 42, 43, 44, 45, 46, 47, 48, 49, 50, 51, 52, 53, 54, 55, 56, 57, 58, 59, 60, 61, 62, 63, 64, 65, 66, 67, 68, 69] (by decide +kernel) (by decide +kernel)
set_option maxRecDepth 20000 in
theorem gX7_join_X7_longOf : GoodIn wsX7_join (wsV RX7 169 RX7 yX7_longOf wsX7_longOf) := goodIn_app (goodIn_of _ (by decide +kernel)) ggX7_join_X7_longOf
set_option maxRecDepth 20000 in
theorem ggX7_join_X7_common : GoodIn wsX7_join wsX7_common := goodIn_r _ [33] (by decide +kernel) (by decide +kernel)
set_option maxRecDepth 20000 in
theorem gX7_join_X7_common : GoodIn wsX7_join (va_wsS RX7 232 yX7_common wsX7_common) := goodIn_app (goodIn_of _ (by decide +kernel)) ggX7_join_X7_common
set_option maxRecDepth 20000 in
theorem ggX7_join_X7_tells : GoodIn wsX7_join wsX7_tells := goodIn_r _ [37, 38, 39, 13, 40, 41, 42, 43, 44, 45, 46, 47, 48, 49, 50, 51, 52, 53, 54, 55, 56, 57, 58, 59, 60, 61, 62, 63, 64, 65, 66, 67, 68, 69] (by decide +kernel) (by decide +kernel)
set_option maxRecDepth 20000 in
theorem gX7_join_X7_tells : GoodIn wsX7_join (wsV RX7 224 RX7 yX7_tells wsX7_tells) := goodIn_app (goodIn_of _ (by decide +kernel)) ggX7_join_X7_tells
theorem dX7_join_0 : decode cX7_join 0 = .ok (.iload_n 1, 1) := by decide +kernel
theorem dX7_join_1 : decode cX7_join 1 = .ok (.invokestatic 120, 3) := by decide +kernel
theorem dX7_join_4 : decode cX7_join 4 = .ok (.ifCond .eq 10, 3) := by decide +kernel
theorem dX7_join_7 : decode cX7_join 7 = .ok (.iload_n 2, 1) := by decide +kernel
theorem dX7_join_8 : decode cX7_join 8 = .ok (.invokestatic 120, 3) := by decide +kernel
theorem dX7_join_11 : decode cX7_join 11 = .ok (.ifCond .ne 9, 3) := by decide +kernel
theorem dX7_join_14 : decode cX7_join 14 = .ok (.aload_n 0, 1) := by decide +kernel
theorem dX7_join_15 : decode cX7_join 15 = .ok (.iconst 1, 1) := by decide +kernel
theorem dX7_join_16 : decode cX7_join 16 = .ok (.invokevirtual 138, 3) := by decide +kernel
theorem dX7_join_19 : decode cX7_join 19 = .ok (.ireturn, 1) := by decide +kernel
theorem dX7_join_20 : decode cX7_join 20 = .ok (.aload_n 0, 1) := by decide +kernel
theorem dX7_join_21 : decode cX7_join 21 = .ok (.getfield 45, 3) := by decide +kernel
theorem dX7_join_24 : decode cX7_join 24 = .ok (.iload_n 1, 1) := by decide +kernel
theorem dX7_join_25 : decode cX7_join 25 = .ok (.iaload, 1) := by decide +kernel
theorem dX7_join_26 : decode cX7_join 26 = .ok (.ifCond .eq 12, 3) := by decide +kernel
theorem dX7_join_29 : decode cX7_join 29 = .ok (.aload_n 0, 1) := by decide +kernel
theorem dX7_join_30 : decode cX7_join 30 = .ok (.getfield 45, 3) := by decide +kernel
theorem dX7_join_33 : decode cX7_join 33 = .ok (.iload_n 2, 1) := by decide +kernel
theorem dX7_join_34 : decode cX7_join 34 = .ok (.iaload, 1) := by decide +kernel
theorem dX7_join_35 : decode cX7_join 35 = .ok (.ifCond .ne 9, 3) := by decide +kernel
theorem dX7_join_38 : decode cX7_join 38 = .ok (.aload_n 0, 1) := by decide +kernel
theorem dX7_join_39 : decode cX7_join 39 = .ok (.iconst 5, 1) := by decide +kernel
theorem dX7_join_40 : decode cX7_join 40 = .ok (.invokevirtual 138, 3) := by decide +kernel
theorem dX7_join_43 : decode cX7_join 43 = .ok (.ireturn, 1) := by decide +kernel
theorem dX7_join_44 : decode cX7_join 44 = .ok (.lconst 0, 1) := by decide +kernel
theorem dX7_join_45 : decode cX7_join 45 = .ok (.lstore_n 3, 1) := by decide +kernel
theorem dX7_join_46 : decode cX7_join 46 = .ok (.lconst 1, 1) := by decide +kernel
theorem dX7_join_47 : decode cX7_join 47 = .ok (.lstore 5, 2) := by decide +kernel
theorem dX7_join_49 : decode cX7_join 49 = .ok (.iconst 0, 1) := by decide +kernel
theorem dX7_join_50 : decode cX7_join 50 = .ok (.istore 7, 2) := by decide +kernel
theorem dX7_join_52 : decode cX7_join 52 = .ok (.iload 7, 2) := by decide +kernel
theorem dX7_join_54 : decode cX7_join 54 = .ok (.bipush 40, 2) := by decide +kernel
theorem dX7_join_56 : decode cX7_join 56 = .ok (.if_icmp .ge 243, 3) := by decide +kernel
theorem dX7_join_59 : decode cX7_join 59 = .ok (.bipush 40, 2) := by decide +kernel
theorem dX7_join_61 : decode cX7_join 61 = .ok (.iload_n 1, 1) := by decide +kernel
theorem dX7_join_62 : decode cX7_join 62 = .ok (.imul, 1) := by decide +kernel
theorem dX7_join_63 : decode cX7_join 63 = .ok (.iload 7, 2) := by decide +kernel
theorem dX7_join_65 : decode cX7_join 65 = .ok (.iadd, 1) := by decide +kernel
theorem dX7_join_66 : decode cX7_join 66 = .ok (.istore 8, 2) := by decide +kernel
theorem dX7_join_68 : decode cX7_join 68 = .ok (.bipush 40, 2) := by decide +kernel
theorem dX7_join_70 : decode cX7_join 70 = .ok (.iload_n 2, 1) := by decide +kernel
theorem dX7_join_71 : decode cX7_join 71 = .ok (.imul, 1) := by decide +kernel
theorem dX7_join_72 : decode cX7_join 72 = .ok (.iload 7, 2) := by decide +kernel
theorem dX7_join_74 : decode cX7_join 74 = .ok (.iadd, 1) := by decide +kernel
theorem dX7_join_75 : decode cX7_join 75 = .ok (.istore 9, 2) := by decide +kernel
theorem dX7_join_77 : decode cX7_join 77 = .ok (.aload_n 0, 1) := by decide +kernel
theorem dX7_join_78 : decode cX7_join 78 = .ok (.iload_n 1, 1) := by decide +kernel
theorem dX7_join_79 : decode cX7_join 79 = .ok (.iload 7, 2) := by decide +kernel
theorem dX7_join_81 : decode cX7_join 81 = .ok (.invokevirtual 117, 3) := by decide +kernel
theorem dX7_join_84 : decode cX7_join 84 = .ok (.istore 10, 2) := by decide +kernel
theorem dX7_join_86 : decode cX7_join 86 = .ok (.aload_n 0, 1) := by decide +kernel
theorem dX7_join_87 : decode cX7_join 87 = .ok (.iload_n 2, 1) := by decide +kernel
theorem dX7_join_88 : decode cX7_join 88 = .ok (.iload 7, 2) := by decide +kernel
theorem dX7_join_90 : decode cX7_join 90 = .ok (.invokevirtual 117, 3) := by decide +kernel
theorem dX7_join_93 : decode cX7_join 93 = .ok (.istore 11, 2) := by decide +kernel
theorem dX7_join_95 : decode cX7_join 95 = .ok (.aload_n 0, 1) := by decide +kernel
theorem dX7_join_96 : decode cX7_join 96 = .ok (.getfield 54, 3) := by decide +kernel
theorem dX7_join_99 : decode cX7_join 99 = .ok (.iload 8, 2) := by decide +kernel
theorem dX7_join_101 : decode cX7_join 101 = .ok (.baload, 1) := by decide +kernel
theorem dX7_join_102 : decode cX7_join 102 = .ok (.ifCond .eq 13, 3) := by decide +kernel
theorem dX7_join_105 : decode cX7_join 105 = .ok (.aload_n 0, 1) := by decide +kernel
theorem dX7_join_106 : decode cX7_join 106 = .ok (.getfield 51, 3) := by decide +kernel
theorem dX7_join_109 : decode cX7_join 109 = .ok (.iload 8, 2) := by decide +kernel
theorem dX7_join_111 : decode cX7_join 111 = .ok (.iaload, 1) := by decide +kernel
theorem dX7_join_112 : decode cX7_join 112 = .ok (.goto 15, 3) := by decide +kernel
theorem dX7_join_115 : decode cX7_join 115 = .ok (.aload_n 0, 1) := by decide +kernel
theorem dX7_join_116 : decode cX7_join 116 = .ok (.getfield 61, 3) := by decide +kernel
theorem dX7_join_119 : decode cX7_join 119 = .ok (.bipush 40, 2) := by decide +kernel
theorem dX7_join_121 : decode cX7_join 121 = .ok (.iload_n 1, 1) := by decide +kernel
theorem dX7_join_122 : decode cX7_join 122 = .ok (.imul, 1) := by decide +kernel
theorem dX7_join_123 : decode cX7_join 123 = .ok (.iload 10, 2) := by decide +kernel
theorem dX7_join_125 : decode cX7_join 125 = .ok (.iadd, 1) := by decide +kernel
theorem dX7_join_126 : decode cX7_join 126 = .ok (.iaload, 1) := by decide +kernel
theorem dX7_join_127 : decode cX7_join 127 = .ok (.i2l, 1) := by decide +kernel
theorem dX7_join_128 : decode cX7_join 128 = .ok (.aload_n 0, 1) := by decide +kernel
theorem dX7_join_129 : decode cX7_join 129 = .ok (.getfield 54, 3) := by decide +kernel
theorem dX7_join_132 : decode cX7_join 132 = .ok (.iload 9, 2) := by decide +kernel
theorem dX7_join_134 : decode cX7_join 134 = .ok (.baload, 1) := by decide +kernel
theorem dX7_join_135 : decode cX7_join 135 = .ok (.ifCond .eq 13, 3) := by decide +kernel
theorem dX7_join_138 : decode cX7_join 138 = .ok (.aload_n 0, 1) := by decide +kernel
theorem dX7_join_139 : decode cX7_join 139 = .ok (.getfield 51, 3) := by decide +kernel
theorem dX7_join_142 : decode cX7_join 142 = .ok (.iload 9, 2) := by decide +kernel
theorem dX7_join_144 : decode cX7_join 144 = .ok (.iaload, 1) := by decide +kernel
theorem dX7_join_145 : decode cX7_join 145 = .ok (.goto 15, 3) := by decide +kernel
theorem dX7_join_148 : decode cX7_join 148 = .ok (.aload_n 0, 1) := by decide +kernel
theorem dX7_join_149 : decode cX7_join 149 = .ok (.getfield 61, 3) := by decide +kernel
theorem dX7_join_152 : decode cX7_join 152 = .ok (.bipush 40, 2) := by decide +kernel
theorem dX7_join_154 : decode cX7_join 154 = .ok (.iload_n 2, 1) := by decide +kernel
theorem dX7_join_155 : decode cX7_join 155 = .ok (.imul, 1) := by decide +kernel
theorem dX7_join_156 : decode cX7_join 156 = .ok (.iload 11, 2) := by decide +kernel
theorem dX7_join_158 : decode cX7_join 158 = .ok (.iadd, 1) := by decide +kernel
theorem dX7_join_159 : decode cX7_join 159 = .ok (.iaload, 1) := by decide +kernel
theorem dX7_join_160 : decode cX7_join 160 = .ok (.i2l, 1) := by decide +kernel
theorem dX7_join_161 : decode cX7_join 161 = .ok (.lmul, 1) := by decide +kernel
theorem dX7_join_162 : decode cX7_join 162 = .ok (.lstore 12, 2) := by decide +kernel
theorem dX7_join_164 : decode cX7_join 164 = .ok (.aload_n 0, 1) := by decide +kernel
theorem dX7_join_165 : decode cX7_join 165 = .ok (.getfield 54, 3) := by decide +kernel
theorem dX7_join_168 : decode cX7_join 168 = .ok (.iload 8, 2) := by decide +kernel
theorem dX7_join_170 : decode cX7_join 170 = .ok (.baload, 1) := by decide +kernel
theorem dX7_join_171 : decode cX7_join 171 = .ok (.ifCond .eq 7, 3) := by decide +kernel
theorem dX7_join_174 : decode cX7_join 174 = .ok (.iconst 1, 1) := by decide +kernel
theorem dX7_join_175 : decode cX7_join 175 = .ok (.goto 10, 3) := by decide +kernel
theorem dX7_join_178 : decode cX7_join 178 = .ok (.aload_n 0, 1) := by decide +kernel
theorem dX7_join_179 : decode cX7_join 179 = .ok (.iload_n 1, 1) := by decide +kernel
theorem dX7_join_180 : decode cX7_join 180 = .ok (.iload 10, 2) := by decide +kernel
theorem dX7_join_182 : decode cX7_join 182 = .ok (.invokevirtual 169, 3) := by decide +kernel
theorem dX7_join_185 : decode cX7_join 185 = .ok (.i2l, 1) := by decide +kernel
theorem dX7_join_186 : decode cX7_join 186 = .ok (.aload_n 0, 1) := by decide +kernel
theorem dX7_join_187 : decode cX7_join 187 = .ok (.getfield 54, 3) := by decide +kernel
theorem dX7_join_190 : decode cX7_join 190 = .ok (.iload 9, 2) := by decide +kernel
theorem dX7_join_192 : decode cX7_join 192 = .ok (.baload, 1) := by decide +kernel
theorem dX7_join_193 : decode cX7_join 193 = .ok (.ifCond .eq 7, 3) := by decide +kernel
theorem dX7_join_196 : decode cX7_join 196 = .ok (.iconst 1, 1) := by decide +kernel
theorem dX7_join_197 : decode cX7_join 197 = .ok (.goto 10, 3) := by decide +kernel
theorem dX7_join_200 : decode cX7_join 200 = .ok (.aload_n 0, 1) := by decide +kernel
theorem dX7_join_201 : decode cX7_join 201 = .ok (.iload_n 2, 1) := by decide +kernel
theorem dX7_join_202 : decode cX7_join 202 = .ok (.iload 11, 2) := by decide +kernel
theorem dX7_join_204 : decode cX7_join 204 = .ok (.invokevirtual 169, 3) := by decide +kernel
theorem dX7_join_207 : decode cX7_join 207 = .ok (.i2l, 1) := by decide +kernel
theorem dX7_join_208 : decode cX7_join 208 = .ok (.lmul, 1) := by decide +kernel
theorem dX7_join_209 : decode cX7_join 209 = .ok (.lstore 14, 2) := by decide +kernel
theorem dX7_join_211 : decode cX7_join 211 = .ok (.lload 12, 2) := by decide +kernel
theorem dX7_join_213 : decode cX7_join 213 = .ok (.lload 14, 2) := by decide +kernel
theorem dX7_join_215 : decode cX7_join 215 = .ok (.invokestatic 232, 3) := by decide +kernel
theorem dX7_join_218 : decode cX7_join 218 = .ok (.lstore 16, 2) := by decide +kernel
theorem dX7_join_220 : decode cX7_join 220 = .ok (.lload 12, 2) := by decide +kernel
theorem dX7_join_222 : decode cX7_join 222 = .ok (.lload 16, 2) := by decide +kernel
theorem dX7_join_224 : decode cX7_join 224 = .ok (.ldiv, 1) := by decide +kernel
theorem dX7_join_225 : decode cX7_join 225 = .ok (.lstore 12, 2) := by decide +kernel
