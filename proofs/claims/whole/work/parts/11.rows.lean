theorem dX7_join_227 : decode cX7_join 227 = .ok (.lload 14, 2) := by decide +kernel
theorem dX7_join_229 : decode cX7_join 229 = .ok (.lload 16, 2) := by decide +kernel
theorem dX7_join_231 : decode cX7_join 231 = .ok (.ldiv, 1) := by decide +kernel
theorem dX7_join_232 : decode cX7_join 232 = .ok (.lstore 14, 2) := by decide +kernel
theorem dX7_join_234 : decode cX7_join 234 = .ok (.lload 5, 2) := by decide +kernel
theorem dX7_join_236 : decode cX7_join 236 = .ok (.lload 14, 2) := by decide +kernel
theorem dX7_join_238 : decode cX7_join 238 = .ok (.invokestatic 232, 3) := by decide +kernel
theorem dX7_join_241 : decode cX7_join 241 = .ok (.lstore 18, 2) := by decide +kernel
theorem dX7_join_243 : decode cX7_join 243 = .ok (.lload_n 3, 1) := by decide +kernel
theorem dX7_join_244 : decode cX7_join 244 = .ok (.lload 14, 2) := by decide +kernel
theorem dX7_join_246 : decode cX7_join 246 = .ok (.lload 18, 2) := by decide +kernel
theorem dX7_join_248 : decode cX7_join 248 = .ok (.ldiv, 1) := by decide +kernel
theorem dX7_join_249 : decode cX7_join 249 = .ok (.lmul, 1) := by decide +kernel
theorem dX7_join_250 : decode cX7_join 250 = .ok (.lload 12, 2) := by decide +kernel
theorem dX7_join_252 : decode cX7_join 252 = .ok (.lload 5, 2) := by decide +kernel
theorem dX7_join_254 : decode cX7_join 254 = .ok (.lload 18, 2) := by decide +kernel
theorem dX7_join_256 : decode cX7_join 256 = .ok (.ldiv, 1) := by decide +kernel
theorem dX7_join_257 : decode cX7_join 257 = .ok (.lmul, 1) := by decide +kernel
theorem dX7_join_258 : decode cX7_join 258 = .ok (.ladd, 1) := by decide +kernel
theorem dX7_join_259 : decode cX7_join 259 = .ok (.lstore 20, 2) := by decide +kernel
theorem dX7_join_261 : decode cX7_join 261 = .ok (.lload 5, 2) := by decide +kernel
theorem dX7_join_263 : decode cX7_join 263 = .ok (.lload 18, 2) := by decide +kernel
theorem dX7_join_265 : decode cX7_join 265 = .ok (.ldiv, 1) := by decide +kernel
theorem dX7_join_266 : decode cX7_join 266 = .ok (.lload 14, 2) := by decide +kernel
theorem dX7_join_268 : decode cX7_join 268 = .ok (.lmul, 1) := by decide +kernel
theorem dX7_join_269 : decode cX7_join 269 = .ok (.lstore 22, 2) := by decide +kernel
theorem dX7_join_271 : decode cX7_join 271 = .ok (.lload 20, 2) := by decide +kernel
theorem dX7_join_273 : decode cX7_join 273 = .ok (.lload 22, 2) := by decide +kernel
theorem dX7_join_275 : decode cX7_join 275 = .ok (.invokestatic 232, 3) := by decide +kernel
theorem dX7_join_278 : decode cX7_join 278 = .ok (.lstore 24, 2) := by decide +kernel
theorem dX7_join_280 : decode cX7_join 280 = .ok (.lload 20, 2) := by decide +kernel
theorem dX7_join_282 : decode cX7_join 282 = .ok (.lload 24, 2) := by decide +kernel
theorem dX7_join_284 : decode cX7_join 284 = .ok (.ldiv, 1) := by decide +kernel
theorem dX7_join_285 : decode cX7_join 285 = .ok (.lstore_n 3, 1) := by decide +kernel
theorem dX7_join_286 : decode cX7_join 286 = .ok (.lload 22, 2) := by decide +kernel
theorem dX7_join_288 : decode cX7_join 288 = .ok (.lload 24, 2) := by decide +kernel
theorem dX7_join_290 : decode cX7_join 290 = .ok (.ldiv, 1) := by decide +kernel
theorem dX7_join_291 : decode cX7_join 291 = .ok (.lstore 5, 2) := by decide +kernel
theorem dX7_join_293 : decode cX7_join 293 = .ok (.iinc 7 1, 3) := by decide +kernel
theorem dX7_join_296 : decode cX7_join 296 = .ok (.goto (-244), 3) := by decide +kernel
theorem dX7_join_299 : decode cX7_join 299 = .ok (.aload_n 0, 1) := by decide +kernel
theorem dX7_join_300 : decode cX7_join 300 = .ok (.lload_n 3, 1) := by decide +kernel
theorem dX7_join_301 : decode cX7_join 301 = .ok (.lload 5, 2) := by decide +kernel
theorem dX7_join_303 : decode cX7_join 303 = .ok (.invokevirtual 224, 3) := by decide +kernel
theorem dX7_join_306 : decode cX7_join 306 = .ok (.ireturn, 1) := by decide +kernel
set_option maxRecDepth 20000 in
theorem ggX7_harm_X7_wrongAsk : GoodIn wsX7_harm wsX7_wrongAsk := goodIn_r _ [9, 10, 11, 8, 12, 13, 14, 15, 16, 17, 18, 19, 20, 64, 65, 66, 67, 68, 69, 70, 71, 72, 73, 74, 75, 76, 77, 78, 79, 80, 81, 82, 83, 84, 85, 86, 87, 88, 89, 90, 91, 92, 93] (by decide +kernel) (by decide +kernel)
set_option maxRecDepth 20000 in
theorem gX7_harm_X7_wrongAsk : GoodIn wsX7_harm (wsV RX7 217 RX7 yX7_wrongAsk wsX7_wrongAsk) := goodIn_app (goodIn_of _ (by decide +kernel)) ggX7_harm_X7_wrongAsk
set_option maxRecDepth 20000 in
theorem ggX7_harm_X7_refuse : GoodIn wsX7_harm wsX7_refuse := goodIn_r _ [24, 25, 64, 65, 66, 67, 68, 69, 70, 71, 72, 73, 74, 75, 76, 77, 78, 79, 80, 81, 82, 83, 84, 85, 86, 87, 88, 89, 90, 91, 92, 93] (by decide +kernel) (by decide +kernel)
set_option maxRecDepth 20000 in
theorem gX7_harm_X7_refuse : GoodIn wsX7_harm (wsV RX7 138 RX7 yX7_refuse wsX7_refuse) := goodIn_app (goodIn_of _ (by decide +kernel)) ggX7_harm_X7_refuse
set_option maxRecDepth 20000 in
theorem ggX7_harm_X7_boundOf : GoodIn wsX7_harm wsX7_boundOf := goodIn_r _ [29, 17, 30, 31, 1, 2, 3, 4, 32, 33, 34, 8, 35, 36, 37, 38, 39, 40, 41, 42, 43, 44, 45, 46, 47, 48, 49, 50, 51, 52, 53, 54, 55, 56, 57, 64, 65, 66, 67, 68, 69, 70, 71, 72, 73, 74, 75, 76, 77, 78, 79, 80, 81, 82, 83, 84, 85, 86, 87, 88, 89, 90, 91, 92, 93] (by decide +kernel) (by decide +kernel)
set_option maxRecDepth 20000 in
theorem gX7_harm_X7_boundOf : GoodIn wsX7_harm (wsV RX7 228 RX7 yX7_boundOf wsX7_boundOf) := goodIn_app (goodIn_of _ (by decide +kernel)) ggX7_harm_X7_boundOf
set_option maxRecDepth 20000 in
theorem ggX7_harm_X7_tells : GoodIn wsX7_harm wsX7_tells := goodIn_r _ [61, 62, 63, 25, 64, 65, 66, 67, 68, 69, 70, 71, 72, 73, 74, 75, 76, 77, 78, 79, 80, 81, 82, 83, 84, 85, 86, 87, 88, 89, 90, 91, 92, 93] (by decide +kernel) (by decide +kernel)
set_option maxRecDepth 20000 in
theorem gX7_harm_X7_tells : GoodIn wsX7_harm (wsV RX7 224 RX7 yX7_tells wsX7_tells) := goodIn_app (goodIn_of _ (by decide +kernel)) ggX7_harm_X7_tells
theorem dX7_harm_0 : decode cX7_harm 0 = .ok (.aload_n 0, 1) := by decide +kernel
theorem dX7_harm_1 : decode cX7_harm 1 = .ok (.iload_n 1, 1) := by decide +kernel
theorem dX7_harm_2 : decode cX7_harm 2 = .ok (.iload_n 2, 1) := by decide +kernel
theorem dX7_harm_3 : decode cX7_harm 3 = .ok (.iload_n 3, 1) := by decide +kernel
theorem dX7_harm_4 : decode cX7_harm 4 = .ok (.invokevirtual 217, 3) := by decide +kernel
theorem dX7_harm_7 : decode cX7_harm 7 = .ok (.istore 7, 2) := by decide +kernel
theorem dX7_harm_9 : decode cX7_harm 9 = .ok (.aload_n 0, 1) := by decide +kernel
theorem dX7_harm_10 : decode cX7_harm 10 = .ok (.iload 4, 2) := by decide +kernel
theorem dX7_harm_12 : decode cX7_harm 12 = .ok (.iload 5, 2) := by decide +kernel
theorem dX7_harm_14 : decode cX7_harm 14 = .ok (.iload 6, 2) := by decide +kernel
theorem dX7_harm_16 : decode cX7_harm 16 = .ok (.invokevirtual 217, 3) := by decide +kernel
theorem dX7_harm_19 : decode cX7_harm 19 = .ok (.istore 8, 2) := by decide +kernel
theorem dX7_harm_21 : decode cX7_harm 21 = .ok (.iload 7, 2) := by decide +kernel
theorem dX7_harm_23 : decode cX7_harm 23 = .ok (.iconst 1, 1) := by decide +kernel
theorem dX7_harm_24 : decode cX7_harm 24 = .ok (.if_icmp .eq 9, 3) := by decide +kernel
theorem dX7_harm_27 : decode cX7_harm 27 = .ok (.iload 8, 2) := by decide +kernel
theorem dX7_harm_29 : decode cX7_harm 29 = .ok (.iconst 1, 1) := by decide +kernel
theorem dX7_harm_30 : decode cX7_harm 30 = .ok (.if_icmp .ne 9, 3) := by decide +kernel
theorem dX7_harm_33 : decode cX7_harm 33 = .ok (.aload_n 0, 1) := by decide +kernel
theorem dX7_harm_34 : decode cX7_harm 34 = .ok (.iconst 1, 1) := by decide +kernel
theorem dX7_harm_35 : decode cX7_harm 35 = .ok (.invokevirtual 138, 3) := by decide +kernel
theorem dX7_harm_38 : decode cX7_harm 38 = .ok (.ireturn, 1) := by decide +kernel
theorem dX7_harm_39 : decode cX7_harm 39 = .ok (.iload 7, 2) := by decide +kernel
theorem dX7_harm_41 : decode cX7_harm 41 = .ok (.ifCond .gt 8, 3) := by decide +kernel
theorem dX7_harm_44 : decode cX7_harm 44 = .ok (.iload 8, 2) := by decide +kernel
theorem dX7_harm_46 : decode cX7_harm 46 = .ok (.ifCond .le 9, 3) := by decide +kernel
theorem dX7_harm_49 : decode cX7_harm 49 = .ok (.aload_n 0, 1) := by decide +kernel
theorem dX7_harm_50 : decode cX7_harm 50 = .ok (.iconst 5, 1) := by decide +kernel
theorem dX7_harm_51 : decode cX7_harm 51 = .ok (.invokevirtual 138, 3) := by decide +kernel
theorem dX7_harm_54 : decode cX7_harm 54 = .ok (.ireturn, 1) := by decide +kernel
theorem dX7_harm_55 : decode cX7_harm 55 = .ok (.aload_n 0, 1) := by decide +kernel
theorem dX7_harm_56 : decode cX7_harm 56 = .ok (.aload_n 0, 1) := by decide +kernel
theorem dX7_harm_57 : decode cX7_harm 57 = .ok (.iload_n 1, 1) := by decide +kernel
theorem dX7_harm_58 : decode cX7_harm 58 = .ok (.iload_n 2, 1) := by decide +kernel
theorem dX7_harm_59 : decode cX7_harm 59 = .ok (.iload_n 3, 1) := by decide +kernel
theorem dX7_harm_60 : decode cX7_harm 60 = .ok (.iconst 1, 1) := by decide +kernel
theorem dX7_harm_61 : decode cX7_harm 61 = .ok (.invokevirtual 228, 3) := by decide +kernel
theorem dX7_harm_64 : decode cX7_harm 64 = .ok (.i2l, 1) := by decide +kernel
theorem dX7_harm_65 : decode cX7_harm 65 = .ok (.iconst 1, 1) := by decide +kernel
theorem dX7_harm_66 : decode cX7_harm 66 = .ok (.aload_n 0, 1) := by decide +kernel
theorem dX7_harm_67 : decode cX7_harm 67 = .ok (.iload 4, 2) := by decide +kernel
theorem dX7_harm_69 : decode cX7_harm 69 = .ok (.iload 5, 2) := by decide +kernel
theorem dX7_harm_71 : decode cX7_harm 71 = .ok (.iload 6, 2) := by decide +kernel
theorem dX7_harm_73 : decode cX7_harm 73 = .ok (.iconst 0, 1) := by decide +kernel
theorem dX7_harm_74 : decode cX7_harm 74 = .ok (.invokevirtual 228, 3) := by decide +kernel
theorem dX7_harm_77 : decode cX7_harm 77 = .ok (.invokestatic 156, 3) := by decide +kernel
theorem dX7_harm_80 : decode cX7_harm 80 = .ok (.i2l, 1) := by decide +kernel
theorem dX7_harm_81 : decode cX7_harm 81 = .ok (.invokevirtual 224, 3) := by decide +kernel
theorem dX7_harm_84 : decode cX7_harm 84 = .ok (.ireturn, 1) := by decide +kernel
set_option maxRecDepth 20000 in
theorem ggX7_sample_X7_isColumn : GoodIn wsX7_sample wsX7_isColumn := goodIn_r _ [7] (by decide +kernel) (by decide +kernel)
set_option maxRecDepth 20000 in
theorem gX7_sample_X7_isColumn : GoodIn wsX7_sample (va_wsS RX7 120 yX7_isColumn wsX7_isColumn) := goodIn_app (goodIn_of _ (by decide +kernel)) ggX7_sample_X7_isColumn
set_option maxRecDepth 20000 in
theorem ggX7_sample_X7_is : GoodIn wsX7_sample wsX7_is := goodIn_r _ [11, 12, 13, 14, 15, 16, 17, 18, 19, 20, 21, 22, 23, 24, 25, 26, 27, 28, 29, 30, 31, 32, 33, 34, 35, 36, 37, 38, 39, 40, 41, 42] (by decide +kernel) (by decide +kernel)
set_option maxRecDepth 20000 in
theorem gX7_sample_X7_is : GoodIn wsX7_sample (wsV RX7 96 RX7 yX7_is wsX7_is) := goodIn_app (goodIn_of _ (by decide +kernel)) ggX7_sample_X7_is
theorem dX7_sample_0 : decode cX7_sample 0 = .ok (.iload_n 1, 1) := by decide +kernel
theorem dX7_sample_1 : decode cX7_sample 1 = .ok (.invokestatic 120, 3) := by decide +kernel
theorem dX7_sample_4 : decode cX7_sample 4 = .ok (.ifCond .eq 18, 3) := by decide +kernel
theorem dX7_sample_7 : decode cX7_sample 7 = .ok (.iload_n 2, 1) := by decide +kernel
theorem dX7_sample_8 : decode cX7_sample 8 = .ok (.iconst 1, 1) := by decide +kernel
theorem dX7_sample_9 : decode cX7_sample 9 = .ok (.if_icmp .lt 13, 3) := by decide +kernel
theorem dX7_sample_12 : decode cX7_sample 12 = .ok (.iload_n 2, 1) := by decide +kernel
theorem dX7_sample_13 : decode cX7_sample 13 = .ok (.bipush 16, 2) := by decide +kernel
theorem dX7_sample_15 : decode cX7_sample 15 = .ok (.if_icmp .gt 7, 3) := by decide +kernel
theorem dX7_sample_18 : decode cX7_sample 18 = .ok (.iload_n 3, 1) := by decide +kernel
theorem dX7_sample_19 : decode cX7_sample 19 = .ok (.ifCond .ge 9, 3) := by decide +kernel
theorem dX7_sample_22 : decode cX7_sample 22 = .ok (.aload_n 0, 1) := by decide +kernel
theorem dX7_sample_23 : decode cX7_sample 23 = .ok (.iconst 1, 1) := by decide +kernel
theorem dX7_sample_24 : decode cX7_sample 24 = .ok (.invokevirtual 96, 3) := by decide +kernel
theorem dX7_sample_27 : decode cX7_sample 27 = .ok (.ireturn, 1) := by decide +kernel
theorem dX7_sample_28 : decode cX7_sample 28 = .ok (.aload_n 0, 1) := by decide +kernel
theorem dX7_sample_29 : decode cX7_sample 29 = .ok (.getfield 33, 3) := by decide +kernel
theorem dX7_sample_32 : decode cX7_sample 32 = .ok (.iload_n 1, 1) := by decide +kernel
theorem dX7_sample_33 : decode cX7_sample 33 = .ok (.iload_n 2, 1) := by decide +kernel
theorem dX7_sample_34 : decode cX7_sample 34 = .ok (.iastore, 1) := by decide +kernel
theorem dX7_sample_35 : decode cX7_sample 35 = .ok (.aload_n 0, 1) := by decide +kernel
theorem dX7_sample_36 : decode cX7_sample 36 = .ok (.getfield 36, 3) := by decide +kernel
theorem dX7_sample_39 : decode cX7_sample 39 = .ok (.iload_n 1, 1) := by decide +kernel
theorem dX7_sample_40 : decode cX7_sample 40 = .ok (.iconst 0, 1) := by decide +kernel
theorem dX7_sample_41 : decode cX7_sample 41 = .ok (.iastore, 1) := by decide +kernel
theorem dX7_sample_42 : decode cX7_sample 42 = .ok (.aload_n 0, 1) := by decide +kernel
theorem dX7_sample_43 : decode cX7_sample 43 = .ok (.getfield 42, 3) := by decide +kernel
theorem dX7_sample_46 : decode cX7_sample 46 = .ok (.iload_n 1, 1) := by decide +kernel
theorem dX7_sample_47 : decode cX7_sample 47 = .ok (.iload_n 3, 1) := by decide +kernel
theorem dX7_sample_48 : decode cX7_sample 48 = .ok (.i2l, 1) := by decide +kernel
theorem dX7_sample_49 : decode cX7_sample 49 = .ok (.lastore, 1) := by decide +kernel
theorem dX7_sample_50 : decode cX7_sample 50 = .ok (.aload_n 0, 1) := by decide +kernel
theorem dX7_sample_51 : decode cX7_sample 51 = .ok (.iconst 0, 1) := by decide +kernel
theorem dX7_sample_52 : decode cX7_sample 52 = .ok (.invokevirtual 96, 3) := by decide +kernel
theorem dX7_sample_55 : decode cX7_sample 55 = .ok (.ireturn, 1) := by decide +kernel
set_option maxRecDepth 20000 in
theorem ggX7_drawn_X7_isColumn : GoodIn wsX7_drawn wsX7_isColumn := goodIn_r _ [8] (by decide +kernel) (by decide +kernel)
set_option maxRecDepth 20000 in
theorem gX7_drawn_X7_isColumn : GoodIn wsX7_drawn (va_wsS RX7 120 yX7_isColumn wsX7_isColumn) := goodIn_app (goodIn_of _ (by decide +kernel)) ggX7_drawn_X7_isColumn
set_option maxRecDepth 20000 in
theorem ggX7_drawn_X7_refuse : GoodIn wsX7_drawn wsX7_refuse := goodIn_r _ [12, 3, 13, 14, 15, 16, 17, 18, 19, 20, 21, 22, 23, 24, 25, 26, 27, 28, 29, 30, 31, 32, 33, 34, 35, 36, 37, 38, 39, 40, 41, 42] (by decide +kernel) (by decide +kernel)
set_option maxRecDepth 20000 in
theorem gX7_drawn_X7_refuse : GoodIn wsX7_drawn (wsV RX7 138 RX7 yX7_refuse wsX7_refuse) := goodIn_app (goodIn_of _ (by decide +kernel)) ggX7_drawn_X7_refuse
theorem dX7_drawn_0 : decode cX7_drawn 0 = .ok (.iload_n 1, 1) := by decide +kernel
theorem dX7_drawn_1 : decode cX7_drawn 1 = .ok (.invokestatic 120, 3) := by decide +kernel
theorem dX7_drawn_4 : decode cX7_drawn 4 = .ok (.ifCond .eq 13, 3) := by decide +kernel
theorem dX7_drawn_7 : decode cX7_drawn 7 = .ok (.iload_n 2, 1) := by decide +kernel
theorem dX7_drawn_8 : decode cX7_drawn 8 = .ok (.ifCond .lt 9, 3) := by decide +kernel
theorem dX7_drawn_11 : decode cX7_drawn 11 = .ok (.iload_n 2, 1) := by decide +kernel
theorem dX7_drawn_12 : decode cX7_drawn 12 = .ok (.bipush 16, 2) := by decide +kernel
theorem dX7_drawn_14 : decode cX7_drawn 14 = .ok (.if_icmp .lt 9, 3) := by decide +kernel
theorem dX7_drawn_17 : decode cX7_drawn 17 = .ok (.aload_n 0, 1) := by decide +kernel
theorem dX7_drawn_18 : decode cX7_drawn 18 = .ok (.iconst 1, 1) := by decide +kernel
theorem dX7_drawn_19 : decode cX7_drawn 19 = .ok (.invokevirtual 138, 3) := by decide +kernel
theorem dX7_drawn_22 : decode cX7_drawn 22 = .ok (.ireturn, 1) := by decide +kernel
theorem dX7_drawn_23 : decode cX7_drawn 23 = .ok (.iload_n 2, 1) := by decide +kernel
theorem dX7_drawn_24 : decode cX7_drawn 24 = .ok (.aload_n 0, 1) := by decide +kernel
theorem dX7_drawn_25 : decode cX7_drawn 25 = .ok (.getfield 33, 3) := by decide +kernel
theorem dX7_drawn_28 : decode cX7_drawn 28 = .ok (.iload_n 1, 1) := by decide +kernel
theorem dX7_drawn_29 : decode cX7_drawn 29 = .ok (.iaload, 1) := by decide +kernel
theorem dX7_drawn_30 : decode cX7_drawn 30 = .ok (.if_icmp .ge 13, 3) := by decide +kernel
theorem dX7_drawn_33 : decode cX7_drawn 33 = .ok (.iload_n 2, 1) := by decide +kernel
theorem dX7_drawn_34 : decode cX7_drawn 34 = .ok (.aload_n 0, 1) := by decide +kernel
theorem dX7_drawn_35 : decode cX7_drawn 35 = .ok (.getfield 36, 3) := by decide +kernel
theorem dX7_drawn_38 : decode cX7_drawn 38 = .ok (.iload_n 1, 1) := by decide +kernel
theorem dX7_drawn_39 : decode cX7_drawn 39 = .ok (.iaload, 1) := by decide +kernel
theorem dX7_drawn_40 : decode cX7_drawn 40 = .ok (.if_icmp .lt 10, 3) := by decide +kernel
theorem dX7_drawn_43 : decode cX7_drawn 43 = .ok (.aload_n 0, 1) := by decide +kernel
theorem dX7_drawn_44 : decode cX7_drawn 44 = .ok (.bipush 6, 2) := by decide +kernel
theorem dX7_drawn_46 : decode cX7_drawn 46 = .ok (.invokevirtual 138, 3) := by decide +kernel
theorem dX7_drawn_49 : decode cX7_drawn 49 = .ok (.ireturn, 1) := by decide +kernel
theorem dX7_drawn_50 : decode cX7_drawn 50 = .ok (.aload_n 0, 1) := by decide +kernel
theorem dX7_drawn_51 : decode cX7_drawn 51 = .ok (.iconst 0, 1) := by decide +kernel
theorem dX7_drawn_52 : decode cX7_drawn 52 = .ok (.putfield 85, 3) := by decide +kernel
theorem dX7_drawn_55 : decode cX7_drawn 55 = .ok (.aload_n 0, 1) := by decide +kernel
theorem dX7_drawn_56 : decode cX7_drawn 56 = .ok (.getfield 39, 3) := by decide +kernel
theorem dX7_drawn_59 : decode cX7_drawn 59 = .ok (.bipush 16, 2) := by decide +kernel
theorem dX7_drawn_61 : decode cX7_drawn 61 = .ok (.iload_n 1, 1) := by decide +kernel
theorem dX7_drawn_62 : decode cX7_drawn 62 = .ok (.imul, 1) := by decide +kernel
theorem dX7_drawn_63 : decode cX7_drawn 63 = .ok (.iload_n 2, 1) := by decide +kernel
theorem dX7_drawn_64 : decode cX7_drawn 64 = .ok (.iadd, 1) := by decide +kernel
theorem dX7_drawn_65 : decode cX7_drawn 65 = .ok (.iaload, 1) := by decide +kernel
theorem dX7_drawn_66 : decode cX7_drawn 66 = .ok (.iconst (-1), 1) := by decide +kernel
theorem dX7_drawn_67 : decode cX7_drawn 67 = .ok (.if_icmp .ne 8, 3) := by decide +kernel
theorem dX7_drawn_70 : decode cX7_drawn 70 = .ok (.bipush (-2), 2) := by decide +kernel
theorem dX7_drawn_72 : decode cX7_drawn 72 = .ok (.goto 14, 3) := by decide +kernel
theorem dX7_drawn_75 : decode cX7_drawn 75 = .ok (.aload_n 0, 1) := by decide +kernel
theorem dX7_drawn_76 : decode cX7_drawn 76 = .ok (.getfield 39, 3) := by decide +kernel
theorem dX7_drawn_79 : decode cX7_drawn 79 = .ok (.bipush 16, 2) := by decide +kernel
theorem dX7_drawn_81 : decode cX7_drawn 81 = .ok (.iload_n 1, 1) := by decide +kernel
theorem dX7_drawn_82 : decode cX7_drawn 82 = .ok (.imul, 1) := by decide +kernel
theorem dX7_drawn_83 : decode cX7_drawn 83 = .ok (.iload_n 2, 1) := by decide +kernel
theorem dX7_drawn_84 : decode cX7_drawn 84 = .ok (.iadd, 1) := by decide +kernel
theorem dX7_drawn_85 : decode cX7_drawn 85 = .ok (.iaload, 1) := by decide +kernel
theorem dX7_drawn_86 : decode cX7_drawn 86 = .ok (.ireturn, 1) := by decide +kernel
theorem dJ9_floorDiv_7cf53_0 : decode cJ9_floorDiv_7cf53 0 = .ok (.iload_n 0, 1) := by decide +kernel
theorem dJ9_floorDiv_7cf53_1 : decode cJ9_floorDiv_7cf53 1 = .ok (.iload_n 1, 1) := by decide +kernel
theorem dJ9_floorDiv_7cf53_2 : decode cJ9_floorDiv_7cf53 2 = .ok (.idiv, 1) := by decide +kernel
theorem dJ9_floorDiv_7cf53_3 : decode cJ9_floorDiv_7cf53 3 = .ok (.istore_n 2, 1) := by decide +kernel
theorem dJ9_floorDiv_7cf53_4 : decode cJ9_floorDiv_7cf53 4 = .ok (.iload_n 0, 1) := by decide +kernel
theorem dJ9_floorDiv_7cf53_5 : decode cJ9_floorDiv_7cf53 5 = .ok (.iload_n 1, 1) := by decide +kernel
theorem dJ9_floorDiv_7cf53_6 : decode cJ9_floorDiv_7cf53 6 = .ok (.ixor, 1) := by decide +kernel
theorem dJ9_floorDiv_7cf53_7 : decode cJ9_floorDiv_7cf53 7 = .ok (.ifCond .ge 14, 3) := by decide +kernel
theorem dJ9_floorDiv_7cf53_10 : decode cJ9_floorDiv_7cf53 10 = .ok (.iload_n 2, 1) := by decide +kernel
theorem dJ9_floorDiv_7cf53_11 : decode cJ9_floorDiv_7cf53 11 = .ok (.iload_n 1, 1) := by decide +kernel
theorem dJ9_floorDiv_7cf53_12 : decode cJ9_floorDiv_7cf53 12 = .ok (.imul, 1) := by decide +kernel
theorem dJ9_floorDiv_7cf53_13 : decode cJ9_floorDiv_7cf53 13 = .ok (.iload_n 0, 1) := by decide +kernel
theorem dJ9_floorDiv_7cf53_14 : decode cJ9_floorDiv_7cf53 14 = .ok (.if_icmp .eq 7, 3) := by decide +kernel
theorem dJ9_floorDiv_7cf53_17 : decode cJ9_floorDiv_7cf53 17 = .ok (.iload_n 2, 1) := by decide +kernel
theorem dJ9_floorDiv_7cf53_18 : decode cJ9_floorDiv_7cf53 18 = .ok (.iconst 1, 1) := by decide +kernel
theorem dJ9_floorDiv_7cf53_19 : decode cJ9_floorDiv_7cf53 19 = .ok (.isub, 1) := by decide +kernel
theorem dJ9_floorDiv_7cf53_20 : decode cJ9_floorDiv_7cf53 20 = .ok (.ireturn, 1) := by decide +kernel
theorem dJ9_floorDiv_7cf53_21 : decode cJ9_floorDiv_7cf53 21 = .ok (.iload_n 2, 1) := by decide +kernel
theorem dJ9_floorDiv_7cf53_22 : decode cJ9_floorDiv_7cf53 22 = .ok (.ireturn, 1) := by decide +kernel
theorem dJ9_floorDiv_f86c9_0 : decode cJ9_floorDiv_f86c9 0 = .ok (.lload_n 0, 1) := by decide +kernel
theorem dJ9_floorDiv_f86c9_1 : decode cJ9_floorDiv_f86c9 1 = .ok (.lload_n 2, 1) := by decide +kernel
theorem dJ9_floorDiv_f86c9_2 : decode cJ9_floorDiv_f86c9 2 = .ok (.ldiv, 1) := by decide +kernel
theorem dJ9_floorDiv_f86c9_3 : decode cJ9_floorDiv_f86c9 3 = .ok (.lstore 4, 2) := by decide +kernel
theorem dJ9_floorDiv_f86c9_5 : decode cJ9_floorDiv_f86c9 5 = .ok (.lload_n 0, 1) := by decide +kernel
theorem dJ9_floorDiv_f86c9_6 : decode cJ9_floorDiv_f86c9 6 = .ok (.lload_n 2, 1) := by decide +kernel
theorem dJ9_floorDiv_f86c9_7 : decode cJ9_floorDiv_f86c9 7 = .ok (.lxor, 1) := by decide +kernel
theorem dJ9_floorDiv_f86c9_8 : decode cJ9_floorDiv_f86c9 8 = .ok (.lconst 0, 1) := by decide +kernel
theorem dJ9_floorDiv_f86c9_9 : decode cJ9_floorDiv_f86c9 9 = .ok (.lcmp, 1) := by decide +kernel
theorem dJ9_floorDiv_f86c9_10 : decode cJ9_floorDiv_f86c9 10 = .ok (.ifCond .ge 17, 3) := by decide +kernel
theorem dJ9_floorDiv_f86c9_13 : decode cJ9_floorDiv_f86c9 13 = .ok (.lload 4, 2) := by decide +kernel
theorem dJ9_floorDiv_f86c9_15 : decode cJ9_floorDiv_f86c9 15 = .ok (.lload_n 2, 1) := by decide +kernel
theorem dJ9_floorDiv_f86c9_16 : decode cJ9_floorDiv_f86c9 16 = .ok (.lmul, 1) := by decide +kernel
theorem dJ9_floorDiv_f86c9_17 : decode cJ9_floorDiv_f86c9 17 = .ok (.lload_n 0, 1) := by decide +kernel
theorem dJ9_floorDiv_f86c9_18 : decode cJ9_floorDiv_f86c9 18 = .ok (.lcmp, 1) := by decide +kernel
theorem dJ9_floorDiv_f86c9_19 : decode cJ9_floorDiv_f86c9 19 = .ok (.ifCond .eq 8, 3) := by decide +kernel
theorem dJ9_floorDiv_f86c9_22 : decode cJ9_floorDiv_f86c9 22 = .ok (.lload 4, 2) := by decide +kernel
theorem dJ9_floorDiv_f86c9_24 : decode cJ9_floorDiv_f86c9 24 = .ok (.lconst 1, 1) := by decide +kernel
theorem dJ9_floorDiv_f86c9_25 : decode cJ9_floorDiv_f86c9 25 = .ok (.lsub, 1) := by decide +kernel
theorem dJ9_floorDiv_f86c9_26 : decode cJ9_floorDiv_f86c9 26 = .ok (.lreturn, 1) := by decide +kernel
theorem dJ9_floorDiv_f86c9_27 : decode cJ9_floorDiv_f86c9 27 = .ok (.lload 4, 2) := by decide +kernel
theorem dJ9_floorDiv_f86c9_29 : decode cJ9_floorDiv_f86c9 29 = .ok (.lreturn, 1) := by decide +kernel
theorem dJ9_abs_0f7a4_0 : decode cJ9_abs_0f7a4 0 = .ok (.iload_n 0, 1) := by decide +kernel
theorem dJ9_abs_0f7a4_1 : decode cJ9_abs_0f7a4 1 = .ok (.ifCond .ge 8, 3) := by decide +kernel
theorem dJ9_abs_0f7a4_4 : decode cJ9_abs_0f7a4 4 = .ok (.iload_n 0, 1) := by decide +kernel
theorem dJ9_abs_0f7a4_5 : decode cJ9_abs_0f7a4 5 = .ok (.ineg, 1) := by decide +kernel
theorem dJ9_abs_0f7a4_6 : decode cJ9_abs_0f7a4 6 = .ok (.goto 4, 3) := by decide +kernel
theorem dJ9_abs_0f7a4_9 : decode cJ9_abs_0f7a4 9 = .ok (.iload_n 0, 1) := by decide +kernel
theorem dJ9_abs_0f7a4_10 : decode cJ9_abs_0f7a4 10 = .ok (.ireturn, 1) := by decide +kernel
theorem dJ9_abs_067f4_0 : decode cJ9_abs_067f4 0 = .ok (.lload_n 0, 1) := by decide +kernel
theorem dJ9_abs_067f4_1 : decode cJ9_abs_067f4 1 = .ok (.lconst 0, 1) := by decide +kernel
theorem dJ9_abs_067f4_2 : decode cJ9_abs_067f4 2 = .ok (.lcmp, 1) := by decide +kernel
theorem dJ9_abs_067f4_3 : decode cJ9_abs_067f4 3 = .ok (.ifCond .ge 8, 3) := by decide +kernel
theorem dJ9_abs_067f4_6 : decode cJ9_abs_067f4 6 = .ok (.lload_n 0, 1) := by decide +kernel
theorem dJ9_abs_067f4_7 : decode cJ9_abs_067f4 7 = .ok (.lneg, 1) := by decide +kernel
theorem dJ9_abs_067f4_8 : decode cJ9_abs_067f4 8 = .ok (.goto 4, 3) := by decide +kernel
theorem dJ9_abs_067f4_11 : decode cJ9_abs_067f4 11 = .ok (.lload_n 0, 1) := by decide +kernel
theorem dJ9_abs_067f4_12 : decode cJ9_abs_067f4 12 = .ok (.lreturn, 1) := by decide +kernel
theorem dJ9_max_7cf53_0 : decode cJ9_max_7cf53 0 = .ok (.iload_n 0, 1) := by decide +kernel
theorem dJ9_max_7cf53_1 : decode cJ9_max_7cf53 1 = .ok (.iload_n 1, 1) := by decide +kernel
theorem dJ9_max_7cf53_2 : decode cJ9_max_7cf53 2 = .ok (.if_icmp .lt 7, 3) := by decide +kernel
theorem dJ9_max_7cf53_5 : decode cJ9_max_7cf53 5 = .ok (.iload_n 0, 1) := by decide +kernel
theorem dJ9_max_7cf53_6 : decode cJ9_max_7cf53 6 = .ok (.goto 4, 3) := by decide +kernel
theorem dJ9_max_7cf53_9 : decode cJ9_max_7cf53 9 = .ok (.iload_n 1, 1) := by decide +kernel
theorem dJ9_max_7cf53_10 : decode cJ9_max_7cf53 10 = .ok (.ireturn, 1) := by decide +kernel
theorem dJ9_max_f86c9_0 : decode cJ9_max_f86c9 0 = .ok (.lload_n 0, 1) := by decide +kernel
theorem dJ9_max_f86c9_1 : decode cJ9_max_f86c9 1 = .ok (.lload_n 2, 1) := by decide +kernel
theorem dJ9_max_f86c9_2 : decode cJ9_max_f86c9 2 = .ok (.lcmp, 1) := by decide +kernel
theorem dJ9_max_f86c9_3 : decode cJ9_max_f86c9 3 = .ok (.ifCond .lt 7, 3) := by decide +kernel
theorem dJ9_max_f86c9_6 : decode cJ9_max_f86c9 6 = .ok (.lload_n 0, 1) := by decide +kernel
theorem dJ9_max_f86c9_7 : decode cJ9_max_f86c9 7 = .ok (.goto 4, 3) := by decide +kernel
theorem dJ9_max_f86c9_10 : decode cJ9_max_f86c9 10 = .ok (.lload_n 2, 1) := by decide +kernel
theorem dJ9_max_f86c9_11 : decode cJ9_max_f86c9 11 = .ok (.lreturn, 1) := by decide +kernel
theorem dJ9_min_7cf53_0 : decode cJ9_min_7cf53 0 = .ok (.iload_n 0, 1) := by decide +kernel
theorem dJ9_min_7cf53_1 : decode cJ9_min_7cf53 1 = .ok (.iload_n 1, 1) := by decide +kernel
theorem dJ9_min_7cf53_2 : decode cJ9_min_7cf53 2 = .ok (.if_icmp .gt 7, 3) := by decide +kernel
theorem dJ9_min_7cf53_5 : decode cJ9_min_7cf53 5 = .ok (.iload_n 0, 1) := by decide +kernel
theorem dJ9_min_7cf53_6 : decode cJ9_min_7cf53 6 = .ok (.goto 4, 3) := by decide +kernel
theorem dJ9_min_7cf53_9 : decode cJ9_min_7cf53 9 = .ok (.iload_n 1, 1) := by decide +kernel
theorem dJ9_min_7cf53_10 : decode cJ9_min_7cf53 10 = .ok (.ireturn, 1) := by decide +kernel
theorem dJ7_fill_d0a16_0 : decode cJ7_fill_d0a16 0 = .ok (.iconst 0, 1) := by decide +kernel
theorem dJ7_fill_d0a16_1 : decode cJ7_fill_d0a16 1 = .ok (.istore_n 3, 1) := by decide +kernel
theorem dJ7_fill_d0a16_2 : decode cJ7_fill_d0a16 2 = .ok (.aload_n 0, 1) := by decide +kernel
theorem dJ7_fill_d0a16_3 : decode cJ7_fill_d0a16 3 = .ok (.arraylength, 1) := by decide +kernel
theorem dJ7_fill_d0a16_4 : decode cJ7_fill_d0a16 4 = .ok (.istore 4, 2) := by decide +kernel
theorem dJ7_fill_d0a16_6 : decode cJ7_fill_d0a16 6 = .ok (.iload_n 3, 1) := by decide +kernel
theorem dJ7_fill_d0a16_7 : decode cJ7_fill_d0a16 7 = .ok (.iload 4, 2) := by decide +kernel
theorem dJ7_fill_d0a16_9 : decode cJ7_fill_d0a16 9 = .ok (.if_icmp .ge 13, 3) := by decide +kernel
theorem dJ7_fill_d0a16_12 : decode cJ7_fill_d0a16 12 = .ok (.aload_n 0, 1) := by decide +kernel
theorem dJ7_fill_d0a16_13 : decode cJ7_fill_d0a16 13 = .ok (.iload_n 3, 1) := by decide +kernel
theorem dJ7_fill_d0a16_14 : decode cJ7_fill_d0a16 14 = .ok (.lload_n 1, 1) := by decide +kernel
theorem dJ7_fill_d0a16_15 : decode cJ7_fill_d0a16 15 = .ok (.lastore, 1) := by decide +kernel
theorem dJ7_fill_d0a16_16 : decode cJ7_fill_d0a16 16 = .ok (.iinc 3 1, 3) := by decide +kernel
theorem dJ7_fill_d0a16_19 : decode cJ7_fill_d0a16 19 = .ok (.goto (-13), 3) := by decide +kernel
theorem dJ7_fill_d0a16_22 : decode cJ7_fill_d0a16 22 = .ok (.return_, 1) := by decide +kernel
theorem dJ7_fill_53178_0 : decode cJ7_fill_53178 0 = .ok (.iconst 0, 1) := by decide +kernel
theorem dJ7_fill_53178_1 : decode cJ7_fill_53178 1 = .ok (.istore_n 2, 1) := by decide +kernel
theorem dJ7_fill_53178_2 : decode cJ7_fill_53178 2 = .ok (.aload_n 0, 1) := by decide +kernel
theorem dJ7_fill_53178_3 : decode cJ7_fill_53178 3 = .ok (.arraylength, 1) := by decide +kernel
theorem dJ7_fill_53178_4 : decode cJ7_fill_53178 4 = .ok (.istore_n 3, 1) := by decide +kernel
theorem dJ7_fill_53178_5 : decode cJ7_fill_53178 5 = .ok (.iload_n 2, 1) := by decide +kernel
theorem dJ7_fill_53178_6 : decode cJ7_fill_53178 6 = .ok (.iload_n 3, 1) := by decide +kernel
theorem dJ7_fill_53178_7 : decode cJ7_fill_53178 7 = .ok (.if_icmp .ge 13, 3) := by decide +kernel
theorem dJ7_fill_53178_10 : decode cJ7_fill_53178 10 = .ok (.aload_n 0, 1) := by decide +kernel
theorem dJ7_fill_53178_11 : decode cJ7_fill_53178 11 = .ok (.iload_n 2, 1) := by decide +kernel
theorem dJ7_fill_53178_12 : decode cJ7_fill_53178 12 = .ok (.iload_n 1, 1) := by decide +kernel
theorem dJ7_fill_53178_13 : decode cJ7_fill_53178 13 = .ok (.iastore, 1) := by decide +kernel
theorem dJ7_fill_53178_14 : decode cJ7_fill_53178 14 = .ok (.iinc 2 1, 3) := by decide +kernel
theorem dJ7_fill_53178_17 : decode cJ7_fill_53178 17 = .ok (.goto (-12), 3) := by decide +kernel
theorem dJ7_fill_53178_20 : decode cJ7_fill_53178 20 = .ok (.return_, 1) := by decide +kernel
