theorem dX5_findBest_148 : decode cX5_findBest 148 = .ok (.aload_n 0, 1) := by decide +kernel
theorem dX5_findBest_149 : decode cX5_findBest 149 = .ok (.invokevirtual 139, 3) := by decide +kernel
theorem dX5_findBest_152 : decode cX5_findBest 152 = .ok (.aload_n 0, 1) := by decide +kernel
theorem dX5_findBest_153 : decode cX5_findBest 153 = .ok (.invokevirtual 142, 3) := by decide +kernel
theorem dX5_findBest_156 : decode cX5_findBest 156 = .ok (.istore_n 1, 1) := by decide +kernel
theorem dX5_findBest_157 : decode cX5_findBest 157 = .ok (.goto (-18), 3) := by decide +kernel
theorem dX5_findBest_160 : decode cX5_findBest 160 = .ok (.return_, 1) := by decide +kernel
set_option maxRecDepth 20000 in
theorem ggX5_best_X5_findBest : GoodIn wsX5_best wsX5_findBest := goodIn_r _ [8, 9, 2, 10, 11, 12, 13, 14, 15, 16, 17, 18, 7, 19, 20, 21, 22, 23, 24, 25, 26, 27, 28, 29, 30, 31, 32, 33, 34, 35, 36, 37, 38, 39, 40, 3, 41, 42, 43, 44, 45, 46, 47, 48, 49, 50, 51, 52, 53, 54, 55, 56, 57, 58, 59, 60, 61, 62, 63, 64, 65, 66, 67, 68, 69, 70, 71, 72, 73, 74, 75, 76, 77, 78, 79, 80, 81, 82, 83, 84] (by decide +kernel) (by decide +kernel)
set_option maxRecDepth 20000 in
theorem gX5_best_X5_findBest : GoodIn wsX5_best (wsV RX5 146 RX5 yX5_findBest wsX5_findBest) := goodIn_app (goodIn_of _ (by decide +kernel)) ggX5_best_X5_findBest
theorem dX5_best_0 : decode cX5_best 0 = .ok (.aload_n 0, 1) := by decide +kernel
theorem dX5_best_1 : decode cX5_best 1 = .ok (.iconst 0, 1) := by decide +kernel
theorem dX5_best_2 : decode cX5_best 2 = .ok (.putfield 80, 3) := by decide +kernel
theorem dX5_best_5 : decode cX5_best 5 = .ok (.aload_n 0, 1) := by decide +kernel
theorem dX5_best_6 : decode cX5_best 6 = .ok (.invokevirtual 146, 3) := by decide +kernel
theorem dX5_best_9 : decode cX5_best 9 = .ok (.aload_n 0, 1) := by decide +kernel
theorem dX5_best_10 : decode cX5_best 10 = .ok (.getfield 122, 3) := by decide +kernel
theorem dX5_best_13 : decode cX5_best 13 = .ok (.ifCond .eq 10, 3) := by decide +kernel
theorem dX5_best_16 : decode cX5_best 16 = .ok (.aload_n 0, 1) := by decide +kernel
theorem dX5_best_17 : decode cX5_best 17 = .ok (.getfield 125, 3) := by decide +kernel
theorem dX5_best_20 : decode cX5_best 20 = .ok (.goto 5, 3) := by decide +kernel
theorem dX5_best_23 : decode cX5_best 23 = .ok (.bipush (-2), 2) := by decide +kernel
theorem dX5_best_25 : decode cX5_best 25 = .ok (.ireturn, 1) := by decide +kernel
set_option maxRecDepth 20000 in
theorem ggX5_lamp_X5_isPlace : GoodIn wsX5_lamp wsX5_isPlace := goodIn_r _ [8, 9, 10, 11, 7, 12, 56, 57, 58, 59, 60, 61, 62, 63, 64, 65, 66, 67, 68, 69, 70, 71, 72, 73, 74, 75, 76, 77, 78, 79, 80, 81, 82, 83, 84, 85, 86, 87, 88, 89, 90, 91] (by decide +kernel) (by decide +kernel)
set_option maxRecDepth 20000 in
theorem gX5_lamp_X5_isPlace : GoodIn wsX5_lamp (wsV RX5 104 RX5 yX5_isPlace wsX5_isPlace) := goodIn_app (goodIn_of _ (by decide +kernel)) ggX5_lamp_X5_isPlace
set_option maxRecDepth 20000 in
theorem ggX5_lamp_X5_findBest : GoodIn wsX5_lamp wsX5_findBest := goodIn_r _ [16, 17, 2, 18, 9, 19, 20, 21, 22, 23, 24, 25, 7, 26, 27, 28, 29, 30, 31, 32, 33, 34, 35, 36, 37, 38, 39, 40, 41, 42, 43, 44, 45, 46, 47, 48, 49, 50, 51, 3, 52, 53, 54, 55, 56, 57, 58, 59, 60, 61, 62, 63, 64, 65, 66, 67, 68, 69, 70, 71, 72, 73, 74, 75, 76, 77, 78, 79, 80, 81, 82, 83, 84, 85, 86, 87, 88, 89, 90, 91] (by decide +kernel) (by decide +kernel)
set_option maxRecDepth 20000 in
theorem gX5_lamp_X5_findBest : GoodIn wsX5_lamp (wsV RX5 146 RX5 yX5_findBest wsX5_findBest) := goodIn_app (goodIn_of _ (by decide +kernel)) ggX5_lamp_X5_findBest
theorem dX5_lamp_0 : decode cX5_lamp 0 = .ok (.aload_n 0, 1) := by decide +kernel
theorem dX5_lamp_1 : decode cX5_lamp 1 = .ok (.aload_n 0, 1) := by decide +kernel
theorem dX5_lamp_2 : decode cX5_lamp 2 = .ok (.iload_n 1, 1) := by decide +kernel
theorem dX5_lamp_3 : decode cX5_lamp 3 = .ok (.invokevirtual 104, 3) := by decide +kernel
theorem dX5_lamp_6 : decode cX5_lamp 6 = .ok (.ifCond .eq 7, 3) := by decide +kernel
theorem dX5_lamp_9 : decode cX5_lamp 9 = .ok (.iconst 0, 1) := by decide +kernel
theorem dX5_lamp_10 : decode cX5_lamp 10 = .ok (.goto 4, 3) := by decide +kernel
theorem dX5_lamp_13 : decode cX5_lamp 13 = .ok (.iconst 1, 1) := by decide +kernel
theorem dX5_lamp_14 : decode cX5_lamp 14 = .ok (.putfield 80, 3) := by decide +kernel
theorem dX5_lamp_17 : decode cX5_lamp 17 = .ok (.aload_n 0, 1) := by decide +kernel
theorem dX5_lamp_18 : decode cX5_lamp 18 = .ok (.getfield 80, 3) := by decide +kernel
theorem dX5_lamp_21 : decode cX5_lamp 21 = .ok (.ifCond .le 5, 3) := by decide +kernel
theorem dX5_lamp_24 : decode cX5_lamp 24 = .ok (.iconst 0, 1) := by decide +kernel
theorem dX5_lamp_25 : decode cX5_lamp 25 = .ok (.ireturn, 1) := by decide +kernel
theorem dX5_lamp_26 : decode cX5_lamp 26 = .ok (.aload_n 0, 1) := by decide +kernel
theorem dX5_lamp_27 : decode cX5_lamp 27 = .ok (.invokevirtual 146, 3) := by decide +kernel
theorem dX5_lamp_30 : decode cX5_lamp 30 = .ok (.aload_n 0, 1) := by decide +kernel
theorem dX5_lamp_31 : decode cX5_lamp 31 = .ok (.getfield 122, 3) := by decide +kernel
theorem dX5_lamp_34 : decode cX5_lamp 34 = .ok (.ifCond .eq 12, 3) := by decide +kernel
theorem dX5_lamp_37 : decode cX5_lamp 37 = .ok (.aload_n 0, 1) := by decide +kernel
theorem dX5_lamp_38 : decode cX5_lamp 38 = .ok (.getfield 56, 3) := by decide +kernel
theorem dX5_lamp_41 : decode cX5_lamp 41 = .ok (.iload_n 1, 1) := by decide +kernel
theorem dX5_lamp_42 : decode cX5_lamp 42 = .ok (.iaload, 1) := by decide +kernel
theorem dX5_lamp_43 : decode cX5_lamp 43 = .ok (.goto 5, 3) := by decide +kernel
theorem dX5_lamp_46 : decode cX5_lamp 46 = .ok (.bipush (-2), 2) := by decide +kernel
theorem dX5_lamp_48 : decode cX5_lamp 48 = .ok (.ireturn, 1) := by decide +kernel
set_option maxRecDepth 20000 in
theorem ggX5_level_X5_isPoint : GoodIn wsX5_level wsX5_isPoint := goodIn_r _ [9, 10, 11, 12, 8, 13, 56, 57, 58, 59, 60, 61, 62, 63, 64, 65, 66, 67, 68, 69, 70, 71, 72, 73, 74, 75, 76, 77, 78, 79, 80, 81, 82, 83, 84, 85, 86, 87, 88, 89, 90, 91] (by decide +kernel) (by decide +kernel)
set_option maxRecDepth 20000 in
theorem gX5_level_X5_isPoint : GoodIn wsX5_level (wsV RX5 111 RX5 yX5_isPoint wsX5_isPoint) := goodIn_app (goodIn_of _ (by decide +kernel)) ggX5_level_X5_isPoint
set_option maxRecDepth 20000 in
theorem ggX5_level_X5_findBest : GoodIn wsX5_level wsX5_findBest := goodIn_r _ [17, 18, 2, 19, 3, 10, 20, 21, 22, 23, 24, 25, 8, 26, 27, 28, 29, 30, 31, 32, 33, 34, 35, 36, 37, 38, 39, 40, 41, 42, 43, 44, 45, 46, 47, 48, 49, 50, 51, 4, 52, 53, 54, 55, 56, 57, 58, 59, 60, 61, 62, 63, 64, 65, 66, 67, 68, 69, 70, 71, 72, 73, 74, 75, 76, 77, 78, 79, 80, 81, 82, 83, 84, 85, 86, 87, 88, 89, 90, 91] (by decide +kernel) (by decide +kernel)
set_option maxRecDepth 20000 in
theorem gX5_level_X5_findBest : GoodIn wsX5_level (wsV RX5 146 RX5 yX5_findBest wsX5_findBest) := goodIn_app (goodIn_of _ (by decide +kernel)) ggX5_level_X5_findBest
set_option maxRecDepth 20000 in
theorem ggX5_level_X5_lightOf : GoodIn wsX5_level wsX5_lightOf := goodIn_r _ [26, 27, 28, 29, 30, 31, 32, 56, 57, 58, 59, 60, 61, 62, 63, 64, 65, 66, 67, 68, 69, 70, 71, 72, 73, 74, 75, 76, 77, 78, 79, 80, 81, 82, 83, 84, 85, 86, 87, 88, 89, 90, 91] (by decide +kernel) (by decide +kernel)
set_option maxRecDepth 20000 in
theorem gX5_level_X5_lightOf : GoodIn wsX5_level (wsV RX5 114 RX5 yX5_lightOf wsX5_lightOf) := goodIn_app (goodIn_of _ (by decide +kernel)) ggX5_level_X5_lightOf
theorem dX5_level_0 : decode cX5_level 0 = .ok (.aload_n 0, 1) := by decide +kernel
theorem dX5_level_1 : decode cX5_level 1 = .ok (.aload_n 0, 1) := by decide +kernel
theorem dX5_level_2 : decode cX5_level 2 = .ok (.iload_n 1, 1) := by decide +kernel
theorem dX5_level_3 : decode cX5_level 3 = .ok (.invokevirtual 111, 3) := by decide +kernel
theorem dX5_level_6 : decode cX5_level 6 = .ok (.ifCond .eq 7, 3) := by decide +kernel
theorem dX5_level_9 : decode cX5_level 9 = .ok (.iconst 0, 1) := by decide +kernel
theorem dX5_level_10 : decode cX5_level 10 = .ok (.goto 4, 3) := by decide +kernel
theorem dX5_level_13 : decode cX5_level 13 = .ok (.iconst 1, 1) := by decide +kernel
theorem dX5_level_14 : decode cX5_level 14 = .ok (.putfield 80, 3) := by decide +kernel
theorem dX5_level_17 : decode cX5_level 17 = .ok (.aload_n 0, 1) := by decide +kernel
theorem dX5_level_18 : decode cX5_level 18 = .ok (.getfield 80, 3) := by decide +kernel
theorem dX5_level_21 : decode cX5_level 21 = .ok (.ifCond .le 5, 3) := by decide +kernel
theorem dX5_level_24 : decode cX5_level 24 = .ok (.iconst 0, 1) := by decide +kernel
theorem dX5_level_25 : decode cX5_level 25 = .ok (.ireturn, 1) := by decide +kernel
theorem dX5_level_26 : decode cX5_level 26 = .ok (.aload_n 0, 1) := by decide +kernel
theorem dX5_level_27 : decode cX5_level 27 = .ok (.invokevirtual 146, 3) := by decide +kernel
theorem dX5_level_30 : decode cX5_level 30 = .ok (.aload_n 0, 1) := by decide +kernel
theorem dX5_level_31 : decode cX5_level 31 = .ok (.getfield 122, 3) := by decide +kernel
theorem dX5_level_34 : decode cX5_level 34 = .ok (.ifCond .ne 6, 3) := by decide +kernel
theorem dX5_level_37 : decode cX5_level 37 = .ok (.bipush (-2), 2) := by decide +kernel
theorem dX5_level_39 : decode cX5_level 39 = .ok (.ireturn, 1) := by decide +kernel
theorem dX5_level_40 : decode cX5_level 40 = .ok (.iconst 0, 1) := by decide +kernel
theorem dX5_level_41 : decode cX5_level 41 = .ok (.istore_n 2, 1) := by decide +kernel
theorem dX5_level_42 : decode cX5_level 42 = .ok (.iconst 0, 1) := by decide +kernel
theorem dX5_level_43 : decode cX5_level 43 = .ok (.istore_n 3, 1) := by decide +kernel
theorem dX5_level_44 : decode cX5_level 44 = .ok (.iload_n 3, 1) := by decide +kernel
theorem dX5_level_45 : decode cX5_level 45 = .ok (.aload_n 0, 1) := by decide +kernel
theorem dX5_level_46 : decode cX5_level 46 = .ok (.getfield 90, 3) := by decide +kernel
theorem dX5_level_49 : decode cX5_level 49 = .ok (.if_icmp .ge 37, 3) := by decide +kernel
theorem dX5_level_52 : decode cX5_level 52 = .ok (.iload_n 2, 1) := by decide +kernel
theorem dX5_level_53 : decode cX5_level 53 = .ok (.aload_n 0, 1) := by decide +kernel
theorem dX5_level_54 : decode cX5_level 54 = .ok (.getfield 56, 3) := by decide +kernel
theorem dX5_level_57 : decode cX5_level 57 = .ok (.iload_n 3, 1) := by decide +kernel
theorem dX5_level_58 : decode cX5_level 58 = .ok (.iaload, 1) := by decide +kernel
theorem dX5_level_59 : decode cX5_level 59 = .ok (.ifCond .ge 7, 3) := by decide +kernel
theorem dX5_level_62 : decode cX5_level 62 = .ok (.iconst 0, 1) := by decide +kernel
theorem dX5_level_63 : decode cX5_level 63 = .ok (.goto 15, 3) := by decide +kernel
theorem dX5_level_66 : decode cX5_level 66 = .ok (.aload_n 0, 1) := by decide +kernel
theorem dX5_level_67 : decode cX5_level 67 = .ok (.aload_n 0, 1) := by decide +kernel
theorem dX5_level_68 : decode cX5_level 68 = .ok (.getfield 56, 3) := by decide +kernel
theorem dX5_level_71 : decode cX5_level 71 = .ok (.iload_n 3, 1) := by decide +kernel
theorem dX5_level_72 : decode cX5_level 72 = .ok (.iaload, 1) := by decide +kernel
theorem dX5_level_73 : decode cX5_level 73 = .ok (.iload_n 3, 1) := by decide +kernel
theorem dX5_level_74 : decode cX5_level 74 = .ok (.iload_n 1, 1) := by decide +kernel
theorem dX5_level_75 : decode cX5_level 75 = .ok (.invokevirtual 114, 3) := by decide +kernel
theorem dX5_level_78 : decode cX5_level 78 = .ok (.iadd, 1) := by decide +kernel
theorem dX5_level_79 : decode cX5_level 79 = .ok (.istore_n 2, 1) := by decide +kernel
theorem dX5_level_80 : decode cX5_level 80 = .ok (.iinc 3 1, 3) := by decide +kernel
theorem dX5_level_83 : decode cX5_level 83 = .ok (.goto (-39), 3) := by decide +kernel
theorem dX5_level_86 : decode cX5_level 86 = .ok (.iload_n 2, 1) := by decide +kernel
theorem dX5_level_87 : decode cX5_level 87 = .ok (.ireturn, 1) := by decide +kernel
theorem dX5_common_0 : decode cX5_common 0 = .ok (.lload_n 0, 1) := by decide +kernel
theorem dX5_common_1 : decode cX5_common 1 = .ok (.lstore 4, 2) := by decide +kernel
theorem dX5_common_3 : decode cX5_common 3 = .ok (.lload_n 2, 1) := by decide +kernel
theorem dX5_common_4 : decode cX5_common 4 = .ok (.lstore 6, 2) := by decide +kernel
theorem dX5_common_6 : decode cX5_common 6 = .ok (.lload 6, 2) := by decide +kernel
theorem dX5_common_8 : decode cX5_common 8 = .ok (.lconst 0, 1) := by decide +kernel
theorem dX5_common_9 : decode cX5_common 9 = .ok (.lcmp, 1) := by decide +kernel
theorem dX5_common_10 : decode cX5_common 10 = .ok (.ifCond .le 21, 3) := by decide +kernel
theorem dX5_common_13 : decode cX5_common 13 = .ok (.lload 4, 2) := by decide +kernel
theorem dX5_common_15 : decode cX5_common 15 = .ok (.lload 6, 2) := by decide +kernel
theorem dX5_common_17 : decode cX5_common 17 = .ok (.lrem, 1) := by decide +kernel
theorem dX5_common_18 : decode cX5_common 18 = .ok (.lstore 8, 2) := by decide +kernel
theorem dX5_common_20 : decode cX5_common 20 = .ok (.lload 6, 2) := by decide +kernel
theorem dX5_common_22 : decode cX5_common 22 = .ok (.lstore 4, 2) := by decide +kernel
theorem dX5_common_24 : decode cX5_common 24 = .ok (.lload 8, 2) := by decide +kernel
theorem dX5_common_26 : decode cX5_common 26 = .ok (.lstore 6, 2) := by decide +kernel
theorem dX5_common_28 : decode cX5_common 28 = .ok (.goto (-22), 3) := by decide +kernel
theorem dX5_common_31 : decode cX5_common 31 = .ok (.lload 4, 2) := by decide +kernel
theorem dX5_common_33 : decode cX5_common 33 = .ok (.lreturn, 1) := by decide +kernel
set_option maxRecDepth 20000 in
theorem ggX5_even_X5_isIn : GoodIn wsX5_even wsX5_isIn := goodIn_r _ [9] (by decide +kernel) (by decide +kernel)
set_option maxRecDepth 20000 in
theorem gX5_even_X5_isIn : GoodIn wsX5_even (va_wsS RX5 86 yX5_isIn wsX5_isIn) := goodIn_app (goodIn_of _ (by decide +kernel)) ggX5_even_X5_isIn
set_option maxRecDepth 20000 in
theorem ggX5_even_X5_findBest : GoodIn wsX5_even wsX5_findBest := goodIn_r _ [13, 14, 2, 15, 16, 17, 18, 19, 20, 21, 22, 23, 8, 24, 25, 26, 27, 28, 29, 30, 31, 32, 33, 34, 35, 36, 37, 38, 39, 40, 41, 42, 43, 44, 45, 46, 47, 5, 4, 48, 49, 50, 51, 52, 56, 57, 58, 59, 60, 61, 62, 63, 64, 65, 66, 67, 68, 69, 70, 71, 72, 73, 74, 75, 76, 77, 78, 79, 80, 81, 82, 83, 84, 85, 86, 87, 88, 89, 90, 91] (by decide +kernel) (by decide +kernel)
set_option maxRecDepth 20000 in
theorem gX5_even_X5_findBest : GoodIn wsX5_even (wsV RX5 146 RX5 yX5_findBest wsX5_findBest) := goodIn_app (goodIn_of _ (by decide +kernel)) ggX5_even_X5_findBest
set_option maxRecDepth 20000 in
theorem ggX5_even_X5_common : GoodIn wsX5_even wsX5_common := goodIn_r _ [55] (by decide +kernel) (by decide +kernel)
set_option maxRecDepth 20000 in
theorem gX5_even_X5_common : GoodIn wsX5_even (va_wsS RX5 151 yX5_common wsX5_common) := goodIn_app (goodIn_of _ (by decide +kernel)) ggX5_even_X5_common
theorem dX5_even_0 : decode cX5_even 0 = .ok (.aload_n 0, 1) := by decide +kernel
theorem dX5_even_1 : decode cX5_even 1 = .ok (.iload_n 1, 1) := by decide +kernel
theorem dX5_even_2 : decode cX5_even 2 = .ok (.iconst 0, 1) := by decide +kernel
theorem dX5_even_3 : decode cX5_even 3 = .ok (.iconst 1, 1) := by decide +kernel
theorem dX5_even_4 : decode cX5_even 4 = .ok (.invokestatic 86, 3) := by decide +kernel
theorem dX5_even_7 : decode cX5_even 7 = .ok (.ifCond .eq 7, 3) := by decide +kernel
theorem dX5_even_10 : decode cX5_even 10 = .ok (.iconst 0, 1) := by decide +kernel
theorem dX5_even_11 : decode cX5_even 11 = .ok (.goto 4, 3) := by decide +kernel
theorem dX5_even_14 : decode cX5_even 14 = .ok (.iconst 1, 1) := by decide +kernel
theorem dX5_even_15 : decode cX5_even 15 = .ok (.putfield 80, 3) := by decide +kernel
theorem dX5_even_18 : decode cX5_even 18 = .ok (.aload_n 0, 1) := by decide +kernel
theorem dX5_even_19 : decode cX5_even 19 = .ok (.getfield 80, 3) := by decide +kernel
theorem dX5_even_22 : decode cX5_even 22 = .ok (.ifCond .le 5, 3) := by decide +kernel
theorem dX5_even_25 : decode cX5_even 25 = .ok (.lconst 0, 1) := by decide +kernel
theorem dX5_even_26 : decode cX5_even 26 = .ok (.lreturn, 1) := by decide +kernel
theorem dX5_even_27 : decode cX5_even 27 = .ok (.aload_n 0, 1) := by decide +kernel
theorem dX5_even_28 : decode cX5_even 28 = .ok (.invokevirtual 146, 3) := by decide +kernel
theorem dX5_even_31 : decode cX5_even 31 = .ok (.aload_n 0, 1) := by decide +kernel
theorem dX5_even_32 : decode cX5_even 32 = .ok (.getfield 122, 3) := by decide +kernel
theorem dX5_even_35 : decode cX5_even 35 = .ok (.ifCond .ne 7, 3) := by decide +kernel
theorem dX5_even_38 : decode cX5_even 38 = .ok (.ldc2_w 149, 3) := by decide +kernel
theorem dX5_even_41 : decode cX5_even 41 = .ok (.lreturn, 1) := by decide +kernel
theorem dX5_even_42 : decode cX5_even 42 = .ok (.aload_n 0, 1) := by decide +kernel
theorem dX5_even_43 : decode cX5_even 43 = .ok (.getfield 132, 3) := by decide +kernel
theorem dX5_even_46 : decode cX5_even 46 = .ok (.aload_n 0, 1) := by decide +kernel
theorem dX5_even_47 : decode cX5_even 47 = .ok (.getfield 128, 3) := by decide +kernel
theorem dX5_even_50 : decode cX5_even 50 = .ok (.invokestatic 151, 3) := by decide +kernel
theorem dX5_even_53 : decode cX5_even 53 = .ok (.lstore_n 2, 1) := by decide +kernel
theorem dX5_even_54 : decode cX5_even 54 = .ok (.aload_n 0, 1) := by decide +kernel
theorem dX5_even_55 : decode cX5_even 55 = .ok (.getfield 132, 3) := by decide +kernel
theorem dX5_even_58 : decode cX5_even 58 = .ok (.lconst 0, 1) := by decide +kernel
theorem dX5_even_59 : decode cX5_even 59 = .ok (.lcmp, 1) := by decide +kernel
theorem dX5_even_60 : decode cX5_even 60 = .ok (.ifCond .ne 8, 3) := by decide +kernel
theorem dX5_even_63 : decode cX5_even 63 = .ok (.iload_n 1, 1) := by decide +kernel
theorem dX5_even_64 : decode cX5_even 64 = .ok (.i2l, 1) := by decide +kernel
theorem dX5_even_65 : decode cX5_even 65 = .ok (.goto 20, 3) := by decide +kernel
theorem dX5_even_68 : decode cX5_even 68 = .ok (.iload_n 1, 1) := by decide +kernel
theorem dX5_even_69 : decode cX5_even 69 = .ok (.ifCond .ne 10, 3) := by decide +kernel
theorem dX5_even_72 : decode cX5_even 72 = .ok (.aload_n 0, 1) := by decide +kernel
theorem dX5_even_73 : decode cX5_even 73 = .ok (.getfield 132, 3) := by decide +kernel
theorem dX5_even_76 : decode cX5_even 76 = .ok (.goto 7, 3) := by decide +kernel
theorem dX5_even_79 : decode cX5_even 79 = .ok (.aload_n 0, 1) := by decide +kernel
theorem dX5_even_80 : decode cX5_even 80 = .ok (.getfield 128, 3) := by decide +kernel
theorem dX5_even_83 : decode cX5_even 83 = .ok (.lload_n 2, 1) := by decide +kernel
theorem dX5_even_84 : decode cX5_even 84 = .ok (.ldiv, 1) := by decide +kernel
theorem dX5_even_85 : decode cX5_even 85 = .ok (.lreturn, 1) := by decide +kernel
set_option maxRecDepth 20000 in
theorem ggX5_aim_X5_isPoint : GoodIn wsX5_aim wsX5_isPoint := goodIn_r _ [8, 9, 10, 11, 7, 12, 13, 14, 15, 16, 17, 18, 19, 20, 21, 22, 23, 24, 25, 26, 27, 28, 29, 30, 31, 32, 33, 34, 35, 36, 37, 38, 39, 40, 41, 42, 43, 44, 45, 46, 47, 48] (by decide +kernel) (by decide +kernel)
set_option maxRecDepth 20000 in
theorem gX5_aim_X5_isPoint : GoodIn wsX5_aim (wsV RX5 111 RX5 yX5_isPoint wsX5_isPoint) := goodIn_app (goodIn_of _ (by decide +kernel)) ggX5_aim_X5_isPoint
set_option maxRecDepth 20000 in
theorem ggX5_aim_X5_isIn : GoodIn wsX5_aim wsX5_isIn := goodIn_r _ [12] (by decide +kernel) (by decide +kernel)
set_option maxRecDepth 20000 in
theorem gX5_aim_X5_isIn : GoodIn wsX5_aim (va_wsS RX5 86 yX5_isIn wsX5_isIn) := goodIn_app (goodIn_of _ (by decide +kernel)) ggX5_aim_X5_isIn
theorem dX5_aim_0 : decode cX5_aim 0 = .ok (.aload_n 0, 1) := by decide +kernel
theorem dX5_aim_1 : decode cX5_aim 1 = .ok (.aload_n 0, 1) := by decide +kernel
theorem dX5_aim_2 : decode cX5_aim 2 = .ok (.iload_n 1, 1) := by decide +kernel
theorem dX5_aim_3 : decode cX5_aim 3 = .ok (.invokevirtual 111, 3) := by decide +kernel
theorem dX5_aim_6 : decode cX5_aim 6 = .ok (.ifCond .eq 17, 3) := by decide +kernel
theorem dX5_aim_9 : decode cX5_aim 9 = .ok (.iload_n 2, 1) := by decide +kernel
theorem dX5_aim_10 : decode cX5_aim 10 = .ok (.iconst 0, 1) := by decide +kernel
theorem dX5_aim_11 : decode cX5_aim 11 = .ok (.ldc 155, 2) := by decide +kernel
theorem dX5_aim_13 : decode cX5_aim 13 = .ok (.invokestatic 86, 3) := by decide +kernel
theorem dX5_aim_16 : decode cX5_aim 16 = .ok (.ifCond .eq 7, 3) := by decide +kernel
theorem dX5_aim_19 : decode cX5_aim 19 = .ok (.iconst 0, 1) := by decide +kernel
theorem dX5_aim_20 : decode cX5_aim 20 = .ok (.goto 4, 3) := by decide +kernel
theorem dX5_aim_23 : decode cX5_aim 23 = .ok (.iconst 1, 1) := by decide +kernel
theorem dX5_aim_24 : decode cX5_aim 24 = .ok (.putfield 80, 3) := by decide +kernel
theorem dX5_aim_27 : decode cX5_aim 27 = .ok (.aload_n 0, 1) := by decide +kernel
theorem dX5_aim_28 : decode cX5_aim 28 = .ok (.getfield 80, 3) := by decide +kernel
theorem dX5_aim_31 : decode cX5_aim 31 = .ok (.ifCond .le 5, 3) := by decide +kernel
theorem dX5_aim_34 : decode cX5_aim 34 = .ok (.iconst 0, 1) := by decide +kernel
theorem dX5_aim_35 : decode cX5_aim 35 = .ok (.ireturn, 1) := by decide +kernel
theorem dX5_aim_36 : decode cX5_aim 36 = .ok (.aload_n 0, 1) := by decide +kernel
theorem dX5_aim_37 : decode cX5_aim 37 = .ok (.getfield 43, 3) := by decide +kernel
theorem dX5_aim_40 : decode cX5_aim 40 = .ok (.iload_n 1, 1) := by decide +kernel
theorem dX5_aim_41 : decode cX5_aim 41 = .ok (.iaload, 1) := by decide +kernel
theorem dX5_aim_42 : decode cX5_aim 42 = .ok (.istore_n 3, 1) := by decide +kernel
theorem dX5_aim_43 : decode cX5_aim 43 = .ok (.aload_n 0, 1) := by decide +kernel
theorem dX5_aim_44 : decode cX5_aim 44 = .ok (.getfield 43, 3) := by decide +kernel
theorem dX5_aim_47 : decode cX5_aim 47 = .ok (.iload_n 1, 1) := by decide +kernel
theorem dX5_aim_48 : decode cX5_aim 48 = .ok (.iload_n 2, 1) := by decide +kernel
theorem dX5_aim_49 : decode cX5_aim 49 = .ok (.iastore, 1) := by decide +kernel
theorem dX5_aim_50 : decode cX5_aim 50 = .ok (.iload_n 3, 1) := by decide +kernel
theorem dX5_aim_51 : decode cX5_aim 51 = .ok (.ireturn, 1) := by decide +kernel
theorem dX5_hasLamp_0 : decode cX5_hasLamp 0 = .ok (.aload_n 0, 1) := by decide +kernel
theorem dX5_hasLamp_1 : decode cX5_hasLamp 1 = .ok (.getfield 122, 3) := by decide +kernel
theorem dX5_hasLamp_4 : decode cX5_hasLamp 4 = .ok (.ifCond .eq 16, 3) := by decide +kernel
theorem dX5_hasLamp_7 : decode cX5_hasLamp 7 = .ok (.aload_n 0, 1) := by decide +kernel
theorem dX5_hasLamp_8 : decode cX5_hasLamp 8 = .ok (.getfield 56, 3) := by decide +kernel
theorem dX5_hasLamp_11 : decode cX5_hasLamp 11 = .ok (.iload_n 1, 1) := by decide +kernel
theorem dX5_hasLamp_12 : decode cX5_hasLamp 12 = .ok (.iaload, 1) := by decide +kernel
theorem dX5_hasLamp_13 : decode cX5_hasLamp 13 = .ok (.ifCond .lt 7, 3) := by decide +kernel
theorem dX5_hasLamp_16 : decode cX5_hasLamp 16 = .ok (.iconst 1, 1) := by decide +kernel
theorem dX5_hasLamp_17 : decode cX5_hasLamp 17 = .ok (.goto 4, 3) := by decide +kernel
theorem dX5_hasLamp_20 : decode cX5_hasLamp 20 = .ok (.iconst 0, 1) := by decide +kernel
theorem dX5_hasLamp_21 : decode cX5_hasLamp 21 = .ok (.ireturn, 1) := by decide +kernel
set_option maxRecDepth 20000 in
theorem ggX5_missOf_X5_hasLamp : GoodIn wsX5_missOf wsX5_hasLamp := goodIn_r _ [10, 11, 4, 22, 23, 24, 25, 26, 27, 28, 29, 30, 31, 32, 33, 34, 35, 36, 37, 38, 39, 40, 41, 42, 43, 44, 45, 46, 47, 48, 49, 50, 51, 52, 53, 54, 55, 56, 57] (by decide +kernel) (by decide +kernel)
set_option maxRecDepth 20000 in
theorem gX5_missOf_X5_hasLamp : GoodIn wsX5_missOf (wsV RX5 158 RX5 yX5_hasLamp wsX5_hasLamp) := goodIn_app (goodIn_of _ (by decide +kernel)) ggX5_missOf_X5_hasLamp
set_option maxRecDepth 20000 in
theorem ggX5_missOf_X5_lightOf : GoodIn wsX5_missOf wsX5_lightOf := goodIn_r _ [15, 16, 17, 18, 19, 20, 21, 22, 23, 24, 25, 26, 27, 28, 29, 30, 31, 32, 33, 34, 35, 36, 37, 38, 39, 40, 41, 42, 43, 44, 45, 46, 47, 48, 49, 50, 51, 52, 53, 54, 55, 56, 57] (by decide +kernel) (by decide +kernel)
set_option maxRecDepth 20000 in
theorem gX5_missOf_X5_lightOf : GoodIn wsX5_missOf (wsV RX5 114 RX5 yX5_lightOf wsX5_lightOf) := goodIn_app (goodIn_of _ (by decide +kernel)) ggX5_missOf_X5_lightOf
theorem dX5_missOf_0 : decode cX5_missOf 0 = .ok (.ldc2_w 156, 3) := by decide +kernel
theorem dX5_missOf_3 : decode cX5_missOf 3 = .ok (.aload_n 0, 1) := by decide +kernel
theorem dX5_missOf_4 : decode cX5_missOf 4 = .ok (.getfield 43, 3) := by decide +kernel
theorem dX5_missOf_7 : decode cX5_missOf 7 = .ok (.iload_n 1, 1) := by decide +kernel
theorem dX5_missOf_8 : decode cX5_missOf 8 = .ok (.iaload, 1) := by decide +kernel
theorem dX5_missOf_9 : decode cX5_missOf 9 = .ok (.i2l, 1) := by decide +kernel
theorem dX5_missOf_10 : decode cX5_missOf 10 = .ok (.lmul, 1) := by decide +kernel
theorem dX5_missOf_11 : decode cX5_missOf 11 = .ok (.lstore_n 2, 1) := by decide +kernel
theorem dX5_missOf_12 : decode cX5_missOf 12 = .ok (.iconst 0, 1) := by decide +kernel
theorem dX5_missOf_13 : decode cX5_missOf 13 = .ok (.istore 4, 2) := by decide +kernel
theorem dX5_missOf_15 : decode cX5_missOf 15 = .ok (.iload 4, 2) := by decide +kernel
theorem dX5_missOf_17 : decode cX5_missOf 17 = .ok (.aload_n 0, 1) := by decide +kernel
theorem dX5_missOf_18 : decode cX5_missOf 18 = .ok (.getfield 90, 3) := by decide +kernel
theorem dX5_missOf_21 : decode cX5_missOf 21 = .ok (.if_icmp .ge 49, 3) := by decide +kernel
theorem dX5_missOf_24 : decode cX5_missOf 24 = .ok (.lload_n 2, 1) := by decide +kernel
theorem dX5_missOf_25 : decode cX5_missOf 25 = .ok (.aload_n 0, 1) := by decide +kernel
theorem dX5_missOf_26 : decode cX5_missOf 26 = .ok (.iload 4, 2) := by decide +kernel
theorem dX5_missOf_28 : decode cX5_missOf 28 = .ok (.invokevirtual 158, 3) := by decide +kernel
theorem dX5_missOf_31 : decode cX5_missOf 31 = .ok (.ifCond .eq 30, 3) := by decide +kernel
theorem dX5_missOf_34 : decode cX5_missOf 34 = .ok (.aload_n 0, 1) := by decide +kernel
theorem dX5_missOf_35 : decode cX5_missOf 35 = .ok (.aload_n 0, 1) := by decide +kernel
theorem dX5_missOf_36 : decode cX5_missOf 36 = .ok (.getfield 56, 3) := by decide +kernel
theorem dX5_missOf_39 : decode cX5_missOf 39 = .ok (.iload 4, 2) := by decide +kernel
theorem dX5_missOf_41 : decode cX5_missOf 41 = .ok (.iaload, 1) := by decide +kernel
theorem dX5_missOf_42 : decode cX5_missOf 42 = .ok (.iload 4, 2) := by decide +kernel
theorem dX5_missOf_44 : decode cX5_missOf 44 = .ok (.iload_n 1, 1) := by decide +kernel
theorem dX5_missOf_45 : decode cX5_missOf 45 = .ok (.invokevirtual 114, 3) := by decide +kernel
theorem dX5_missOf_48 : decode cX5_missOf 48 = .ok (.i2l, 1) := by decide +kernel
theorem dX5_missOf_49 : decode cX5_missOf 49 = .ok (.aload_n 0, 1) := by decide +kernel
theorem dX5_missOf_50 : decode cX5_missOf 50 = .ok (.getfield 71, 3) := by decide +kernel
theorem dX5_missOf_53 : decode cX5_missOf 53 = .ok (.iload 4, 2) := by decide +kernel
theorem dX5_missOf_55 : decode cX5_missOf 55 = .ok (.iaload, 1) := by decide +kernel
theorem dX5_missOf_56 : decode cX5_missOf 56 = .ok (.i2l, 1) := by decide +kernel
theorem dX5_missOf_57 : decode cX5_missOf 57 = .ok (.lmul, 1) := by decide +kernel
theorem dX5_missOf_58 : decode cX5_missOf 58 = .ok (.goto 4, 3) := by decide +kernel
theorem dX5_missOf_61 : decode cX5_missOf 61 = .ok (.lconst 0, 1) := by decide +kernel
theorem dX5_missOf_62 : decode cX5_missOf 62 = .ok (.lsub, 1) := by decide +kernel
theorem dX5_missOf_63 : decode cX5_missOf 63 = .ok (.lstore_n 2, 1) := by decide +kernel
theorem dX5_missOf_64 : decode cX5_missOf 64 = .ok (.iinc 4 1, 3) := by decide +kernel
theorem dX5_missOf_67 : decode cX5_missOf 67 = .ok (.goto (-52), 3) := by decide +kernel
theorem dX5_missOf_70 : decode cX5_missOf 70 = .ok (.lload_n 2, 1) := by decide +kernel
theorem dX5_missOf_71 : decode cX5_missOf 71 = .ok (.lreturn, 1) := by decide +kernel
set_option maxRecDepth 20000 in
theorem ggX5_dimOf_X5_lightOf : GoodIn wsX5_dimOf wsX5_lightOf := goodIn_r _ [9, 10, 11, 12, 13, 14, 15, 28, 29, 30, 31, 32, 33, 34, 35, 36, 37, 38, 39, 40, 41, 42, 43, 44, 45, 46, 47, 48, 49, 50, 51, 52, 53, 54, 55, 56, 57, 58, 59, 60, 61, 62, 63] (by decide +kernel) (by decide +kernel)
set_option maxRecDepth 20000 in
theorem gX5_dimOf_X5_lightOf : GoodIn wsX5_dimOf (wsV RX5 114 RX5 yX5_lightOf wsX5_lightOf) := goodIn_app (goodIn_of _ (by decide +kernel)) ggX5_dimOf_X5_lightOf
set_option maxRecDepth 20000 in
theorem ggX5_dimOf_X5_missOf : GoodIn wsX5_dimOf wsX5_missOf := goodIn_r _ [19, 20, 21, 22, 3, 1, 23, 24, 25, 8, 26, 27, 5, 6, 7, 9, 10, 11, 12, 13, 14, 15, 28, 29, 30, 31, 32, 33, 34, 35, 36, 37, 38, 39, 40, 41, 42, 43, 44, 45, 46, 47, 48, 49, 50, 51, 52, 53, 54, 55, 56, 57, 58, 59, 60, 61, 62, 63] (by decide +kernel) (by decide +kernel)
set_option maxRecDepth 20000 in
theorem gX5_dimOf_X5_missOf : GoodIn wsX5_dimOf (wsV RX5 161 RX5 yX5_missOf wsX5_missOf) := goodIn_app (goodIn_of _ (by decide +kernel)) ggX5_dimOf_X5_missOf
theorem dX5_dimOf_0 : decode cX5_dimOf 0 = .ok (.aload_n 0, 1) := by decide +kernel
theorem dX5_dimOf_1 : decode cX5_dimOf 1 = .ok (.getfield 71, 3) := by decide +kernel
theorem dX5_dimOf_4 : decode cX5_dimOf 4 = .ok (.iload_n 1, 1) := by decide +kernel
theorem dX5_dimOf_5 : decode cX5_dimOf 5 = .ok (.iconst 0, 1) := by decide +kernel
theorem dX5_dimOf_6 : decode cX5_dimOf 6 = .ok (.iastore, 1) := by decide +kernel
theorem dX5_dimOf_7 : decode cX5_dimOf 7 = .ok (.lconst 0, 1) := by decide +kernel
theorem dX5_dimOf_8 : decode cX5_dimOf 8 = .ok (.lstore_n 2, 1) := by decide +kernel
theorem dX5_dimOf_9 : decode cX5_dimOf 9 = .ok (.lconst 0, 1) := by decide +kernel
theorem dX5_dimOf_10 : decode cX5_dimOf 10 = .ok (.lstore 4, 2) := by decide +kernel
theorem dX5_dimOf_12 : decode cX5_dimOf 12 = .ok (.iconst 0, 1) := by decide +kernel
theorem dX5_dimOf_13 : decode cX5_dimOf 13 = .ok (.istore 6, 2) := by decide +kernel
theorem dX5_dimOf_15 : decode cX5_dimOf 15 = .ok (.iload 6, 2) := by decide +kernel
theorem dX5_dimOf_17 : decode cX5_dimOf 17 = .ok (.aload_n 0, 1) := by decide +kernel
theorem dX5_dimOf_18 : decode cX5_dimOf 18 = .ok (.getfield 93, 3) := by decide +kernel
theorem dX5_dimOf_21 : decode cX5_dimOf 21 = .ok (.if_icmp .ge 47, 3) := by decide +kernel
theorem dX5_dimOf_24 : decode cX5_dimOf 24 = .ok (.aload_n 0, 1) := by decide +kernel
theorem dX5_dimOf_25 : decode cX5_dimOf 25 = .ok (.aload_n 0, 1) := by decide +kernel
theorem dX5_dimOf_26 : decode cX5_dimOf 26 = .ok (.getfield 56, 3) := by decide +kernel
theorem dX5_dimOf_29 : decode cX5_dimOf 29 = .ok (.iload_n 1, 1) := by decide +kernel
theorem dX5_dimOf_30 : decode cX5_dimOf 30 = .ok (.iaload, 1) := by decide +kernel
theorem dX5_dimOf_31 : decode cX5_dimOf 31 = .ok (.iload_n 1, 1) := by decide +kernel
theorem dX5_dimOf_32 : decode cX5_dimOf 32 = .ok (.iload 6, 2) := by decide +kernel
theorem dX5_dimOf_34 : decode cX5_dimOf 34 = .ok (.invokevirtual 114, 3) := by decide +kernel
theorem dX5_dimOf_37 : decode cX5_dimOf 37 = .ok (.i2l, 1) := by decide +kernel
theorem dX5_dimOf_38 : decode cX5_dimOf 38 = .ok (.lstore 7, 2) := by decide +kernel
theorem dX5_dimOf_40 : decode cX5_dimOf 40 = .ok (.lload_n 2, 1) := by decide +kernel
theorem dX5_dimOf_41 : decode cX5_dimOf 41 = .ok (.lload 7, 2) := by decide +kernel
theorem dX5_dimOf_43 : decode cX5_dimOf 43 = .ok (.aload_n 0, 1) := by decide +kernel
theorem dX5_dimOf_44 : decode cX5_dimOf 44 = .ok (.iload 6, 2) := by decide +kernel
theorem dX5_dimOf_46 : decode cX5_dimOf 46 = .ok (.invokevirtual 161, 3) := by decide +kernel
theorem dX5_dimOf_49 : decode cX5_dimOf 49 = .ok (.lmul, 1) := by decide +kernel
theorem dX5_dimOf_50 : decode cX5_dimOf 50 = .ok (.ladd, 1) := by decide +kernel
theorem dX5_dimOf_51 : decode cX5_dimOf 51 = .ok (.lstore_n 2, 1) := by decide +kernel
theorem dX5_dimOf_52 : decode cX5_dimOf 52 = .ok (.lload 4, 2) := by decide +kernel
theorem dX5_dimOf_54 : decode cX5_dimOf 54 = .ok (.lload 7, 2) := by decide +kernel
theorem dX5_dimOf_56 : decode cX5_dimOf 56 = .ok (.lload 7, 2) := by decide +kernel
theorem dX5_dimOf_58 : decode cX5_dimOf 58 = .ok (.lmul, 1) := by decide +kernel
theorem dX5_dimOf_59 : decode cX5_dimOf 59 = .ok (.ladd, 1) := by decide +kernel
theorem dX5_dimOf_60 : decode cX5_dimOf 60 = .ok (.lstore 4, 2) := by decide +kernel
theorem dX5_dimOf_62 : decode cX5_dimOf 62 = .ok (.iinc 6 1, 3) := by decide +kernel
theorem dX5_dimOf_65 : decode cX5_dimOf 65 = .ok (.goto (-50), 3) := by decide +kernel
theorem dX5_dimOf_68 : decode cX5_dimOf 68 = .ok (.iconst 0, 1) := by decide +kernel
theorem dX5_dimOf_69 : decode cX5_dimOf 69 = .ok (.istore 6, 2) := by decide +kernel
theorem dX5_dimOf_71 : decode cX5_dimOf 71 = .ok (.iload 6, 2) := by decide +kernel
theorem dX5_dimOf_73 : decode cX5_dimOf 73 = .ok (.bipush 100, 2) := by decide +kernel
theorem dX5_dimOf_75 : decode cX5_dimOf 75 = .ok (.if_icmp .ge 32, 3) := by decide +kernel
theorem dX5_dimOf_78 : decode cX5_dimOf 78 = .ok (.ldc2_w 165, 3) := by decide +kernel
theorem dX5_dimOf_81 : decode cX5_dimOf 81 = .ok (.iload 6, 2) := by decide +kernel
theorem dX5_dimOf_83 : decode cX5_dimOf 83 = .ok (.i2l, 1) := by decide +kernel
theorem dX5_dimOf_84 : decode cX5_dimOf 84 = .ok (.lmul, 1) := by decide +kernel
theorem dX5_dimOf_85 : decode cX5_dimOf 85 = .ok (.lconst 1, 1) := by decide +kernel
theorem dX5_dimOf_86 : decode cX5_dimOf 86 = .ok (.ladd, 1) := by decide +kernel
theorem dX5_dimOf_87 : decode cX5_dimOf 87 = .ok (.lload 4, 2) := by decide +kernel
theorem dX5_dimOf_89 : decode cX5_dimOf 89 = .ok (.lmul, 1) := by decide +kernel
theorem dX5_dimOf_90 : decode cX5_dimOf 90 = .ok (.ldc2_w 165, 3) := by decide +kernel
theorem dX5_dimOf_93 : decode cX5_dimOf 93 = .ok (.lload_n 2, 1) := by decide +kernel
theorem dX5_dimOf_94 : decode cX5_dimOf 94 = .ok (.lmul, 1) := by decide +kernel
theorem dX5_dimOf_95 : decode cX5_dimOf 95 = .ok (.lsub, 1) := by decide +kernel
theorem dX5_dimOf_96 : decode cX5_dimOf 96 = .ok (.lconst 0, 1) := by decide +kernel
theorem dX5_dimOf_97 : decode cX5_dimOf 97 = .ok (.lcmp, 1) := by decide +kernel
theorem dX5_dimOf_98 : decode cX5_dimOf 98 = .ok (.ifCond .ge 9, 3) := by decide +kernel
theorem dX5_dimOf_101 : decode cX5_dimOf 101 = .ok (.iinc 6 1, 3) := by decide +kernel
theorem dX5_dimOf_104 : decode cX5_dimOf 104 = .ok (.goto (-33), 3) := by decide +kernel
theorem dX5_dimOf_107 : decode cX5_dimOf 107 = .ok (.iload 6, 2) := by decide +kernel
theorem dX5_dimOf_109 : decode cX5_dimOf 109 = .ok (.ireturn, 1) := by decide +kernel
set_option maxRecDepth 20000 in
theorem ggX5_sweep_X5_findBest : GoodIn wsX5_sweep wsX5_findBest := goodIn_r _ [7, 8, 9, 10, 2, 11, 12, 13, 14, 15, 16, 17, 6, 18, 19, 20, 21, 22, 23, 24, 25, 26, 27, 28, 29, 30, 31, 32, 33, 34, 35, 36, 37, 38, 39, 40, 41, 42, 43, 44, 45, 46, 47, 48, 64, 65, 66, 67, 68, 69, 70, 71, 72, 73, 74, 75, 76, 77, 78, 79, 80, 81, 82, 83, 84, 85, 86, 87, 88, 89, 90, 91, 92, 93, 94, 95, 96, 97, 98, 99] (by decide +kernel) (by decide +kernel)
set_option maxRecDepth 20000 in
theorem gX5_sweep_X5_findBest : GoodIn wsX5_sweep (wsV RX5 146 RX5 yX5_findBest wsX5_findBest) := goodIn_app (goodIn_of _ (by decide +kernel)) ggX5_sweep_X5_findBest
set_option maxRecDepth 20000 in
theorem ggX5_sweep_X5_hasLamp : GoodIn wsX5_sweep wsX5_hasLamp := goodIn_r _ [52, 9, 44, 64, 65, 66, 67, 68, 69, 70, 71, 72, 73, 74, 75, 76, 77, 78, 79, 80, 81, 82, 83, 84, 85, 86, 87, 88, 89, 90, 91, 92, 93, 94, 95, 96, 97, 98, 99] (by decide +kernel) (by decide +kernel)
set_option maxRecDepth 20000 in
theorem gX5_sweep_X5_hasLamp : GoodIn wsX5_sweep (wsV RX5 158 RX5 yX5_hasLamp wsX5_hasLamp) := goodIn_app (goodIn_of _ (by decide +kernel)) ggX5_sweep_X5_hasLamp
set_option maxRecDepth 20000 in
theorem ggX5_sweep_X5_dimOf : GoodIn wsX5_sweep wsX5_dimOf := goodIn_r _ [56, 1, 11, 44, 57, 15, 16, 17, 6, 18, 19, 20, 21, 22, 23, 24, 58, 59, 60, 61, 62, 63, 2, 49, 50, 51, 52, 9, 64, 65, 66, 67, 68, 69, 70, 71, 72, 73, 74, 75, 76, 77, 78, 79, 80, 81, 82, 83, 84, 85, 86, 87, 88, 89, 90, 91, 92, 93, 94, 95, 96, 97, 98, 99] (by decide +kernel) (by decide +kernel)
set_option maxRecDepth 20000 in
theorem gX5_sweep_X5_dimOf : GoodIn wsX5_sweep (wsV RX5 167 RX5 yX5_dimOf wsX5_dimOf) := goodIn_app (goodIn_of _ (by decide +kernel)) ggX5_sweep_X5_dimOf
theorem dX5_sweep_0 : decode cX5_sweep 0 = .ok (.aload_n 0, 1) := by decide +kernel
theorem dX5_sweep_1 : decode cX5_sweep 1 = .ok (.invokevirtual 146, 3) := by decide +kernel
theorem dX5_sweep_4 : decode cX5_sweep 4 = .ok (.iconst 0, 1) := by decide +kernel
theorem dX5_sweep_5 : decode cX5_sweep 5 = .ok (.istore_n 1, 1) := by decide +kernel
theorem dX5_sweep_6 : decode cX5_sweep 6 = .ok (.iconst 0, 1) := by decide +kernel
theorem dX5_sweep_7 : decode cX5_sweep 7 = .ok (.istore_n 2, 1) := by decide +kernel
theorem dX5_sweep_8 : decode cX5_sweep 8 = .ok (.iload_n 2, 1) := by decide +kernel
theorem dX5_sweep_9 : decode cX5_sweep 9 = .ok (.bipush 7, 2) := by decide +kernel
theorem dX5_sweep_11 : decode cX5_sweep 11 = .ok (.if_icmp .ge 42, 3) := by decide +kernel
theorem dX5_sweep_14 : decode cX5_sweep 14 = .ok (.aload_n 0, 1) := by decide +kernel
theorem dX5_sweep_15 : decode cX5_sweep 15 = .ok (.getfield 71, 3) := by decide +kernel
theorem dX5_sweep_18 : decode cX5_sweep 18 = .ok (.iload_n 2, 1) := by decide +kernel
theorem dX5_sweep_19 : decode cX5_sweep 19 = .ok (.iconst 0, 1) := by decide +kernel
theorem dX5_sweep_20 : decode cX5_sweep 20 = .ok (.iastore, 1) := by decide +kernel
theorem dX5_sweep_21 : decode cX5_sweep 21 = .ok (.iload_n 1, 1) := by decide +kernel
theorem dX5_sweep_22 : decode cX5_sweep 22 = .ok (.ifCond .ne 19, 3) := by decide +kernel
theorem dX5_sweep_25 : decode cX5_sweep 25 = .ok (.iload_n 2, 1) := by decide +kernel
theorem dX5_sweep_26 : decode cX5_sweep 26 = .ok (.aload_n 0, 1) := by decide +kernel
theorem dX5_sweep_27 : decode cX5_sweep 27 = .ok (.getfield 90, 3) := by decide +kernel
theorem dX5_sweep_30 : decode cX5_sweep 30 = .ok (.if_icmp .ge 15, 3) := by decide +kernel
theorem dX5_sweep_33 : decode cX5_sweep 33 = .ok (.aload_n 0, 1) := by decide +kernel
theorem dX5_sweep_34 : decode cX5_sweep 34 = .ok (.iload_n 2, 1) := by decide +kernel
theorem dX5_sweep_35 : decode cX5_sweep 35 = .ok (.invokevirtual 158, 3) := by decide +kernel
theorem dX5_sweep_38 : decode cX5_sweep 38 = .ok (.ifCond .eq 7, 3) := by decide +kernel
theorem dX5_sweep_41 : decode cX5_sweep 41 = .ok (.iconst 1, 1) := by decide +kernel
theorem dX5_sweep_42 : decode cX5_sweep 42 = .ok (.goto 4, 3) := by decide +kernel
theorem dX5_sweep_45 : decode cX5_sweep 45 = .ok (.iconst 0, 1) := by decide +kernel
theorem dX5_sweep_46 : decode cX5_sweep 46 = .ok (.istore_n 1, 1) := by decide +kernel
theorem dX5_sweep_47 : decode cX5_sweep 47 = .ok (.iinc 2 1, 3) := by decide +kernel
theorem dX5_sweep_50 : decode cX5_sweep 50 = .ok (.goto (-42), 3) := by decide +kernel
theorem dX5_sweep_53 : decode cX5_sweep 53 = .ok (.iconst 0, 1) := by decide +kernel
theorem dX5_sweep_54 : decode cX5_sweep 54 = .ok (.istore_n 2, 1) := by decide +kernel
theorem dX5_sweep_55 : decode cX5_sweep 55 = .ok (.iload_n 1, 1) := by decide +kernel
theorem dX5_sweep_56 : decode cX5_sweep 56 = .ok (.istore_n 3, 1) := by decide +kernel
theorem dX5_sweep_57 : decode cX5_sweep 57 = .ok (.iload_n 3, 1) := by decide +kernel
theorem dX5_sweep_58 : decode cX5_sweep 58 = .ok (.ifCond .eq 88, 3) := by decide +kernel
theorem dX5_sweep_61 : decode cX5_sweep 61 = .ok (.iload_n 2, 1) := by decide +kernel
theorem dX5_sweep_62 : decode cX5_sweep 62 = .ok (.bipush 20, 2) := by decide +kernel
theorem dX5_sweep_64 : decode cX5_sweep 64 = .ok (.if_icmp .ge 82, 3) := by decide +kernel
theorem dX5_sweep_67 : decode cX5_sweep 67 = .ok (.iconst 0, 1) := by decide +kernel
theorem dX5_sweep_68 : decode cX5_sweep 68 = .ok (.istore_n 3, 1) := by decide +kernel
theorem dX5_sweep_69 : decode cX5_sweep 69 = .ok (.iinc 2 1, 3) := by decide +kernel
theorem dX5_sweep_72 : decode cX5_sweep 72 = .ok (.iconst 0, 1) := by decide +kernel
theorem dX5_sweep_73 : decode cX5_sweep 73 = .ok (.istore 4, 2) := by decide +kernel
theorem dX5_sweep_75 : decode cX5_sweep 75 = .ok (.iload 4, 2) := by decide +kernel
theorem dX5_sweep_77 : decode cX5_sweep 77 = .ok (.aload_n 0, 1) := by decide +kernel
theorem dX5_sweep_78 : decode cX5_sweep 78 = .ok (.getfield 90, 3) := by decide +kernel
theorem dX5_sweep_81 : decode cX5_sweep 81 = .ok (.if_icmp .ge 62, 3) := by decide +kernel
theorem dX5_sweep_84 : decode cX5_sweep 84 = .ok (.aload_n 0, 1) := by decide +kernel
theorem dX5_sweep_85 : decode cX5_sweep 85 = .ok (.iload 4, 2) := by decide +kernel
theorem dX5_sweep_87 : decode cX5_sweep 87 = .ok (.invokevirtual 158, 3) := by decide +kernel
theorem dX5_sweep_90 : decode cX5_sweep 90 = .ok (.ifCond .eq 47, 3) := by decide +kernel
theorem dX5_sweep_93 : decode cX5_sweep 93 = .ok (.aload_n 0, 1) := by decide +kernel
theorem dX5_sweep_94 : decode cX5_sweep 94 = .ok (.getfield 71, 3) := by decide +kernel
theorem dX5_sweep_97 : decode cX5_sweep 97 = .ok (.iload 4, 2) := by decide +kernel
theorem dX5_sweep_99 : decode cX5_sweep 99 = .ok (.iaload, 1) := by decide +kernel
theorem dX5_sweep_100 : decode cX5_sweep 100 = .ok (.istore 5, 2) := by decide +kernel
theorem dX5_sweep_102 : decode cX5_sweep 102 = .ok (.aload_n 0, 1) := by decide +kernel
theorem dX5_sweep_103 : decode cX5_sweep 103 = .ok (.getfield 71, 3) := by decide +kernel
theorem dX5_sweep_106 : decode cX5_sweep 106 = .ok (.iload 4, 2) := by decide +kernel
theorem dX5_sweep_108 : decode cX5_sweep 108 = .ok (.aload_n 0, 1) := by decide +kernel
theorem dX5_sweep_109 : decode cX5_sweep 109 = .ok (.iload 4, 2) := by decide +kernel
theorem dX5_sweep_111 : decode cX5_sweep 111 = .ok (.invokevirtual 167, 3) := by decide +kernel
theorem dX5_sweep_114 : decode cX5_sweep 114 = .ok (.iastore, 1) := by decide +kernel
theorem dX5_sweep_115 : decode cX5_sweep 115 = .ok (.iload_n 3, 1) := by decide +kernel
theorem dX5_sweep_116 : decode cX5_sweep 116 = .ok (.ifCond .ne 15, 3) := by decide +kernel
theorem dX5_sweep_119 : decode cX5_sweep 119 = .ok (.aload_n 0, 1) := by decide +kernel
theorem dX5_sweep_120 : decode cX5_sweep 120 = .ok (.getfield 71, 3) := by decide +kernel
theorem dX5_sweep_123 : decode cX5_sweep 123 = .ok (.iload 4, 2) := by decide +kernel
theorem dX5_sweep_125 : decode cX5_sweep 125 = .ok (.iaload, 1) := by decide +kernel
theorem dX5_sweep_126 : decode cX5_sweep 126 = .ok (.iload 5, 2) := by decide +kernel
theorem dX5_sweep_128 : decode cX5_sweep 128 = .ok (.if_icmp .eq 7, 3) := by decide +kernel
theorem dX5_sweep_131 : decode cX5_sweep 131 = .ok (.iconst 1, 1) := by decide +kernel
theorem dX5_sweep_132 : decode cX5_sweep 132 = .ok (.goto 4, 3) := by decide +kernel
theorem dX5_sweep_135 : decode cX5_sweep 135 = .ok (.iconst 0, 1) := by decide +kernel
theorem dX5_sweep_136 : decode cX5_sweep 136 = .ok (.istore_n 3, 1) := by decide +kernel
theorem dX5_sweep_137 : decode cX5_sweep 137 = .ok (.iinc 4 1, 3) := by decide +kernel
theorem dX5_sweep_140 : decode cX5_sweep 140 = .ok (.goto (-65), 3) := by decide +kernel
theorem dX5_sweep_143 : decode cX5_sweep 143 = .ok (.goto (-86), 3) := by decide +kernel
theorem dX5_sweep_146 : decode cX5_sweep 146 = .ok (.iload_n 2, 1) := by decide +kernel
theorem dX5_sweep_147 : decode cX5_sweep 147 = .ok (.ireturn, 1) := by decide +kernel
set_option maxRecDepth 20000 in
theorem ggX5_scene_X5_sweep : GoodIn wsX5_scene wsX5_sweep := goodIn_r _ [6, 7, 8, 9, 10, 11, 5, 12, 13, 14, 15, 16, 17, 18, 19, 20, 21, 22, 23, 24, 25, 26, 27, 28, 29, 30, 31, 32, 33, 34, 35, 36, 37, 38, 39, 40, 41, 42, 43, 44, 45, 46, 47, 48, 49, 50, 51, 52, 53, 54, 55, 56, 57, 58, 59, 60, 61, 62, 63, 64, 65, 66, 67, 68, 69, 70, 71, 72, 73, 74, 75, 76, 77, 78, 79, 80, 81, 82, 83, 84, 85, 86, 87, 88, 89, 90, 91, 92, 93, 94, 95, 96, 97, 98, 99, 100, 101, 102, 103, 104] (by decide +kernel) (by decide +kernel)
set_option maxRecDepth 20000 in
theorem gX5_scene_X5_sweep : GoodIn wsX5_scene (wsV RX5 170 RX5 yX5_sweep wsX5_sweep) := goodIn_app (goodIn_of _ (by decide +kernel)) ggX5_scene_X5_sweep
theorem dX5_scene_0 : decode cX5_scene 0 = .ok (.aload_n 0, 1) := by decide +kernel
theorem dX5_scene_1 : decode cX5_scene 1 = .ok (.iconst 0, 1) := by decide +kernel
theorem dX5_scene_2 : decode cX5_scene 2 = .ok (.putfield 80, 3) := by decide +kernel
theorem dX5_scene_5 : decode cX5_scene 5 = .ok (.aload_n 0, 1) := by decide +kernel
theorem dX5_scene_6 : decode cX5_scene 6 = .ok (.invokevirtual 170, 3) := by decide +kernel
theorem dX5_scene_9 : decode cX5_scene 9 = .ok (.ireturn, 1) := by decide +kernel
set_option maxRecDepth 20000 in
theorem ggX5_dim_X5_isPlace : GoodIn wsX5_dim wsX5_isPlace := goodIn_r _ [7, 8, 9, 10, 6, 11, 76, 77, 78, 79, 80, 81, 82, 83, 84, 85, 86, 87, 88, 89, 90, 91, 92, 93, 94, 95, 96, 97, 98, 99, 100, 101, 102, 103, 104, 105, 106, 107, 108, 109, 110, 111] (by decide +kernel) (by decide +kernel)
set_option maxRecDepth 20000 in
theorem gX5_dim_X5_isPlace : GoodIn wsX5_dim (wsV RX5 104 RX5 yX5_isPlace wsX5_isPlace) := goodIn_app (goodIn_of _ (by decide +kernel)) ggX5_dim_X5_isPlace
set_option maxRecDepth 20000 in
theorem ggX5_dim_X5_sweep : GoodIn wsX5_dim wsX5_sweep := goodIn_r _ [15, 2, 8, 16, 17, 18, 6, 19, 20, 21, 22, 23, 24, 25, 26, 27, 28, 29, 30, 31, 32, 33, 34, 35, 36, 37, 38, 39, 40, 41, 42, 43, 44, 45, 46, 47, 48, 49, 50, 51, 52, 53, 54, 55, 56, 57, 58, 59, 60, 61, 62, 63, 64, 65, 66, 67, 68, 69, 70, 71, 72, 73, 74, 75, 76, 77, 78, 79, 80, 81, 82, 83, 84, 85, 86, 87, 88, 89, 90, 91, 92, 93, 94, 95, 96, 97, 98, 99, 100, 101, 102, 103, 104, 105, 106, 107, 108, 109, 110, 111] (by decide +kernel) (by decide +kernel)
set_option maxRecDepth 20000 in
theorem gX5_dim_X5_sweep : GoodIn wsX5_dim (wsV RX5 170 RX5 yX5_sweep wsX5_sweep) := goodIn_app (goodIn_of _ (by decide +kernel)) ggX5_dim_X5_sweep
set_option maxRecDepth 20000 in
theorem ggX5_dim_X5_hasLamp : GoodIn wsX5_dim wsX5_hasLamp := goodIn_r _ [64, 21, 56, 76, 77, 78, 79, 80, 81, 82, 83, 84, 85, 86, 87, 88, 89, 90, 91, 92, 93, 94, 95, 96, 97, 98, 99, 100, 101, 102, 103, 104, 105, 106, 107, 108, 109, 110, 111] (by decide +kernel) (by decide +kernel)
set_option maxRecDepth 20000 in
theorem gX5_dim_X5_hasLamp : GoodIn wsX5_dim (wsV RX5 158 RX5 yX5_hasLamp wsX5_hasLamp) := goodIn_app (goodIn_of _ (by decide +kernel)) ggX5_dim_X5_hasLamp
theorem dX5_dim_0 : decode cX5_dim 0 = .ok (.aload_n 0, 1) := by decide +kernel
theorem dX5_dim_1 : decode cX5_dim 1 = .ok (.aload_n 0, 1) := by decide +kernel
theorem dX5_dim_2 : decode cX5_dim 2 = .ok (.iload_n 1, 1) := by decide +kernel
theorem dX5_dim_3 : decode cX5_dim 3 = .ok (.invokevirtual 104, 3) := by decide +kernel
theorem dX5_dim_6 : decode cX5_dim 6 = .ok (.ifCond .eq 7, 3) := by decide +kernel
theorem dX5_dim_9 : decode cX5_dim 9 = .ok (.iconst 0, 1) := by decide +kernel
theorem dX5_dim_10 : decode cX5_dim 10 = .ok (.goto 4, 3) := by decide +kernel
theorem dX5_dim_13 : decode cX5_dim 13 = .ok (.iconst 1, 1) := by decide +kernel
theorem dX5_dim_14 : decode cX5_dim 14 = .ok (.putfield 80, 3) := by decide +kernel
theorem dX5_dim_17 : decode cX5_dim 17 = .ok (.aload_n 0, 1) := by decide +kernel
theorem dX5_dim_18 : decode cX5_dim 18 = .ok (.getfield 80, 3) := by decide +kernel
theorem dX5_dim_21 : decode cX5_dim 21 = .ok (.ifCond .le 5, 3) := by decide +kernel
theorem dX5_dim_24 : decode cX5_dim 24 = .ok (.iconst 0, 1) := by decide +kernel
theorem dX5_dim_25 : decode cX5_dim 25 = .ok (.ireturn, 1) := by decide +kernel
theorem dX5_dim_26 : decode cX5_dim 26 = .ok (.aload_n 0, 1) := by decide +kernel
theorem dX5_dim_27 : decode cX5_dim 27 = .ok (.invokevirtual 170, 3) := by decide +kernel
theorem dX5_dim_30 : decode cX5_dim 30 = .ok (.pop, 1) := by decide +kernel
theorem dX5_dim_31 : decode cX5_dim 31 = .ok (.aload_n 0, 1) := by decide +kernel
theorem dX5_dim_32 : decode cX5_dim 32 = .ok (.iload_n 1, 1) := by decide +kernel
theorem dX5_dim_33 : decode cX5_dim 33 = .ok (.invokevirtual 158, 3) := by decide +kernel
theorem dX5_dim_36 : decode cX5_dim 36 = .ok (.ifCond .eq 12, 3) := by decide +kernel
theorem dX5_dim_39 : decode cX5_dim 39 = .ok (.aload_n 0, 1) := by decide +kernel
theorem dX5_dim_40 : decode cX5_dim 40 = .ok (.getfield 71, 3) := by decide +kernel
theorem dX5_dim_43 : decode cX5_dim 43 = .ok (.iload_n 1, 1) := by decide +kernel
theorem dX5_dim_44 : decode cX5_dim 44 = .ok (.iaload, 1) := by decide +kernel
theorem dX5_dim_45 : decode cX5_dim 45 = .ok (.goto 4, 3) := by decide +kernel
theorem dX5_dim_48 : decode cX5_dim 48 = .ok (.iconst (-1), 1) := by decide +kernel
theorem dX5_dim_49 : decode cX5_dim 49 = .ok (.ireturn, 1) := by decide +kernel
set_option maxRecDepth 20000 in
theorem ggX5_miss_X5_isPoint : GoodIn wsX5_miss wsX5_isPoint := goodIn_r _ [6, 7, 8, 9, 5, 10, 76, 77, 78, 79, 80, 81, 82, 83, 84, 85, 86, 87, 88, 89, 90, 91, 92, 93, 94, 95, 96, 97, 98, 99, 100, 101, 102, 103, 104, 105, 106, 107, 108, 109, 110, 111] (by decide +kernel) (by decide +kernel)
set_option maxRecDepth 20000 in
theorem gX5_miss_X5_isPoint : GoodIn wsX5_miss (wsV RX5 111 RX5 yX5_isPoint wsX5_isPoint) := goodIn_app (goodIn_of _ (by decide +kernel)) ggX5_miss_X5_isPoint
set_option maxRecDepth 20000 in
theorem ggX5_miss_X5_sweep : GoodIn wsX5_miss wsX5_sweep := goodIn_r _ [14, 15, 16, 17, 18, 19, 5, 20, 21, 22, 23, 7, 24, 25, 26, 27, 28, 29, 30, 31, 32, 33, 34, 35, 36, 37, 38, 39, 40, 41, 42, 43, 44, 45, 46, 47, 48, 49, 50, 51, 52, 53, 54, 55, 56, 57, 58, 59, 60, 61, 62, 63, 64, 65, 66, 67, 68, 69, 70, 71, 72, 73, 74, 75, 76, 77, 78, 79, 80, 81, 82, 83, 84, 85, 86, 87, 88, 89, 90, 91, 92, 93, 94, 95, 96, 97, 98, 99, 100, 101, 102, 103, 104, 105, 106, 107, 108, 109, 110, 111] (by decide +kernel) (by decide +kernel)
set_option maxRecDepth 20000 in
theorem gX5_miss_X5_sweep : GoodIn wsX5_miss (wsV RX5 170 RX5 yX5_sweep wsX5_sweep) := goodIn_app (goodIn_of _ (by decide +kernel)) ggX5_miss_X5_sweep
set_option maxRecDepth 20000 in
theorem ggX5_miss_X5_missOf : GoodIn wsX5_miss wsX5_missOf := goodIn_r _ [73, 74, 75, 16, 56, 15, 61, 62, 63, 5, 64, 22, 27, 28, 29, 30, 31, 32, 33, 34, 35, 36, 76, 77, 78, 79, 80, 81, 82, 83, 84, 85, 86, 87, 88, 89, 90, 91, 92, 93, 94, 95, 96, 97, 98, 99, 100, 101, 102, 103, 104, 105, 106, 107, 108, 109, 110, 111] (by decide +kernel) (by decide +kernel)
set_option maxRecDepth 20000 in
theorem gX5_miss_X5_missOf : GoodIn wsX5_miss (wsV RX5 161 RX5 yX5_missOf wsX5_missOf) := goodIn_app (goodIn_of _ (by decide +kernel)) ggX5_miss_X5_missOf
theorem dX5_miss_0 : decode cX5_miss 0 = .ok (.aload_n 0, 1) := by decide +kernel
theorem dX5_miss_1 : decode cX5_miss 1 = .ok (.aload_n 0, 1) := by decide +kernel
theorem dX5_miss_2 : decode cX5_miss 2 = .ok (.iload_n 1, 1) := by decide +kernel
theorem dX5_miss_3 : decode cX5_miss 3 = .ok (.invokevirtual 111, 3) := by decide +kernel
theorem dX5_miss_6 : decode cX5_miss 6 = .ok (.ifCond .eq 7, 3) := by decide +kernel
theorem dX5_miss_9 : decode cX5_miss 9 = .ok (.iconst 0, 1) := by decide +kernel
theorem dX5_miss_10 : decode cX5_miss 10 = .ok (.goto 4, 3) := by decide +kernel
theorem dX5_miss_13 : decode cX5_miss 13 = .ok (.iconst 1, 1) := by decide +kernel
theorem dX5_miss_14 : decode cX5_miss 14 = .ok (.putfield 80, 3) := by decide +kernel
theorem dX5_miss_17 : decode cX5_miss 17 = .ok (.aload_n 0, 1) := by decide +kernel
theorem dX5_miss_18 : decode cX5_miss 18 = .ok (.getfield 80, 3) := by decide +kernel
theorem dX5_miss_21 : decode cX5_miss 21 = .ok (.ifCond .le 5, 3) := by decide +kernel
theorem dX5_miss_24 : decode cX5_miss 24 = .ok (.lconst 0, 1) := by decide +kernel
theorem dX5_miss_25 : decode cX5_miss 25 = .ok (.lreturn, 1) := by decide +kernel
theorem dX5_miss_26 : decode cX5_miss 26 = .ok (.aload_n 0, 1) := by decide +kernel
theorem dX5_miss_27 : decode cX5_miss 27 = .ok (.invokevirtual 170, 3) := by decide +kernel
theorem dX5_miss_30 : decode cX5_miss 30 = .ok (.pop, 1) := by decide +kernel
theorem dX5_miss_31 : decode cX5_miss 31 = .ok (.aload_n 0, 1) := by decide +kernel
theorem dX5_miss_32 : decode cX5_miss 32 = .ok (.iload_n 1, 1) := by decide +kernel
theorem dX5_miss_33 : decode cX5_miss 33 = .ok (.invokevirtual 161, 3) := by decide +kernel
theorem dX5_miss_36 : decode cX5_miss 36 = .ok (.lreturn, 1) := by decide +kernel
set_option maxRecDepth 20000 in
theorem ggX5_sensor_X5_isPlace : GoodIn wsX5_sensor wsX5_isPlace := goodIn_r _ [7, 8, 9, 10, 6, 11, 24, 25, 26, 27, 28, 29, 30, 31, 32, 33, 34, 35, 36, 37, 38, 39, 40, 41, 42, 43, 44, 45, 46, 47, 48, 49, 50, 51, 52, 53, 54, 55, 56, 57, 58, 59] (by decide +kernel) (by decide +kernel)
set_option maxRecDepth 20000 in
theorem gX5_sensor_X5_isPlace : GoodIn wsX5_sensor (wsV RX5 104 RX5 yX5_isPlace wsX5_isPlace) := goodIn_app (goodIn_of _ (by decide +kernel)) ggX5_sensor_X5_isPlace
set_option maxRecDepth 20000 in
theorem ggX5_sensor_X5_isPoint : GoodIn wsX5_sensor wsX5_isPoint := goodIn_r _ [15, 16, 9, 10, 6, 11, 24, 25, 26, 27, 28, 29, 30, 31, 32, 33, 34, 35, 36, 37, 38, 39, 40, 41, 42, 43, 44, 45, 46, 47, 48, 49, 50, 51, 52, 53, 54, 55, 56, 57, 58, 59] (by decide +kernel) (by decide +kernel)
set_option maxRecDepth 20000 in
theorem gX5_sensor_X5_isPoint : GoodIn wsX5_sensor (wsV RX5 111 RX5 yX5_isPoint wsX5_isPoint) := goodIn_app (goodIn_of _ (by decide +kernel)) ggX5_sensor_X5_isPoint
set_option maxRecDepth 20000 in
theorem ggX5_sensor_X5_renew : GoodIn wsX5_sensor wsX5_renew := goodIn_r _ [20, 21, 22, 23, 24, 25, 26, 27, 28, 29, 30, 31, 32, 33, 34, 35, 36, 37, 38, 39, 40, 41, 42, 43, 44, 45, 46, 47, 48, 49, 50, 51, 52, 53, 54, 55, 56, 57, 58, 59] (by decide +kernel) (by decide +kernel)
set_option maxRecDepth 20000 in
theorem gX5_sensor_X5_renew : GoodIn wsX5_sensor (wsV RX5 101 RX5 yX5_renew wsX5_renew) := goodIn_app (goodIn_of _ (by decide +kernel)) ggX5_sensor_X5_renew
theorem dX5_sensor_0 : decode cX5_sensor 0 = .ok (.aload_n 0, 1) := by decide +kernel
theorem dX5_sensor_1 : decode cX5_sensor 1 = .ok (.aload_n 0, 1) := by decide +kernel
theorem dX5_sensor_2 : decode cX5_sensor 2 = .ok (.iload_n 1, 1) := by decide +kernel
theorem dX5_sensor_3 : decode cX5_sensor 3 = .ok (.invokevirtual 104, 3) := by decide +kernel
theorem dX5_sensor_6 : decode cX5_sensor 6 = .ok (.ifCond .eq 20, 3) := by decide +kernel
theorem dX5_sensor_9 : decode cX5_sensor 9 = .ok (.aload_n 0, 1) := by decide +kernel
theorem dX5_sensor_10 : decode cX5_sensor 10 = .ok (.iload_n 2, 1) := by decide +kernel
theorem dX5_sensor_11 : decode cX5_sensor 11 = .ok (.invokevirtual 111, 3) := by decide +kernel
theorem dX5_sensor_14 : decode cX5_sensor 14 = .ok (.ifCond .ne 8, 3) := by decide +kernel
theorem dX5_sensor_17 : decode cX5_sensor 17 = .ok (.iload_n 2, 1) := by decide +kernel
theorem dX5_sensor_18 : decode cX5_sensor 18 = .ok (.iconst (-1), 1) := by decide +kernel
theorem dX5_sensor_19 : decode cX5_sensor 19 = .ok (.if_icmp .ne 7, 3) := by decide +kernel
theorem dX5_sensor_22 : decode cX5_sensor 22 = .ok (.iconst 0, 1) := by decide +kernel
theorem dX5_sensor_23 : decode cX5_sensor 23 = .ok (.goto 4, 3) := by decide +kernel
theorem dX5_sensor_26 : decode cX5_sensor 26 = .ok (.iconst 1, 1) := by decide +kernel
theorem dX5_sensor_27 : decode cX5_sensor 27 = .ok (.putfield 80, 3) := by decide +kernel
theorem dX5_sensor_30 : decode cX5_sensor 30 = .ok (.aload_n 0, 1) := by decide +kernel
theorem dX5_sensor_31 : decode cX5_sensor 31 = .ok (.getfield 80, 3) := by decide +kernel
theorem dX5_sensor_34 : decode cX5_sensor 34 = .ok (.ifCond .ne 14, 3) := by decide +kernel
theorem dX5_sensor_37 : decode cX5_sensor 37 = .ok (.aload_n 0, 1) := by decide +kernel
theorem dX5_sensor_38 : decode cX5_sensor 38 = .ok (.getfield 31, 3) := by decide +kernel
theorem dX5_sensor_41 : decode cX5_sensor 41 = .ok (.iload_n 1, 1) := by decide +kernel
theorem dX5_sensor_42 : decode cX5_sensor 42 = .ok (.iload_n 2, 1) := by decide +kernel
theorem dX5_sensor_43 : decode cX5_sensor 43 = .ok (.iastore, 1) := by decide +kernel
theorem dX5_sensor_44 : decode cX5_sensor 44 = .ok (.aload_n 0, 1) := by decide +kernel
theorem dX5_sensor_45 : decode cX5_sensor 45 = .ok (.invokevirtual 101, 3) := by decide +kernel
theorem dX5_sensor_48 : decode cX5_sensor 48 = .ok (.return_, 1) := by decide +kernel
set_option maxRecDepth 20000 in
theorem ggX5_daylight_X5_isPoint : GoodIn wsX5_daylight wsX5_isPoint := goodIn_r _ [8, 9, 10, 11, 7, 12, 13, 14, 15, 16, 17, 18, 19, 20, 21, 22, 23, 24, 25, 26, 27, 28, 29, 30, 31, 32, 33, 34, 35, 36, 37, 38, 39, 40, 41, 42, 43, 44, 45, 46, 47, 48] (by decide +kernel) (by decide +kernel)
set_option maxRecDepth 20000 in
theorem gX5_daylight_X5_isPoint : GoodIn wsX5_daylight (wsV RX5 111 RX5 yX5_isPoint wsX5_isPoint) := goodIn_app (goodIn_of _ (by decide +kernel)) ggX5_daylight_X5_isPoint
set_option maxRecDepth 20000 in
theorem ggX5_daylight_X5_isIn : GoodIn wsX5_daylight wsX5_isIn := goodIn_r _ [12] (by decide +kernel) (by decide +kernel)
set_option maxRecDepth 20000 in
theorem gX5_daylight_X5_isIn : GoodIn wsX5_daylight (va_wsS RX5 86 yX5_isIn wsX5_isIn) := goodIn_app (goodIn_of _ (by decide +kernel)) ggX5_daylight_X5_isIn
theorem dX5_daylight_0 : decode cX5_daylight 0 = .ok (.aload_n 0, 1) := by decide +kernel
theorem dX5_daylight_1 : decode cX5_daylight 1 = .ok (.aload_n 0, 1) := by decide +kernel
theorem dX5_daylight_2 : decode cX5_daylight 2 = .ok (.iload_n 1, 1) := by decide +kernel
theorem dX5_daylight_3 : decode cX5_daylight 3 = .ok (.invokevirtual 111, 3) := by decide +kernel
theorem dX5_daylight_6 : decode cX5_daylight 6 = .ok (.ifCond .eq 17, 3) := by decide +kernel
theorem dX5_daylight_9 : decode cX5_daylight 9 = .ok (.iload_n 2, 1) := by decide +kernel
theorem dX5_daylight_10 : decode cX5_daylight 10 = .ok (.iconst 0, 1) := by decide +kernel
theorem dX5_daylight_11 : decode cX5_daylight 11 = .ok (.ldc 100, 2) := by decide +kernel
theorem dX5_daylight_13 : decode cX5_daylight 13 = .ok (.invokestatic 86, 3) := by decide +kernel
theorem dX5_daylight_16 : decode cX5_daylight 16 = .ok (.ifCond .eq 7, 3) := by decide +kernel
theorem dX5_daylight_19 : decode cX5_daylight 19 = .ok (.iconst 0, 1) := by decide +kernel
theorem dX5_daylight_20 : decode cX5_daylight 20 = .ok (.goto 4, 3) := by decide +kernel
theorem dX5_daylight_23 : decode cX5_daylight 23 = .ok (.iconst 1, 1) := by decide +kernel
theorem dX5_daylight_24 : decode cX5_daylight 24 = .ok (.putfield 80, 3) := by decide +kernel
theorem dX5_daylight_27 : decode cX5_daylight 27 = .ok (.aload_n 0, 1) := by decide +kernel
theorem dX5_daylight_28 : decode cX5_daylight 28 = .ok (.getfield 80, 3) := by decide +kernel
theorem dX5_daylight_31 : decode cX5_daylight 31 = .ok (.ifCond .le 5, 3) := by decide +kernel
theorem dX5_daylight_34 : decode cX5_daylight 34 = .ok (.iconst 0, 1) := by decide +kernel
theorem dX5_daylight_35 : decode cX5_daylight 35 = .ok (.ireturn, 1) := by decide +kernel
theorem dX5_daylight_36 : decode cX5_daylight 36 = .ok (.aload_n 0, 1) := by decide +kernel
theorem dX5_daylight_37 : decode cX5_daylight 37 = .ok (.getfield 46, 3) := by decide +kernel
theorem dX5_daylight_40 : decode cX5_daylight 40 = .ok (.iload_n 1, 1) := by decide +kernel
theorem dX5_daylight_41 : decode cX5_daylight 41 = .ok (.iaload, 1) := by decide +kernel
theorem dX5_daylight_42 : decode cX5_daylight 42 = .ok (.istore_n 3, 1) := by decide +kernel
theorem dX5_daylight_43 : decode cX5_daylight 43 = .ok (.aload_n 0, 1) := by decide +kernel
theorem dX5_daylight_44 : decode cX5_daylight 44 = .ok (.getfield 46, 3) := by decide +kernel
theorem dX5_daylight_47 : decode cX5_daylight 47 = .ok (.iload_n 1, 1) := by decide +kernel
theorem dX5_daylight_48 : decode cX5_daylight 48 = .ok (.iload_n 2, 1) := by decide +kernel
theorem dX5_daylight_49 : decode cX5_daylight 49 = .ok (.iastore, 1) := by decide +kernel
theorem dX5_daylight_50 : decode cX5_daylight 50 = .ok (.iload_n 3, 1) := by decide +kernel
theorem dX5_daylight_51 : decode cX5_daylight 51 = .ok (.ireturn, 1) := by decide +kernel
set_option maxRecDepth 20000 in
theorem ggX5_step_X5_isIn : GoodIn wsX5_step wsX5_isIn := goodIn_r _ [6] (by decide +kernel) (by decide +kernel)
set_option maxRecDepth 20000 in
theorem gX5_step_X5_isIn : GoodIn wsX5_step (va_wsS RX5 86 yX5_isIn wsX5_isIn) := goodIn_app (goodIn_of _ (by decide +kernel)) ggX5_step_X5_isIn
theorem dX5_step_0 : decode cX5_step 0 = .ok (.aload_n 0, 1) := by decide +kernel
theorem dX5_step_1 : decode cX5_step 1 = .ok (.iload_n 1, 1) := by decide +kernel
theorem dX5_step_2 : decode cX5_step 2 = .ok (.iconst 1, 1) := by decide +kernel
theorem dX5_step_3 : decode cX5_step 3 = .ok (.bipush 100, 2) := by decide +kernel
theorem dX5_step_5 : decode cX5_step 5 = .ok (.invokestatic 86, 3) := by decide +kernel
theorem dX5_step_8 : decode cX5_step 8 = .ok (.ifCond .eq 7, 3) := by decide +kernel
theorem dX5_step_11 : decode cX5_step 11 = .ok (.iconst 0, 1) := by decide +kernel
theorem dX5_step_12 : decode cX5_step 12 = .ok (.goto 4, 3) := by decide +kernel
theorem dX5_step_15 : decode cX5_step 15 = .ok (.iconst 1, 1) := by decide +kernel
theorem dX5_step_16 : decode cX5_step 16 = .ok (.putfield 80, 3) := by decide +kernel
theorem dX5_step_19 : decode cX5_step 19 = .ok (.aload_n 0, 1) := by decide +kernel
theorem dX5_step_20 : decode cX5_step 20 = .ok (.getfield 80, 3) := by decide +kernel
theorem dX5_step_23 : decode cX5_step 23 = .ok (.ifCond .le 5, 3) := by decide +kernel
theorem dX5_step_26 : decode cX5_step 26 = .ok (.iconst 0, 1) := by decide +kernel
theorem dX5_step_27 : decode cX5_step 27 = .ok (.ireturn, 1) := by decide +kernel
theorem dX5_step_28 : decode cX5_step 28 = .ok (.aload_n 0, 1) := by decide +kernel
theorem dX5_step_29 : decode cX5_step 29 = .ok (.getfield 53, 3) := by decide +kernel
theorem dX5_step_32 : decode cX5_step 32 = .ok (.istore_n 2, 1) := by decide +kernel
theorem dX5_step_33 : decode cX5_step 33 = .ok (.aload_n 0, 1) := by decide +kernel
theorem dX5_step_34 : decode cX5_step 34 = .ok (.iload_n 1, 1) := by decide +kernel
theorem dX5_step_35 : decode cX5_step 35 = .ok (.putfield 53, 3) := by decide +kernel
theorem dX5_step_38 : decode cX5_step 38 = .ok (.iload_n 2, 1) := by decide +kernel
theorem dX5_step_39 : decode cX5_step 39 = .ok (.ireturn, 1) := by decide +kernel
set_option maxRecDepth 20000 in
theorem ggX5_needOf_X5_lightOf : GoodIn wsX5_needOf wsX5_lightOf := goodIn_r _ [10, 11, 12, 13, 14, 15, 16, 17, 18, 19, 20, 21, 22, 23, 24, 25, 26, 27, 28, 29, 30, 31, 32, 33, 34, 35, 36, 37, 38, 39, 40, 41, 42, 43, 44, 45, 46, 47, 48, 49, 50, 51, 52] (by decide +kernel) (by decide +kernel)
set_option maxRecDepth 20000 in
theorem gX5_needOf_X5_lightOf : GoodIn wsX5_needOf (wsV RX5 114 RX5 yX5_lightOf wsX5_lightOf) := goodIn_app (goodIn_of _ (by decide +kernel)) ggX5_needOf_X5_lightOf
theorem dX5_needOf_0 : decode cX5_needOf 0 = .ok (.aload_n 0, 1) := by decide +kernel
theorem dX5_needOf_1 : decode cX5_needOf 1 = .ok (.getfield 31, 3) := by decide +kernel
theorem dX5_needOf_4 : decode cX5_needOf 4 = .ok (.iload_n 1, 1) := by decide +kernel
theorem dX5_needOf_5 : decode cX5_needOf 5 = .ok (.iaload, 1) := by decide +kernel
theorem dX5_needOf_6 : decode cX5_needOf 6 = .ok (.istore_n 2, 1) := by decide +kernel
theorem dX5_needOf_7 : decode cX5_needOf 7 = .ok (.iload_n 2, 1) := by decide +kernel
theorem dX5_needOf_8 : decode cX5_needOf 8 = .ok (.ifCond .ge 6, 3) := by decide +kernel
theorem dX5_needOf_11 : decode cX5_needOf 11 = .ok (.bipush 100, 2) := by decide +kernel
theorem dX5_needOf_13 : decode cX5_needOf 13 = .ok (.ireturn, 1) := by decide +kernel
theorem dX5_needOf_14 : decode cX5_needOf 14 = .ok (.aload_n 0, 1) := by decide +kernel
theorem dX5_needOf_15 : decode cX5_needOf 15 = .ok (.aload_n 0, 1) := by decide +kernel
theorem dX5_needOf_16 : decode cX5_needOf 16 = .ok (.getfield 56, 3) := by decide +kernel
theorem dX5_needOf_19 : decode cX5_needOf 19 = .ok (.iload_n 1, 1) := by decide +kernel
theorem dX5_needOf_20 : decode cX5_needOf 20 = .ok (.iaload, 1) := by decide +kernel
theorem dX5_needOf_21 : decode cX5_needOf 21 = .ok (.iload_n 1, 1) := by decide +kernel
theorem dX5_needOf_22 : decode cX5_needOf 22 = .ok (.iload_n 2, 1) := by decide +kernel
theorem dX5_needOf_23 : decode cX5_needOf 23 = .ok (.invokevirtual 114, 3) := by decide +kernel
theorem dX5_needOf_26 : decode cX5_needOf 26 = .ok (.i2l, 1) := by decide +kernel
theorem dX5_needOf_27 : decode cX5_needOf 27 = .ok (.lstore_n 3, 1) := by decide +kernel
theorem dX5_needOf_28 : decode cX5_needOf 28 = .ok (.iconst 0, 1) := by decide +kernel
theorem dX5_needOf_29 : decode cX5_needOf 29 = .ok (.istore 5, 2) := by decide +kernel
theorem dX5_needOf_31 : decode cX5_needOf 31 = .ok (.iload 5, 2) := by decide +kernel
theorem dX5_needOf_33 : decode cX5_needOf 33 = .ok (.bipush 100, 2) := by decide +kernel
theorem dX5_needOf_35 : decode cX5_needOf 35 = .ok (.if_icmp .ge 37, 3) := by decide +kernel
theorem dX5_needOf_38 : decode cX5_needOf 38 = .ok (.aload_n 0, 1) := by decide +kernel
theorem dX5_needOf_39 : decode cX5_needOf 39 = .ok (.getfield 46, 3) := by decide +kernel
theorem dX5_needOf_42 : decode cX5_needOf 42 = .ok (.iload_n 2, 1) := by decide +kernel
theorem dX5_needOf_43 : decode cX5_needOf 43 = .ok (.iaload, 1) := by decide +kernel
theorem dX5_needOf_44 : decode cX5_needOf 44 = .ok (.i2l, 1) := by decide +kernel
theorem dX5_needOf_45 : decode cX5_needOf 45 = .ok (.lload_n 3, 1) := by decide +kernel
theorem dX5_needOf_46 : decode cX5_needOf 46 = .ok (.iload 5, 2) := by decide +kernel
theorem dX5_needOf_48 : decode cX5_needOf 48 = .ok (.i2l, 1) := by decide +kernel
theorem dX5_needOf_49 : decode cX5_needOf 49 = .ok (.lmul, 1) := by decide +kernel
theorem dX5_needOf_50 : decode cX5_needOf 50 = .ok (.ldc2_w 156, 3) := by decide +kernel
theorem dX5_needOf_53 : decode cX5_needOf 53 = .ok (.ldiv, 1) := by decide +kernel
theorem dX5_needOf_54 : decode cX5_needOf 54 = .ok (.ladd, 1) := by decide +kernel
theorem dX5_needOf_55 : decode cX5_needOf 55 = .ok (.aload_n 0, 1) := by decide +kernel
theorem dX5_needOf_56 : decode cX5_needOf 56 = .ok (.getfield 40, 3) := by decide +kernel
theorem dX5_needOf_59 : decode cX5_needOf 59 = .ok (.iload_n 2, 1) := by decide +kernel
theorem dX5_needOf_60 : decode cX5_needOf 60 = .ok (.iaload, 1) := by decide +kernel
theorem dX5_needOf_61 : decode cX5_needOf 61 = .ok (.i2l, 1) := by decide +kernel
theorem dX5_needOf_62 : decode cX5_needOf 62 = .ok (.lcmp, 1) := by decide +kernel
theorem dX5_needOf_63 : decode cX5_needOf 63 = .ok (.ifCond .ge 9, 3) := by decide +kernel
theorem dX5_needOf_66 : decode cX5_needOf 66 = .ok (.iinc 5 1, 3) := by decide +kernel
theorem dX5_needOf_69 : decode cX5_needOf 69 = .ok (.goto (-38), 3) := by decide +kernel
theorem dX5_needOf_72 : decode cX5_needOf 72 = .ok (.iload 5, 2) := by decide +kernel
theorem dX5_needOf_74 : decode cX5_needOf 74 = .ok (.ireturn, 1) := by decide +kernel
theorem dX5_minute_0 : decode cX5_minute 0 = .ok (.aload_n 0, 1) := by decide +kernel
theorem dX5_minute_1 : decode cX5_minute 1 = .ok (.getfield 56, 3) := by decide +kernel
theorem dX5_minute_4 : decode cX5_minute 4 = .ok (.iload_n 1, 1) := by decide +kernel
theorem dX5_minute_5 : decode cX5_minute 5 = .ok (.iaload, 1) := by decide +kernel
theorem dX5_minute_6 : decode cX5_minute 6 = .ok (.istore_n 3, 1) := by decide +kernel
theorem dX5_minute_7 : decode cX5_minute 7 = .ok (.iload_n 2, 1) := by decide +kernel
theorem dX5_minute_8 : decode cX5_minute 8 = .ok (.aload_n 0, 1) := by decide +kernel
theorem dX5_minute_9 : decode cX5_minute 9 = .ok (.getfield 74, 3) := by decide +kernel
theorem dX5_minute_12 : decode cX5_minute 12 = .ok (.iload_n 1, 1) := by decide +kernel
theorem dX5_minute_13 : decode cX5_minute 13 = .ok (.iaload, 1) := by decide +kernel
theorem dX5_minute_14 : decode cX5_minute 14 = .ok (.isub, 1) := by decide +kernel
theorem dX5_minute_15 : decode cX5_minute 15 = .ok (.istore 4, 2) := by decide +kernel
theorem dX5_minute_17 : decode cX5_minute 17 = .ok (.aload_n 0, 1) := by decide +kernel
theorem dX5_minute_18 : decode cX5_minute 18 = .ok (.getfield 74, 3) := by decide +kernel
theorem dX5_minute_21 : decode cX5_minute 21 = .ok (.iload_n 1, 1) := by decide +kernel
theorem dX5_minute_22 : decode cX5_minute 22 = .ok (.dup2, 1) := by decide +kernel
theorem dX5_minute_23 : decode cX5_minute 23 = .ok (.iaload, 1) := by decide +kernel
theorem dX5_minute_24 : decode cX5_minute 24 = .ok (.iload 4, 2) := by decide +kernel
theorem dX5_minute_26 : decode cX5_minute 26 = .ok (.aload_n 0, 1) := by decide +kernel
theorem dX5_minute_27 : decode cX5_minute 27 = .ok (.getfield 53, 3) := by decide +kernel
theorem dX5_minute_30 : decode cX5_minute 30 = .ok (.if_icmp .le 10, 3) := by decide +kernel
theorem dX5_minute_33 : decode cX5_minute 33 = .ok (.aload_n 0, 1) := by decide +kernel
theorem dX5_minute_34 : decode cX5_minute 34 = .ok (.getfield 53, 3) := by decide +kernel
theorem dX5_minute_37 : decode cX5_minute 37 = .ok (.goto 23, 3) := by decide +kernel
theorem dX5_minute_40 : decode cX5_minute 40 = .ok (.iload 4, 2) := by decide +kernel
theorem dX5_minute_42 : decode cX5_minute 42 = .ok (.aload_n 0, 1) := by decide +kernel
theorem dX5_minute_43 : decode cX5_minute 43 = .ok (.getfield 53, 3) := by decide +kernel
theorem dX5_minute_46 : decode cX5_minute 46 = .ok (.ineg, 1) := by decide +kernel
theorem dX5_minute_47 : decode cX5_minute 47 = .ok (.if_icmp .ge 11, 3) := by decide +kernel
theorem dX5_minute_50 : decode cX5_minute 50 = .ok (.aload_n 0, 1) := by decide +kernel
theorem dX5_minute_51 : decode cX5_minute 51 = .ok (.getfield 53, 3) := by decide +kernel
theorem dX5_minute_54 : decode cX5_minute 54 = .ok (.ineg, 1) := by decide +kernel
theorem dX5_minute_55 : decode cX5_minute 55 = .ok (.goto 5, 3) := by decide +kernel
theorem dX5_minute_58 : decode cX5_minute 58 = .ok (.iload 4, 2) := by decide +kernel
theorem dX5_minute_60 : decode cX5_minute 60 = .ok (.iadd, 1) := by decide +kernel
theorem dX5_minute_61 : decode cX5_minute 61 = .ok (.iastore, 1) := by decide +kernel
theorem dX5_minute_62 : decode cX5_minute 62 = .ok (.aload_n 0, 1) := by decide +kernel
theorem dX5_minute_63 : decode cX5_minute 63 = .ok (.getfield 74, 3) := by decide +kernel
theorem dX5_minute_66 : decode cX5_minute 66 = .ok (.iload_n 1, 1) := by decide +kernel
theorem dX5_minute_67 : decode cX5_minute 67 = .ok (.iaload, 1) := by decide +kernel
theorem dX5_minute_68 : decode cX5_minute 68 = .ok (.ifCond .le 64, 3) := by decide +kernel
theorem dX5_minute_71 : decode cX5_minute 71 = .ok (.aload_n 0, 1) := by decide +kernel
theorem dX5_minute_72 : decode cX5_minute 72 = .ok (.getfield 77, 3) := by decide +kernel
theorem dX5_minute_75 : decode cX5_minute 75 = .ok (.iload_n 1, 1) := by decide +kernel
theorem dX5_minute_76 : decode cX5_minute 76 = .ok (.iaload, 1) := by decide +kernel
theorem dX5_minute_77 : decode cX5_minute 77 = .ok (.bipush 60, 2) := by decide +kernel
theorem dX5_minute_79 : decode cX5_minute 79 = .ok (.aload_n 0, 1) := by decide +kernel
theorem dX5_minute_80 : decode cX5_minute 80 = .ok (.getfield 16, 3) := by decide +kernel
theorem dX5_minute_83 : decode cX5_minute 83 = .ok (.iload_n 3, 1) := by decide +kernel
theorem dX5_minute_84 : decode cX5_minute 84 = .ok (.iaload, 1) := by decide +kernel
theorem dX5_minute_85 : decode cX5_minute 85 = .ok (.imul, 1) := by decide +kernel
theorem dX5_minute_86 : decode cX5_minute 86 = .ok (.if_icmp .ne 36, 3) := by decide +kernel
theorem dX5_minute_89 : decode cX5_minute 89 = .ok (.aload_n 0, 1) := by decide +kernel
theorem dX5_minute_90 : decode cX5_minute 90 = .ok (.getfield 77, 3) := by decide +kernel
theorem dX5_minute_93 : decode cX5_minute 93 = .ok (.iload_n 1, 1) := by decide +kernel
theorem dX5_minute_94 : decode cX5_minute 94 = .ok (.iconst 0, 1) := by decide +kernel
theorem dX5_minute_95 : decode cX5_minute 95 = .ok (.iastore, 1) := by decide +kernel
theorem dX5_minute_96 : decode cX5_minute 96 = .ok (.aload_n 0, 1) := by decide +kernel
theorem dX5_minute_97 : decode cX5_minute 97 = .ok (.dup, 1) := by decide +kernel
theorem dX5_minute_98 : decode cX5_minute 98 = .ok (.getfield 173, 3) := by decide +kernel
