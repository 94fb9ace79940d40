theorem dX5_minute_101 : decode cX5_minute 101 = .ok (.aload_n 0, 1) := by decide +kernel
theorem dX5_minute_102 : decode cX5_minute 102 = .ok (.getfield 19, 3) := by decide +kernel
theorem dX5_minute_105 : decode cX5_minute 105 = .ok (.iload_n 3, 1) := by decide +kernel
theorem dX5_minute_106 : decode cX5_minute 106 = .ok (.iaload, 1) := by decide +kernel
theorem dX5_minute_107 : decode cX5_minute 107 = .ok (.i2l, 1) := by decide +kernel
theorem dX5_minute_108 : decode cX5_minute 108 = .ok (.ladd, 1) := by decide +kernel
theorem dX5_minute_109 : decode cX5_minute 109 = .ok (.putfield 173, 3) := by decide +kernel
theorem dX5_minute_112 : decode cX5_minute 112 = .ok (.aload_n 0, 1) := by decide +kernel
theorem dX5_minute_113 : decode cX5_minute 113 = .ok (.dup, 1) := by decide +kernel
theorem dX5_minute_114 : decode cX5_minute 114 = .ok (.getfield 176, 3) := by decide +kernel
theorem dX5_minute_117 : decode cX5_minute 117 = .ok (.lconst 1, 1) := by decide +kernel
theorem dX5_minute_118 : decode cX5_minute 118 = .ok (.ladd, 1) := by decide +kernel
theorem dX5_minute_119 : decode cX5_minute 119 = .ok (.putfield 176, 3) := by decide +kernel
theorem dX5_minute_122 : decode cX5_minute 122 = .ok (.aload_n 0, 1) := by decide +kernel
theorem dX5_minute_123 : decode cX5_minute 123 = .ok (.getfield 77, 3) := by decide +kernel
theorem dX5_minute_126 : decode cX5_minute 126 = .ok (.iload_n 1, 1) := by decide +kernel
theorem dX5_minute_127 : decode cX5_minute 127 = .ok (.dup2, 1) := by decide +kernel
theorem dX5_minute_128 : decode cX5_minute 128 = .ok (.iaload, 1) := by decide +kernel
theorem dX5_minute_129 : decode cX5_minute 129 = .ok (.iconst 1, 1) := by decide +kernel
theorem dX5_minute_130 : decode cX5_minute 130 = .ok (.iadd, 1) := by decide +kernel
theorem dX5_minute_131 : decode cX5_minute 131 = .ok (.iastore, 1) := by decide +kernel
theorem dX5_minute_132 : decode cX5_minute 132 = .ok (.aload_n 0, 1) := by decide +kernel
theorem dX5_minute_133 : decode cX5_minute 133 = .ok (.dup, 1) := by decide +kernel
theorem dX5_minute_134 : decode cX5_minute 134 = .ok (.getfield 179, 3) := by decide +kernel
theorem dX5_minute_137 : decode cX5_minute 137 = .ok (.aload_n 0, 1) := by decide +kernel
theorem dX5_minute_138 : decode cX5_minute 138 = .ok (.getfield 74, 3) := by decide +kernel
theorem dX5_minute_141 : decode cX5_minute 141 = .ok (.iload_n 1, 1) := by decide +kernel
theorem dX5_minute_142 : decode cX5_minute 142 = .ok (.iaload, 1) := by decide +kernel
theorem dX5_minute_143 : decode cX5_minute 143 = .ok (.i2l, 1) := by decide +kernel
theorem dX5_minute_144 : decode cX5_minute 144 = .ok (.aload_n 0, 1) := by decide +kernel
theorem dX5_minute_145 : decode cX5_minute 145 = .ok (.getfield 13, 3) := by decide +kernel
theorem dX5_minute_148 : decode cX5_minute 148 = .ok (.iload_n 3, 1) := by decide +kernel
theorem dX5_minute_149 : decode cX5_minute 149 = .ok (.iaload, 1) := by decide +kernel
theorem dX5_minute_150 : decode cX5_minute 150 = .ok (.i2l, 1) := by decide +kernel
theorem dX5_minute_151 : decode cX5_minute 151 = .ok (.lmul, 1) := by decide +kernel
theorem dX5_minute_152 : decode cX5_minute 152 = .ok (.ladd, 1) := by decide +kernel
theorem dX5_minute_153 : decode cX5_minute 153 = .ok (.putfield 179, 3) := by decide +kernel
theorem dX5_minute_156 : decode cX5_minute 156 = .ok (.return_, 1) := by decide +kernel
set_option maxRecDepth 20000 in
theorem ggX5_run_X5_isIn : GoodIn wsX5_run wsX5_isIn := goodIn_r _ [8] (by decide +kernel) (by decide +kernel)
set_option maxRecDepth 20000 in
theorem gX5_run_X5_isIn : GoodIn wsX5_run (va_wsS RX5 86 yX5_isIn wsX5_isIn) := goodIn_app (goodIn_of _ (by decide +kernel)) ggX5_run_X5_isIn
set_option maxRecDepth 20000 in
theorem ggX5_run_X5_findBest : GoodIn wsX5_run wsX5_findBest := goodIn_r _ [12, 13, 14, 15, 4, 16, 17, 18, 19, 20, 21, 22, 7, 23, 24, 25, 26, 27, 28, 29, 30, 31, 32, 33, 34, 35, 36, 37, 38, 39, 40, 41, 42, 43, 44, 45, 46, 47, 48, 49, 50, 51, 52, 53, 77, 78, 79, 80, 81, 82, 83, 84, 85, 86, 87, 88, 89, 90, 91, 92, 93, 94, 95, 96, 97, 98, 99, 100, 101, 102, 103, 104, 105, 106, 107, 108, 109, 110, 111, 112] (by decide +kernel) (by decide +kernel)
set_option maxRecDepth 20000 in
theorem gX5_run_X5_findBest : GoodIn wsX5_run (wsV RX5 146 RX5 yX5_findBest wsX5_findBest) := goodIn_app (goodIn_of _ (by decide +kernel)) ggX5_run_X5_findBest
set_option maxRecDepth 20000 in
theorem ggX5_run_X5_hasLamp : GoodIn wsX5_run wsX5_hasLamp := goodIn_r _ [57, 14, 49, 77, 78, 79, 80, 81, 82, 83, 84, 85, 86, 87, 88, 89, 90, 91, 92, 93, 94, 95, 96, 97, 98, 99, 100, 101, 102, 103, 104, 105, 106, 107, 108, 109, 110, 111, 112] (by decide +kernel) (by decide +kernel)
set_option maxRecDepth 20000 in
theorem gX5_run_X5_hasLamp : GoodIn wsX5_run (wsV RX5 158 RX5 yX5_hasLamp wsX5_hasLamp) := goodIn_app (goodIn_of _ (by decide +kernel)) ggX5_run_X5_hasLamp
set_option maxRecDepth 20000 in
theorem ggX5_run_X5_needOf : GoodIn wsX5_run wsX5_needOf := goodIn_r _ [61, 62, 49, 63, 64, 46, 20, 21, 22, 7, 23, 24, 25, 26, 27, 28, 29, 77, 78, 79, 80, 81, 82, 83, 84, 85, 86, 87, 88, 89, 90, 91, 92, 93, 94, 95, 96, 97, 98, 99, 100, 101, 102, 103, 104, 105, 106, 107, 108, 109, 110, 111, 112] (by decide +kernel) (by decide +kernel)
set_option maxRecDepth 20000 in
theorem gX5_run_X5_needOf : GoodIn wsX5_run (wsV RX5 185 RX5 yX5_needOf wsX5_needOf) := goodIn_app (goodIn_of _ (by decide +kernel)) ggX5_run_X5_needOf
set_option maxRecDepth 20000 in
theorem ggX5_run_X5_minute : GoodIn wsX5_run wsX5_minute := goodIn_r _ [68, 49, 69, 70, 71, 72, 73, 74, 75, 76, 40, 77, 78, 79, 80, 81, 82, 83, 84, 85, 86, 87, 88, 89, 90, 91, 92, 93, 94, 95, 96, 97, 98, 99, 100, 101, 102, 103, 104, 105, 106, 107, 108, 109, 110, 111, 112] (by decide +kernel) (by decide +kernel)
set_option maxRecDepth 20000 in
theorem gX5_run_X5_minute : GoodIn wsX5_run (wsV RX5 188 RX5 yX5_minute wsX5_minute) := goodIn_app (goodIn_of _ (by decide +kernel)) ggX5_run_X5_minute
theorem dX5_run_0 : decode cX5_run 0 = .ok (.aload_n 0, 1) := by decide +kernel
theorem dX5_run_1 : decode cX5_run 1 = .ok (.iload_n 1, 1) := by decide +kernel
theorem dX5_run_2 : decode cX5_run 2 = .ok (.iconst 1, 1) := by decide +kernel
theorem dX5_run_3 : decode cX5_run 3 = .ok (.sipush 10000, 3) := by decide +kernel
theorem dX5_run_6 : decode cX5_run 6 = .ok (.invokestatic 86, 3) := by decide +kernel
theorem dX5_run_9 : decode cX5_run 9 = .ok (.ifCond .ne 7, 3) := by decide +kernel
theorem dX5_run_12 : decode cX5_run 12 = .ok (.iconst 1, 1) := by decide +kernel
theorem dX5_run_13 : decode cX5_run 13 = .ok (.goto 19, 3) := by decide +kernel
theorem dX5_run_16 : decode cX5_run 16 = .ok (.aload_n 0, 1) := by decide +kernel
theorem dX5_run_17 : decode cX5_run 17 = .ok (.getfield 182, 3) := by decide +kernel
theorem dX5_run_20 : decode cX5_run 20 = .ok (.iload_n 1, 1) := by decide +kernel
theorem dX5_run_21 : decode cX5_run 21 = .ok (.iadd, 1) := by decide +kernel
theorem dX5_run_22 : decode cX5_run 22 = .ok (.ldc 155, 2) := by decide +kernel
theorem dX5_run_24 : decode cX5_run 24 = .ok (.if_icmp .le 7, 3) := by decide +kernel
theorem dX5_run_27 : decode cX5_run 27 = .ok (.iconst 2, 1) := by decide +kernel
theorem dX5_run_28 : decode cX5_run 28 = .ok (.goto 4, 3) := by decide +kernel
theorem dX5_run_31 : decode cX5_run 31 = .ok (.iconst 0, 1) := by decide +kernel
theorem dX5_run_32 : decode cX5_run 32 = .ok (.putfield 80, 3) := by decide +kernel
theorem dX5_run_35 : decode cX5_run 35 = .ok (.aload_n 0, 1) := by decide +kernel
theorem dX5_run_36 : decode cX5_run 36 = .ok (.getfield 80, 3) := by decide +kernel
theorem dX5_run_39 : decode cX5_run 39 = .ok (.ifCond .le 5, 3) := by decide +kernel
theorem dX5_run_42 : decode cX5_run 42 = .ok (.iconst 0, 1) := by decide +kernel
theorem dX5_run_43 : decode cX5_run 43 = .ok (.ireturn, 1) := by decide +kernel
theorem dX5_run_44 : decode cX5_run 44 = .ok (.aload_n 0, 1) := by decide +kernel
theorem dX5_run_45 : decode cX5_run 45 = .ok (.invokevirtual 146, 3) := by decide +kernel
theorem dX5_run_48 : decode cX5_run 48 = .ok (.iconst 0, 1) := by decide +kernel
theorem dX5_run_49 : decode cX5_run 49 = .ok (.istore_n 2, 1) := by decide +kernel
theorem dX5_run_50 : decode cX5_run 50 = .ok (.iload_n 2, 1) := by decide +kernel
theorem dX5_run_51 : decode cX5_run 51 = .ok (.aload_n 0, 1) := by decide +kernel
theorem dX5_run_52 : decode cX5_run 52 = .ok (.getfield 90, 3) := by decide +kernel
theorem dX5_run_55 : decode cX5_run 55 = .ok (.if_icmp .ge 44, 3) := by decide +kernel
theorem dX5_run_58 : decode cX5_run 58 = .ok (.aload_n 0, 1) := by decide +kernel
theorem dX5_run_59 : decode cX5_run 59 = .ok (.iload_n 2, 1) := by decide +kernel
theorem dX5_run_60 : decode cX5_run 60 = .ok (.invokevirtual 158, 3) := by decide +kernel
theorem dX5_run_63 : decode cX5_run 63 = .ok (.ifCond .eq 30, 3) := by decide +kernel
theorem dX5_run_66 : decode cX5_run 66 = .ok (.aload_n 0, 1) := by decide +kernel
theorem dX5_run_67 : decode cX5_run 67 = .ok (.iload_n 2, 1) := by decide +kernel
theorem dX5_run_68 : decode cX5_run 68 = .ok (.invokevirtual 185, 3) := by decide +kernel
theorem dX5_run_71 : decode cX5_run 71 = .ok (.istore_n 3, 1) := by decide +kernel
theorem dX5_run_72 : decode cX5_run 72 = .ok (.iconst 0, 1) := by decide +kernel
theorem dX5_run_73 : decode cX5_run 73 = .ok (.istore 4, 2) := by decide +kernel
theorem dX5_run_75 : decode cX5_run 75 = .ok (.iload 4, 2) := by decide +kernel
theorem dX5_run_77 : decode cX5_run 77 = .ok (.iload_n 1, 1) := by decide +kernel
theorem dX5_run_78 : decode cX5_run 78 = .ok (.if_icmp .ge 15, 3) := by decide +kernel
theorem dX5_run_81 : decode cX5_run 81 = .ok (.aload_n 0, 1) := by decide +kernel
theorem dX5_run_82 : decode cX5_run 82 = .ok (.iload_n 2, 1) := by decide +kernel
theorem dX5_run_83 : decode cX5_run 83 = .ok (.iload_n 3, 1) := by decide +kernel
theorem dX5_run_84 : decode cX5_run 84 = .ok (.invokevirtual 188, 3) := by decide +kernel
theorem dX5_run_87 : decode cX5_run 87 = .ok (.iinc 4 1, 3) := by decide +kernel
theorem dX5_run_90 : decode cX5_run 90 = .ok (.goto (-15), 3) := by decide +kernel
theorem dX5_run_93 : decode cX5_run 93 = .ok (.iinc 2 1, 3) := by decide +kernel
theorem dX5_run_96 : decode cX5_run 96 = .ok (.goto (-46), 3) := by decide +kernel
theorem dX5_run_99 : decode cX5_run 99 = .ok (.aload_n 0, 1) := by decide +kernel
theorem dX5_run_100 : decode cX5_run 100 = .ok (.dup, 1) := by decide +kernel
theorem dX5_run_101 : decode cX5_run 101 = .ok (.getfield 182, 3) := by decide +kernel
theorem dX5_run_104 : decode cX5_run 104 = .ok (.iload_n 1, 1) := by decide +kernel
theorem dX5_run_105 : decode cX5_run 105 = .ok (.iadd, 1) := by decide +kernel
theorem dX5_run_106 : decode cX5_run 106 = .ok (.putfield 182, 3) := by decide +kernel
theorem dX5_run_109 : decode cX5_run 109 = .ok (.aload_n 0, 1) := by decide +kernel
theorem dX5_run_110 : decode cX5_run 110 = .ok (.getfield 182, 3) := by decide +kernel
theorem dX5_run_113 : decode cX5_run 113 = .ok (.ireturn, 1) := by decide +kernel
set_option maxRecDepth 20000 in
theorem ggX5_own_X5_isPlace : GoodIn wsX5_own wsX5_isPlace := goodIn_r _ [8, 9, 10, 11, 7, 12, 62, 63, 64, 65, 66, 67, 68, 69, 70, 71, 72, 73, 74, 75, 76, 77, 78, 79, 80, 81, 82, 83, 84, 85, 86, 87, 88, 89, 90, 91, 92, 93, 94, 95, 96, 97] (by decide +kernel) (by decide +kernel)
set_option maxRecDepth 20000 in
theorem gX5_own_X5_isPlace : GoodIn wsX5_own (wsV RX5 104 RX5 yX5_isPlace wsX5_isPlace) := goodIn_app (goodIn_of _ (by decide +kernel)) ggX5_own_X5_isPlace
set_option maxRecDepth 20000 in
theorem ggX5_own_X5_isIn : GoodIn wsX5_own wsX5_isIn := goodIn_r _ [12] (by decide +kernel) (by decide +kernel)
set_option maxRecDepth 20000 in
theorem gX5_own_X5_isIn : GoodIn wsX5_own (va_wsS RX5 86 yX5_isIn wsX5_isIn) := goodIn_app (goodIn_of _ (by decide +kernel)) ggX5_own_X5_isIn
set_option maxRecDepth 20000 in
theorem ggX5_own_X5_findBest : GoodIn wsX5_own wsX5_findBest := goodIn_r _ [16, 17, 18, 19, 9, 20, 21, 22, 23, 24, 25, 26, 7, 27, 28, 29, 30, 31, 32, 33, 34, 35, 36, 37, 38, 39, 40, 41, 42, 43, 44, 45, 46, 47, 48, 49, 50, 51, 52, 53, 54, 55, 56, 57, 62, 63, 64, 65, 66, 67, 68, 69, 70, 71, 72, 73, 74, 75, 76, 77, 78, 79, 80, 81, 82, 83, 84, 85, 86, 87, 88, 89, 90, 91, 92, 93, 94, 95, 96, 97] (by decide +kernel) (by decide +kernel)
set_option maxRecDepth 20000 in
theorem gX5_own_X5_findBest : GoodIn wsX5_own (wsV RX5 146 RX5 yX5_findBest wsX5_findBest) := goodIn_app (goodIn_of _ (by decide +kernel)) ggX5_own_X5_findBest
set_option maxRecDepth 20000 in
theorem ggX5_own_X5_hasLamp : GoodIn wsX5_own wsX5_hasLamp := goodIn_r _ [61, 18, 53, 62, 63, 64, 65, 66, 67, 68, 69, 70, 71, 72, 73, 74, 75, 76, 77, 78, 79, 80, 81, 82, 83, 84, 85, 86, 87, 88, 89, 90, 91, 92, 93, 94, 95, 96, 97] (by decide +kernel) (by decide +kernel)
set_option maxRecDepth 20000 in
theorem gX5_own_X5_hasLamp : GoodIn wsX5_own (wsV RX5 158 RX5 yX5_hasLamp wsX5_hasLamp) := goodIn_app (goodIn_of _ (by decide +kernel)) ggX5_own_X5_hasLamp
theorem dX5_own_0 : decode cX5_own 0 = .ok (.aload_n 0, 1) := by decide +kernel
theorem dX5_own_1 : decode cX5_own 1 = .ok (.aload_n 0, 1) := by decide +kernel
theorem dX5_own_2 : decode cX5_own 2 = .ok (.iload_n 1, 1) := by decide +kernel
theorem dX5_own_3 : decode cX5_own 3 = .ok (.invokevirtual 104, 3) := by decide +kernel
theorem dX5_own_6 : decode cX5_own 6 = .ok (.ifCond .eq 16, 3) := by decide +kernel
theorem dX5_own_9 : decode cX5_own 9 = .ok (.iload_n 2, 1) := by decide +kernel
theorem dX5_own_10 : decode cX5_own 10 = .ok (.iconst 0, 1) := by decide +kernel
theorem dX5_own_11 : decode cX5_own 11 = .ok (.iconst 1, 1) := by decide +kernel
theorem dX5_own_12 : decode cX5_own 12 = .ok (.invokestatic 86, 3) := by decide +kernel
theorem dX5_own_15 : decode cX5_own 15 = .ok (.ifCond .eq 7, 3) := by decide +kernel
theorem dX5_own_18 : decode cX5_own 18 = .ok (.iconst 0, 1) := by decide +kernel
theorem dX5_own_19 : decode cX5_own 19 = .ok (.goto 4, 3) := by decide +kernel
theorem dX5_own_22 : decode cX5_own 22 = .ok (.iconst 1, 1) := by decide +kernel
theorem dX5_own_23 : decode cX5_own 23 = .ok (.putfield 80, 3) := by decide +kernel
theorem dX5_own_26 : decode cX5_own 26 = .ok (.aload_n 0, 1) := by decide +kernel
theorem dX5_own_27 : decode cX5_own 27 = .ok (.getfield 80, 3) := by decide +kernel
theorem dX5_own_30 : decode cX5_own 30 = .ok (.ifCond .le 5, 3) := by decide +kernel
theorem dX5_own_33 : decode cX5_own 33 = .ok (.iconst 0, 1) := by decide +kernel
theorem dX5_own_34 : decode cX5_own 34 = .ok (.ireturn, 1) := by decide +kernel
theorem dX5_own_35 : decode cX5_own 35 = .ok (.aload_n 0, 1) := by decide +kernel
theorem dX5_own_36 : decode cX5_own 36 = .ok (.invokevirtual 146, 3) := by decide +kernel
theorem dX5_own_39 : decode cX5_own 39 = .ok (.aload_n 0, 1) := by decide +kernel
theorem dX5_own_40 : decode cX5_own 40 = .ok (.iload_n 1, 1) := by decide +kernel
theorem dX5_own_41 : decode cX5_own 41 = .ok (.invokevirtual 158, 3) := by decide +kernel
theorem dX5_own_44 : decode cX5_own 44 = .ok (.ifCond .ne 7, 3) := by decide +kernel
theorem dX5_own_47 : decode cX5_own 47 = .ok (.iconst (-1), 1) := by decide +kernel
theorem dX5_own_48 : decode cX5_own 48 = .ok (.goto 22, 3) := by decide +kernel
theorem dX5_own_51 : decode cX5_own 51 = .ok (.iload_n 2, 1) := by decide +kernel
theorem dX5_own_52 : decode cX5_own 52 = .ok (.ifCond .ne 12, 3) := by decide +kernel
theorem dX5_own_55 : decode cX5_own 55 = .ok (.aload_n 0, 1) := by decide +kernel
theorem dX5_own_56 : decode cX5_own 56 = .ok (.getfield 74, 3) := by decide +kernel
theorem dX5_own_59 : decode cX5_own 59 = .ok (.iload_n 1, 1) := by decide +kernel
theorem dX5_own_60 : decode cX5_own 60 = .ok (.iaload, 1) := by decide +kernel
theorem dX5_own_61 : decode cX5_own 61 = .ok (.goto 9, 3) := by decide +kernel
theorem dX5_own_64 : decode cX5_own 64 = .ok (.aload_n 0, 1) := by decide +kernel
theorem dX5_own_65 : decode cX5_own 65 = .ok (.getfield 77, 3) := by decide +kernel
theorem dX5_own_68 : decode cX5_own 68 = .ok (.iload_n 1, 1) := by decide +kernel
theorem dX5_own_69 : decode cX5_own 69 = .ok (.iaload, 1) := by decide +kernel
theorem dX5_own_70 : decode cX5_own 70 = .ok (.ireturn, 1) := by decide +kernel
set_option maxRecDepth 20000 in
theorem ggX5_used_X5_isIn : GoodIn wsX5_used wsX5_isIn := goodIn_r _ [8] (by decide +kernel) (by decide +kernel)
set_option maxRecDepth 20000 in
theorem gX5_used_X5_isIn : GoodIn wsX5_used (va_wsS RX5 86 yX5_isIn wsX5_isIn) := goodIn_app (goodIn_of _ (by decide +kernel)) ggX5_used_X5_isIn
theorem dX5_used_0 : decode cX5_used 0 = .ok (.aload_n 0, 1) := by decide +kernel
theorem dX5_used_1 : decode cX5_used 1 = .ok (.iload_n 1, 1) := by decide +kernel
theorem dX5_used_2 : decode cX5_used 2 = .ok (.iconst 0, 1) := by decide +kernel
theorem dX5_used_3 : decode cX5_used 3 = .ok (.iconst 2, 1) := by decide +kernel
theorem dX5_used_4 : decode cX5_used 4 = .ok (.invokestatic 86, 3) := by decide +kernel
theorem dX5_used_7 : decode cX5_used 7 = .ok (.ifCond .eq 7, 3) := by decide +kernel
theorem dX5_used_10 : decode cX5_used 10 = .ok (.iconst 0, 1) := by decide +kernel
theorem dX5_used_11 : decode cX5_used 11 = .ok (.goto 4, 3) := by decide +kernel
theorem dX5_used_14 : decode cX5_used 14 = .ok (.iconst 1, 1) := by decide +kernel
theorem dX5_used_15 : decode cX5_used 15 = .ok (.putfield 80, 3) := by decide +kernel
theorem dX5_used_18 : decode cX5_used 18 = .ok (.aload_n 0, 1) := by decide +kernel
theorem dX5_used_19 : decode cX5_used 19 = .ok (.getfield 80, 3) := by decide +kernel
theorem dX5_used_22 : decode cX5_used 22 = .ok (.ifCond .le 7, 3) := by decide +kernel
theorem dX5_used_25 : decode cX5_used 25 = .ok (.lconst 0, 1) := by decide +kernel
theorem dX5_used_26 : decode cX5_used 26 = .ok (.goto 30, 3) := by decide +kernel
theorem dX5_used_29 : decode cX5_used 29 = .ok (.iload_n 1, 1) := by decide +kernel
theorem dX5_used_30 : decode cX5_used 30 = .ok (.ifCond .ne 10, 3) := by decide +kernel
theorem dX5_used_33 : decode cX5_used 33 = .ok (.aload_n 0, 1) := by decide +kernel
theorem dX5_used_34 : decode cX5_used 34 = .ok (.getfield 179, 3) := by decide +kernel
theorem dX5_used_37 : decode cX5_used 37 = .ok (.goto 19, 3) := by decide +kernel
theorem dX5_used_40 : decode cX5_used 40 = .ok (.iload_n 1, 1) := by decide +kernel
theorem dX5_used_41 : decode cX5_used 41 = .ok (.iconst 1, 1) := by decide +kernel
theorem dX5_used_42 : decode cX5_used 42 = .ok (.if_icmp .ne 10, 3) := by decide +kernel
theorem dX5_used_45 : decode cX5_used 45 = .ok (.aload_n 0, 1) := by decide +kernel
theorem dX5_used_46 : decode cX5_used 46 = .ok (.getfield 173, 3) := by decide +kernel
theorem dX5_used_49 : decode cX5_used 49 = .ok (.goto 7, 3) := by decide +kernel
theorem dX5_used_52 : decode cX5_used 52 = .ok (.aload_n 0, 1) := by decide +kernel
theorem dX5_used_53 : decode cX5_used 53 = .ok (.getfield 176, 3) := by decide +kernel
theorem dX5_used_56 : decode cX5_used 56 = .ok (.lreturn, 1) := by decide +kernel
theorem dJ9_max_7cf53_0 : decode cJ9_max_7cf53 0 = .ok (.iload_n 0, 1) := by decide +kernel
theorem dJ9_max_7cf53_1 : decode cJ9_max_7cf53 1 = .ok (.iload_n 1, 1) := by decide +kernel
theorem dJ9_max_7cf53_2 : decode cJ9_max_7cf53 2 = .ok (.if_icmp .lt 7, 3) := by decide +kernel
theorem dJ9_max_7cf53_5 : decode cJ9_max_7cf53 5 = .ok (.iload_n 0, 1) := by decide +kernel
theorem dJ9_max_7cf53_6 : decode cJ9_max_7cf53 6 = .ok (.goto 4, 3) := by decide +kernel
theorem dJ9_max_7cf53_9 : decode cJ9_max_7cf53 9 = .ok (.iload_n 1, 1) := by decide +kernel
theorem dJ9_max_7cf53_10 : decode cJ9_max_7cf53 10 = .ok (.ireturn, 1) := by decide +kernel
theorem dJ9_max_f86c9_0 : decode cJ9_max_f86c9 0 = .ok (.lload_n 0, 1) := by decide +kernel
theorem dJ9_max_f86c9_1 : decode cJ9_max_f86c9 1 = .ok (.lload_n 2, 1) := by decide +kernel
theorem dJ9_max_f86c9_2 : decode cJ9_max_f86c9 2 = .ok (.lcmp, 1) := by decide +kernel
theorem dJ9_max_f86c9_3 : decode cJ9_max_f86c9 3 = .ok (.ifCond .lt 7, 3) := by decide +kernel
theorem dJ9_max_f86c9_6 : decode cJ9_max_f86c9 6 = .ok (.lload_n 0, 1) := by decide +kernel
theorem dJ9_max_f86c9_7 : decode cJ9_max_f86c9 7 = .ok (.goto 4, 3) := by decide +kernel
theorem dJ9_max_f86c9_10 : decode cJ9_max_f86c9 10 = .ok (.lload_n 2, 1) := by decide +kernel
theorem dJ9_max_f86c9_11 : decode cJ9_max_f86c9 11 = .ok (.lreturn, 1) := by decide +kernel
theorem dJ9_min_7cf53_0 : decode cJ9_min_7cf53 0 = .ok (.iload_n 0, 1) := by decide +kernel
theorem dJ9_min_7cf53_1 : decode cJ9_min_7cf53 1 = .ok (.iload_n 1, 1) := by decide +kernel
theorem dJ9_min_7cf53_2 : decode cJ9_min_7cf53 2 = .ok (.if_icmp .gt 7, 3) := by decide +kernel
theorem dJ9_min_7cf53_5 : decode cJ9_min_7cf53 5 = .ok (.iload_n 0, 1) := by decide +kernel
theorem dJ9_min_7cf53_6 : decode cJ9_min_7cf53 6 = .ok (.goto 4, 3) := by decide +kernel
theorem dJ9_min_7cf53_9 : decode cJ9_min_7cf53 9 = .ok (.iload_n 1, 1) := by decide +kernel
theorem dJ9_min_7cf53_10 : decode cJ9_min_7cf53 10 = .ok (.ireturn, 1) := by decide +kernel
theorem dJ9_min_f86c9_0 : decode cJ9_min_f86c9 0 = .ok (.lload_n 0, 1) := by decide +kernel
theorem dJ9_min_f86c9_1 : decode cJ9_min_f86c9 1 = .ok (.lload_n 2, 1) := by decide +kernel
theorem dJ9_min_f86c9_2 : decode cJ9_min_f86c9 2 = .ok (.lcmp, 1) := by decide +kernel
theorem dJ9_min_f86c9_3 : decode cJ9_min_f86c9 3 = .ok (.ifCond .gt 7, 3) := by decide +kernel
theorem dJ9_min_f86c9_6 : decode cJ9_min_f86c9 6 = .ok (.lload_n 0, 1) := by decide +kernel
theorem dJ9_min_f86c9_7 : decode cJ9_min_f86c9 7 = .ok (.goto 4, 3) := by decide +kernel
theorem dJ9_min_f86c9_10 : decode cJ9_min_f86c9 10 = .ok (.lload_n 2, 1) := by decide +kernel
theorem dJ9_min_f86c9_11 : decode cJ9_min_f86c9 11 = .ok (.lreturn, 1) := by decide +kernel
theorem dJ7_fill_53178_0 : decode cJ7_fill_53178 0 = .ok (.iconst 0, 1) := by decide +kernel
theorem dJ7_fill_53178_1 : decode cJ7_fill_53178 1 = .ok (.istore_n 2, 1) := by decide +kernel
theorem dJ7_fill_53178_2 : decode cJ7_fill_53178 2 = .ok (.aload_n 0, 1) := by decide +kernel
theorem dJ7_fill_53178_3 : decode cJ7_fill_53178 3 = .ok (.arraylength, 1) := by decide +kernel
theorem dJ7_fill_53178_4 : decode cJ7_fill_53178 4 = .ok (.istore_n 3, 1) := by decide +kernel
theorem dJ7_fill_53178_5 : decode cJ7_fill_53178 5 = .ok (.iload_n 2, 1) := by decide +kernel
theorem dJ7_fill_53178_6 : decode cJ7_fill_53178 6 = .ok (.iload_n 3, 1) := by decide +kernel
theorem dJ7_fill_53178_7 : decode cJ7_fill_53178 7 = .ok (.if_icmp .ge 13, 3) := by decide +kernel
theorem dJ7_fill_53178_10 : decode cJ7_fill_53178 10 = .ok (.aload_n 0, 1) := by decide +kernel
theorem dJ7_fill_53178_11 : decode cJ7_fill_53178 11 = .ok (.iload_n 2, 1) := by decide +kernel
theorem dJ7_fill_53178_12 : decode cJ7_fill_53178 12 = .ok (.iload_n 1, 1) := by decide +kernel
theorem dJ7_fill_53178_13 : decode cJ7_fill_53178 13 = .ok (.iastore, 1) := by decide +kernel
theorem dJ7_fill_53178_14 : decode cJ7_fill_53178 14 = .ok (.iinc 2 1, 3) := by decide +kernel
theorem dJ7_fill_53178_17 : decode cJ7_fill_53178 17 = .ok (.goto (-12), 3) := by decide +kernel
theorem dJ7_fill_53178_20 : decode cJ7_fill_53178 20 = .ok (.return_, 1) := by decide +kernel
abbrev vwCl : List vw_C := [(RX0, TX0, 12), (RX1, TX1, 11), (RX2, TX2, 14), (RX3, TX3, 7), (RX4, TX4, 4), (RX5, TX5, 36)]
