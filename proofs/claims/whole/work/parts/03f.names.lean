theorem dX5_minute_101 : decode cX5_minute 101 = .ok (.aload_n 0, 1) := by decide +kernel
theorem dX5_minute_102 : decode cX5_minute 102 = .ok (.getfield 19, 3) := by decide +kernel
theorem dX5_minute_105 : decode cX5_minute 105 = .ok (.iload_n 3, 1) := by decide +kernel
theorem dX5_minute_106 : decode cX5_minute 106 = .ok (.iaload, 1) := by decide +kernel
theorem dX5_minute_107 : decode cX5_minute 107 = .ok (.i2l, 1) := by decide +kernel
theorem dX5_minute_108 : decode cX5_minute 108 = .ok (.ladd, 1) := by decide +kernel
theorem dX5_minute_109 : decode cX5_minute 109 = .ok (.putfield 173, 3) := by decide +kernel
theorem dX5_minute_112 : decode cX5_minute 112 = .ok (.aload_n 0, 1) := by decide +kernel
theorem dX5_minute_113 : decode cX5_minute 113 = .ok (.dup, 1) := by decide +kernel
theorem dX5_minute_114 : decode cX5_minute 114 = .ok (.getfield 176, 3) := by decide +kernel
theorem dX5_minute_117 : decode cX5_minute 117 = .ok (.lconst 1, 1) := by decide +kernel
theorem dX5_minute_118 : decode cX5_minute 118 = .ok (.ladd, 1) := by decide +kernel
theorem dX5_minute_119 : decode cX5_minute 119 = .ok (.putfield 176, 3) := by decide +kernel
theorem dX5_minute_122 : decode cX5_minute 122 = .ok (.aload_n 0, 1) := by decide +kernel
theorem dX5_minute_123 : decode cX5_minute 123 = .ok (.getfield 77, 3) := by decide +kernel
theorem dX5_minute_126 : decode cX5_minute 126 = .ok (.iload_n 1, 1) := by decide +kernel
theorem dX5_minute_127 : decode cX5_minute 127 = .ok (.dup2, 1) := by decide +kernel
theorem dX5_minute_128 : decode cX5_minute 128 = .ok (.iaload, 1) := by decide +kernel
theorem dX5_minute_129 : decode cX5_minute 129 = .ok (.iconst 1, 1) := by decide +kernel
theorem dX5_minute_130 : decode cX5_minute 130 = .ok (.iadd, 1) := by decide +kernel
theorem dX5_minute_131 : decode cX5_minute 131 = .ok (.iastore, 1) := by decide +kernel
theorem dX5_minute_132 : decode cX5_minute 132 = .ok (.aload_n 0, 1) := by decide +kernel
theorem dX5_minute_133 : decode cX5_minute 133 = .ok (.dup, 1) := by decide +kernel
theorem dX5_minute_134 : decode cX5_minute 134 = .ok (.getfield 179, 3) := by decide +kernel
theorem dX5_minute_137 : decode cX5_minute 137 = .ok (.aload_n 0, 1) := by decide +kernel
theorem dX5_minute_138 : decode cX5_minute 138 = .ok (.getfield 74, 3) := by decide +kernel
theorem dX5_minute_141 : decode cX5_minute 141 = .ok (.iload_n 1, 1) := by decide +kernel
theorem dX5_minute_142 : decode cX5_minute 142 = .ok (.iaload, 1) := by decide +kernel
theorem dX5_minute_143 : decode cX5_minute 143 = .ok (.i2l, 1) := by decide +kernel
theorem dX5_minute_144 : decode cX5_minute 144 = .ok (.aload_n 0, 1) := by decide +kernel
theorem dX5_minute_145 : decode cX5_minute 145 = .ok (.getfield 13, 3) := by decide +kernel
theorem dX5_minute_148 : decode cX5_minute 148 = .ok (.iload_n 3, 1) := by decide +kernel
theorem dX5_minute_149 : decode cX5_minute 149 = .ok (.iaload, 1) := by decide +kernel
theorem dX5_minute_150 : decode cX5_minute 150 = .ok (.i2l, 1) := by decide +kernel
theorem dX5_minute_151 : decode cX5_minute 151 = .ok (.lmul, 1) := by decide +kernel
theorem dX5_minute_152 : decode cX5_minute 152 = .ok (.ladd, 1) := by decide +kernel
theorem dX5_minute_153 : decode cX5_minute 153 = .ok (.putfield 179, 3) := by decide +kernel
theorem dX5_minute_156 : decode cX5_minute 156 = .ok (.return_, 1) := by decide +kernel
set_option maxRecDepth 20000 in
theorem ggX5_run_X5_isIn : GoodIn wsX5_run wsX5_isIn := goodIn_r _ [8] (by decide +kernel) (by decide +kernel)
set_option maxRecDepth 20000 in
theorem gX5_run_X5_isIn : GoodIn wsX5_run (va_wsS RX5 86 yX5_isIn wsX5_isIn) := goodIn_app (goodIn_of _ (by decide +kernel)) ggX5_run_X5_isIn
set_option maxRecDepth 20000 in
theorem ggX5_run_X5_findBest : GoodIn wsX5_run wsX5_findBest := goodIn_r _ [12, 13, 14, 15, 4, 16, 17, 18, 19, 20, 21, 22, 7, 23, 24, 25, 26, 27, 28, 29, 30, 31, 32, 33, 34, 35, 36, 37, 38, 39, 40, 41, 42, 43, 44, 45, 46, 47, 48, 49, 50, 51, 52, 53, 77, 78, 79, 80, 81, 82, 83, 84, 85, 86, 87, 88, 89, 90, 91, 92, 93, 94, 95, 96, 97, 98, 99, 100, 101, 102, 103, 104, 105, 106, 107, 108, 109, 110, 111, 112] (by decide +kernel) (by decide +kernel)
set_option maxRecDepth 20000 in
theorem gX5_run_X5_findBest : GoodIn wsX5_run (wsV RX5 146 RX5 yX5_findBest wsX5_findBest) := goodIn_app (goodIn_of _ (by decide +kernel)) ggX5_run_X5_findBest
set_option maxRecDepth 20000 in
theorem ggX5_run_X5_hasLamp : GoodIn wsX5_run wsX5_hasLamp := goodIn_r _ [57, 14, 49, 77, 78, 79, 80, 81, 82, 83, 84, 85, 86, 87, 88, 89, 90, 91, 92, 93, 94, 95, 96, 97, 98, 99, 100, 101, 102, 103, 104, 105, 106, 107, 108, 109, 110, 111, 112] (by decide +kernel) (by decide +kernel)
set_option maxRecDepth 20000 in
theorem gX5_run_X5_hasLamp : GoodIn wsX5_run (wsV RX5 158 RX5 yX5_hasLamp wsX5_hasLamp) := goodIn_app (goodIn_of _ (by decide +kernel)) ggX5_run_X5_hasLamp
set_option maxRecDepth 20000 in
theorem ggX5_run_X5_needOf : GoodIn wsX5_run wsX5_needOf := goodIn_r _ [61, 62, 49, 63, 64, 46, 20, 21, 22, 7, 23, 24, 25, 26, 27, 28, 29, 77, 78, 79, 80, 81, 82, 83, 84, 85, 86, 87, 88, 89, 90, 91, 92, 93, 94, 95, 96, 97, 98, 99, 100, 101, 102, 103, 104, 105, 106, 107, 108, 109, 110, 111, 112] (by decide +kernel) (by decide +kernel)
set_option maxRecDepth 20000 in
theorem gX5_run_X5_needOf : GoodIn wsX5_run (wsV RX5 185 RX5 yX5_needOf wsX5_needOf) := goodIn_app (goodIn_of _ (by decide +kernel)) ggX5_run_X5_needOf
set_option maxRecDepth 20000 in
theorem ggX5_run_X5_minute : GoodIn wsX5_run wsX5_minute := goodIn_r _ [68, 49, 69, 70, 71, 72, 73, 74, 75, 76, 40, 77, 78, 79, 80, 81, 82, 83, 84, 85, 86, 87, 88, 89, 90, 91, 92, 93, 94, 95, 96, 97, 98, 99, 100, 101, 102, 103, 104, 105, 106, 107, 108, 109, 110, 111, 112] (by decide +kernel) (by decide +kernel)
set_option maxRecDepth 20000 in
theorem gX5_run_X5_minute : GoodIn wsX5_run (wsV RX5 188 RX5 yX5_minute wsX5_minute) := goodIn_app (goodIn_of _ (by decide +kernel)) ggX5_run_X5_minute
theorem dX5_run_0 : decode cX5_run 0 = .ok (.aload_n 0, 1) := by decide +kernel
theorem dX5_run_1 : decode cX5_run 1 = .ok (.iload_n 1, 1) := by decide +kernel
theorem dX5_run_2 : decode cX5_run 2 = .ok (.iconst 1, 1) := by decide +kernel
theorem dX5_run_3 : decode cX5_run 3 = .ok (.sipush 10000, 3) := by decide +kernel
theorem dX5_run_6 : decode cX5_run 6 = .ok (.invokestatic 86, 3) := by decide +kernel
theorem dX5_run_9 : decode cX5_run 9 = .ok (.ifCond .ne 7, 3) := by decide +kernel
theorem dX5_run_12 : decode cX5_run 12 = .ok (.iconst 1, 1) := by decide +kernel
theorem dX5_run_13 : decode cX5_run 13 = .ok (.goto 19, 3) := by decide +kernel
theorem dX5_run_16 : decode cX5_run 16 = .ok (.aload_n 0, 1) := by decide +kernel
theorem dX5_run_17 : decode cX5_run 17 = .ok (.getfield 182, 3) := by decide +kernel
theorem dX5_run_20 : decode cX5_run 20 = .ok (.iload_n 1, 1) := by decide +kernel
theorem dX5_run_21 : decode cX5_run 21 = .ok (.iadd, 1) := by decide +kernel
theorem dX5_run_22 : decode cX5_run 22 = .ok (.ldc 155, 2) := by decide +kernel
theorem dX5_run_24 : decode cX5_run 24 = .ok (.if_icmp .le 7, 3) := by decide +kernel
theorem dX5_run_27 : decode cX5_run 27 = .ok (.iconst 2, 1) := by decide +kernel
theorem dX5_run_28 : decode cX5_run 28 = .ok (.goto 4, 3) := by decide +kernel
theorem dX5_run_31 : decode cX5_run 31 = .ok (.iconst 0, 1) := by decide +kernel
theorem dX5_run_32 : decode cX5_run 32 = .ok (.putfield 80, 3) := by decide +kernel
theorem dX5_run_35 : decode cX5_run 35 = .ok (.aload_n 0, 1) := by decide +kernel
theorem dX5_run_36 : decode cX5_run 36 = .ok (.getfield 80, 3) := by decide +kernel
theorem dX5_run_39 : decode cX5_run 39 = .ok (.ifCond .le 5, 3) := by decide +kernel
theorem dX5_run_42 : decode cX5_run 42 = .ok (.iconst 0, 1) := by decide +kernel
theorem dX5_run_43 : decode cX5_run 43 = .ok (.ireturn, 1) := by decide +kernel
theorem dX5_run_44 : decode cX5_run 44 = .ok (.aload_n 0, 1) := by decide +kernel
theorem dX5_run_45 : decode cX5_run 45 = .ok (.invokevirtual 146, 3) := by decide +kernel
theorem dX5_run_48 : decode cX5_run 48 = .ok (.iconst 0, 1) := by decide +kernel
theorem dX5_run_49 : decode cX5_run 49 = .ok (.istore_n 2, 1) := by decide +kernel
theorem dX5_run_50 : decode cX5_run 50 = .ok (.iload_n 2, 1) := by decide +kernel
theorem dX5_run_51 : decode cX5_run 51 = .ok (.aload_n 0, 1) := by decide +kernel
theorem dX5_run_52 : decode cX5_run 52 = .ok (.getfield 90, 3) := by decide +kernel
theorem dX5_run_55 : decode cX5_run 55 = .ok (.if_icmp .ge 44, 3) := by decide +kernel
theorem dX5_run_58 : decode cX5_run 58 = .ok (.aload_n 0, 1) := by decide +kernel
theorem dX5_run_59 : decode cX5_run 59 = .ok (.iload_n 2, 1) := by decide +kernel
theorem dX5_run_60 : decode cX5_run 60 = .ok (.invokevirtual 158, 3) := by decide +kernel
theorem dX5_run_63 : decode cX5_run 63 = .ok (.ifCond .eq 30, 3) := by decide +kernel
theorem dX5_run_66 : decode cX5_run 66 = .ok (.aload_n 0, 1) := by decide +kernel
theorem dX5_run_67 : decode cX5_run 67 = .ok (.iload_n 2, 1) := by decide +kernel
theorem dX5_run_68 : decode cX5_run 68 = .ok (.invokevirtual 185, 3) := by decide +kernel
theorem dX5_run_71 : decode cX5_run 71 = .ok (.istore_n 3, 1) := by decide +kernel
theorem dX5_run_72 : decode cX5_run 72 = .ok (.iconst 0, 1) := by decide +kernel
theorem dX5_run_73 : decode cX5_run 73 = .ok (.istore 4, 2) := by decide +kernel
theorem dX5_run_75 : decode cX5_run 75 = .ok (.iload 4, 2) := by decide +kernel
theorem dX5_run_77 : decode cX5_run 77 = .ok (.iload_n 1, 1) := by decide +kernel
theorem dX5_run_78 : decode cX5_run 78 = .ok (.if_icmp .ge 15, 3) := by decide +kernel
theorem dX5_run_81 : decode cX5_run 81 = .ok (.aload_n 0, 1) := by decide +kernel
theorem dX5_run_82 : decode cX5_run 82 = .ok (.iload_n 2, 1) := by decide +kernel
theorem dX5_run_83 : decode cX5_run 83 = .ok (.iload_n 3, 1) := by decide +kernel
theorem dX5_run_84 : decode cX5_run 84 = .ok (.invokevirtual 188, 3) := by decide +kernel
theorem dX5_run_87 : decode cX5_run 87 = .ok (.iinc 4 1, 3) := by decide +kernel
theorem dX5_run_90 : decode cX5_run 90 = .ok (.goto (-15), 3) := by decide +kernel
theorem dX5_run_93 : decode cX5_run 93 = .ok (.iinc 2 1, 3) := by decide +kernel
theorem dX5_run_96 : decode cX5_run 96 = .ok (.goto (-46), 3) := by decide +kernel
theorem dX5_run_99 : decode cX5_run 99 = .ok (.aload_n 0, 1) := by decide +kernel
theorem dX5_run_100 : decode cX5_run 100 = .ok (.dup, 1) := by decide +kernel
theorem dX5_run_101 : decode cX5_run 101 = .ok (.getfield 182, 3) := by decide +kernel
theorem dX5_run_104 : decode cX5_run 104 = .ok (.iload_n 1, 1) := by decide +kernel
theorem dX5_run_105 : decode cX5_run 105 = .ok (.iadd, 1) := by decide +kernel
theorem dX5_run_106 : decode cX5_run 106 = .ok (.putfield 182, 3) := by decide +kernel
theorem dX5_run_109 : decode cX5_run 109 = .ok (.aload_n 0, 1) := by decide +kernel
theorem dX5_run_110 : decode cX5_run 110 = .ok (.getfield 182, 3) := by decide +kernel
theorem dX5_run_113 : decode cX5_run 113 = .ok (.ireturn, 1) := by decide +kernel
set_option maxRecDepth 20000 in
theorem ggX5_own_X5_isPlace : GoodIn wsX5_own wsX5_isPlace := goodIn_r _ [8, 9, 10, 11, 7, 12, 62, 63, 64, 65, 66, 67, 68, 69, 70, 71, 72, 73, 74, 75, 76, 77, 78, 79, 80, 81, 82, 83, 84, 85, 86, 87, 88, 89, 90, 91, 92, 93, 94, 95, 96, 97] (by decide +kernel) (by decide +kernel)
set_option maxRecDepth 20000 in
theorem gX5_own_X5_isPlace : GoodIn wsX5_own (wsV RX5 104 RX5 yX5_isPlace wsX5_isPlace) := goodIn_app (goodIn_of _ (by decide +kernel)) ggX5_own_X5_isPlace
set_option maxRecDepth 20000 in
theorem ggX5_own_X5_isIn : GoodIn wsX5_own wsX5_isIn := goodIn_r _ [12] (by decide +kernel) (by decide +kernel)
set_option maxRecDepth 20000 in
theorem gX5_own_X5_isIn : GoodIn wsX5_own (va_wsS RX5 86 yX5_isIn wsX5_isIn) := goodIn_app (goodIn_of _ (by decide +kernel)) ggX5_own_X5_isIn
set_option maxRecDepth 20000 in
theorem ggX5_own_X5_findBest : GoodIn wsX5_own wsX5_findBest := goodIn_r _ [16, 17, 18, 19, 9, 20, 21, 22, 23, 24, 25, 26, 7, 27, 28, 29, 30, 31, 32, 33, 34, 35, 36, 37, 38, 39, 40, 41, 42, 43, 44, 45, 46, 47, 48, 49, 50, 51, 52, 53, 54, 55, 56, 57, 62, 63, 64, 65, 66, 67, 68, 69, 70, 71, 72, 73, 74, 75, 76, 77, 78, 79, 80, 81, 82, 83, 84, 85, 86, 87, 88, 89, 90, 91, 92, 93, 94, 95, 96, 97] (by decide +kernel) (by decide +kernel)
set_option maxRecDepth 20000 in
theorem gX5_own_X5_findBest : GoodIn wsX5_own (wsV RX5 146 RX5 yX5_findBest wsX5_findBest) := goodIn_app (goodIn_of _ (by decide +kernel)) ggX5_own_X5_findBest
set_option maxRecDepth 20000 in
theorem ggX5_own_X5_hasLamp : GoodIn wsX5_own wsX5_hasLamp := goodIn_r _ [61, 18, 53, 62, 63, 64, 65, 66, 67, 68, 69, 70, 71, 72, 73, 74, 75, 76, 77, 78, 79, 80, 81, 82, 83, 84, 85, 86, 87, 88, 89, 90, 91, 92, 93, 94, 95, 96, 97] (by decide +kernel) (by decide +kernel)
set_option maxRecDepth 20000 in
theorem gX5_own_X5_hasLamp : GoodIn wsX5_own (wsV RX5 158 RX5 yX5_hasLamp wsX5_hasLamp) := goodIn_app (goodIn_of _ (by decide +kernel)) ggX5_own_X5_hasLamp
theorem dX5_own_0 : decode cX5_own 0 = .ok (.aload_n 0, 1) := by decide +kernel
theorem dX5_own_1 : decode cX5_own 1 = .ok (.aload_n 0, 1) := by decide +kernel
theorem dX5_own_2 : decode cX5_own 2 = .ok (.iload_n 1, 1) := by decide +kernel
theorem dX5_own_3 : decode cX5_own 3 = .ok (.invokevirtual 104, 3) := by decide +kernel
theorem dX5_own_6 : decode cX5_own 6 = .ok (.ifCond .eq 16, 3) := by decide +kernel
theorem dX5_own_9 : decode cX5_own 9 = .ok (.iload_n 2, 1) := by decide +kernel
theorem dX5_own_10 : decode cX5_own 10 = .ok (.iconst 0, 1) := by decide +kernel
theorem dX5_own_11 : decode cX5_own 11 = .ok (.iconst 1, 1) := by decide +kernel
theorem dX5_own_12 : decode cX5_own 12 = .ok (.invokestatic 86, 3) := by decide +kernel
theorem dX5_own_15 : decode cX5_own 15 = .ok (.ifCond .eq 7, 3) := by decide +kernel
theorem dX5_own_18 : decode cX5_own 18 = .ok (.iconst 0, 1) := by decide +kernel
theorem dX5_own_19 : decode cX5_own 19 = .ok (.goto 4, 3) := by decide +kernel
theorem dX5_own_22 : decode cX5_own 22 = .ok (.iconst 1, 1) := by decide +kernel
theorem dX5_own_23 : decode cX5_own 23 = .ok (.putfield 80, 3) := by decide +kernel
theorem dX5_own_26 : decode cX5_own 26 = .ok (.aload_n 0, 1) := by decide +kernel
theorem dX5_own_27 : decode cX5_own 27 = .ok (.getfield 80, 3) := by decide +kernel
theorem dX5_own_30 : decode cX5_own 30 = .ok (.ifCond .le 5, 3) := by decide +kernel
theorem dX5_own_33 : decode cX5_own 33 = .ok (.iconst 0, 1) := by decide +kernel
theorem dX5_own_34 : decode cX5_own 34 = .ok (.ireturn, 1) := by decide +kernel
theorem dX5_own_35 : decode cX5_own 35 = .ok (.aload_n 0, 1) := by decide +kernel
theorem dX5_own_36 : decode cX5_own 36 = .ok (.invokevirtual 146, 3) := by decide +kernel
theorem dX5_own_39 : decode cX5_own 39 = .ok (.aload_n 0, 1) := by decide +kernel
theorem dX5_own_40 : decode cX5_own 40 = .ok (.iload_n 1, 1) := by decide +kernel
theorem dX5_own_41 : decode cX5_own 41 = .ok (.invokevirtual 158, 3) := by decide +kernel
theorem dX5_own_44 : decode cX5_own 44 = .ok (.ifCond .ne 7, 3) := by decide +kernel
theorem dX5_own_47 : decode cX5_own 47 = .ok (.iconst (-1), 1) := by decide +kernel
theorem dX5_own_48 : decode cX5_own 48 = .ok (.goto 22, 3) := by decide +kernel
theorem dX5_own_51 : decode cX5_own 51 = .ok (.iload_n 2, 1) := by decide +kernel
theorem dX5_own_52 : decode cX5_own 52 = .ok (.ifCond .ne 12, 3) := by decide +kernel
theorem dX5_own_55 : decode cX5_own 55 = .ok (.aload_n 0, 1) := by decide +kernel
theorem dX5_own_56 : decode cX5_own 56 = .ok (.getfield 74, 3) := by decide +kernel
theorem dX5_own_59 : decode cX5_own 59 = .ok (.iload_n 1, 1) := by decide +kernel
theorem dX5_own_60 : decode cX5_own 60 = .ok (.iaload, 1) := by decide +kernel
theorem dX5_own_61 : decode cX5_own 61 = .ok (.goto 9, 3) := by decide +kernel
theorem dX5_own_64 : decode cX5_own 64 = .ok (.aload_n 0, 1) := by decide +kernel
theorem dX5_own_65 : decode cX5_own 65 = .ok (.getfield 77, 3) := by decide +kernel
theorem dX5_own_68 : decode cX5_own 68 = .ok (.iload_n 1, 1) := by decide +kernel
theorem dX5_own_69 : decode cX5_own 69 = .ok (.iaload, 1) := by decide +kernel
theorem dX5_own_70 : decode cX5_own 70 = .ok (.ireturn, 1) := by decide +kernel
set_option maxRecDepth 20000 in
theorem ggX5_used_X5_isIn : GoodIn wsX5_used wsX5_isIn := goodIn_r _ [8] (by decide +kernel) (by decide +kernel)
set_option maxRecDepth 20000 in
theorem gX5_used_X5_isIn : GoodIn wsX5_used (va_wsS RX5 86 yX5_isIn wsX5_isIn) := goodIn_app (goodIn_of _ (by decide +kernel)) ggX5_used_X5_isIn
theorem dX5_used_0 : decode cX5_used 0 = .ok (.aload_n 0, 1) := by decide +kernel
theorem dX5_used_1 : decode cX5_used 1 = .ok (.iload_n 1, 1) := by decide +kernel
theorem dX5_used_2 : decode cX5_used 2 = .ok (.iconst 0, 1) := by decide +kernel
theorem dX5_used_3 : decode cX5_used 3 = .ok (.iconst 2, 1) := by decide +kernel
theorem dX5_used_4 : decode cX5_used 4 = .ok (.invokestatic 86, 3) := by decide +kernel
theorem dX5_used_7 : decode cX5_used 7 = .ok (.ifCond .eq 7, 3) := by decide +kernel
theorem dX5_used_10 : decode cX5_used 10 = .ok (.iconst 0, 1) := by decide +kernel
theorem dX5_used_11 : decode cX5_used 11 = .ok (.goto 4, 3) := by decide +kernel
theorem dX5_used_14 : decode cX5_used 14 = .ok (.iconst 1, 1) := by decide +kernel
theorem dX5_used_15 : decode cX5_used 15 = .ok (.putfield 80, 3) := by decide +kernel
theorem dX5_used_18 : decode cX5_used 18 = .ok (.aload_n 0, 1) := by decide +kernel
theorem dX5_used_19 : decode cX5_used 19 = .ok (.getfield 80, 3) := by decide +kernel
theorem dX5_used_22 : decode cX5_used 22 = .ok (.ifCond .le 7, 3) := by decide +kernel
theorem dX5_used_25 : decode cX5_used 25 = .ok (.lconst 0, 1) := by decide +kernel
theorem dX5_used_26 : decode cX5_used 26 = .ok (.goto 30, 3) := by decide +kernel
theorem dX5_used_29 : decode cX5_used 29 = .ok (.iload_n 1, 1) := by decide +kernel
theorem dX5_used_30 : decode cX5_used 30 = .ok (.ifCond .ne 10, 3) := by decide +kernel
theorem dX5_used_33 : decode cX5_used 33 = .ok (.aload_n 0, 1) := by decide +kernel
theorem dX5_used_34 : decode cX5_used 34 = .ok (.getfield 179, 3) := by decide +kernel
theorem dX5_used_37 : decode cX5_used 37 = .ok (.goto 19, 3) := by decide +kernel
theorem dX5_used_40 : decode cX5_used 40 = .ok (.iload_n 1, 1) := by decide +kernel
theorem dX5_used_41 : decode cX5_used 41 = .ok (.iconst 1, 1) := by decide +kernel
theorem dX5_used_42 : decode cX5_used 42 = .ok (.if_icmp .ne 10, 3) := by decide +kernel
theorem dX5_used_45 : decode cX5_used 45 = .ok (.aload_n 0, 1) := by decide +kernel
theorem dX5_used_46 : decode cX5_used 46 = .ok (.getfield 173, 3) := by decide +kernel
theorem dX5_used_49 : decode cX5_used 49 = .ok (.goto 7, 3) := by decide +kernel
theorem dX5_used_52 : decode cX5_used 52 = .ok (.aload_n 0, 1) := by decide +kernel
theorem dX5_used_53 : decode cX5_used 53 = .ok (.getfield 176, 3) := by decide +kernel
theorem dX5_used_56 : decode cX5_used 56 = .ok (.lreturn, 1) := by decide +kernel
theorem dJ9_max_7cf53_0 : decode cJ9_max_7cf53 0 = .ok (.iload_n 0, 1) := by decide +kernel
theorem dJ9_max_7cf53_1 : decode cJ9_max_7cf53 1 = .ok (.iload_n 1, 1) := by decide +kernel
theorem dJ9_max_7cf53_2 : decode cJ9_max_7cf53 2 = .ok (.if_icmp .lt 7, 3) := by decide +kernel
theorem dJ9_max_7cf53_5 : decode cJ9_max_7cf53 5 = .ok (.iload_n 0, 1) := by decide +kernel
theorem dJ9_max_7cf53_6 : decode cJ9_max_7cf53 6 = .ok (.goto 4, 3) := by decide +kernel
theorem dJ9_max_7cf53_9 : decode cJ9_max_7cf53 9 = .ok (.iload_n 1, 1) := by decide +kernel
theorem dJ9_max_7cf53_10 : decode cJ9_max_7cf53 10 = .ok (.ireturn, 1) := by decide +kernel
theorem dJ9_max_f86c9_0 : decode cJ9_max_f86c9 0 = .ok (.lload_n 0, 1) := by decide +kernel
theorem dJ9_max_f86c9_1 : decode cJ9_max_f86c9 1 = .ok (.lload_n 2, 1) := by decide +kernel
theorem dJ9_max_f86c9_2 : decode cJ9_max_f86c9 2 = .ok (.lcmp, 1) := by decide +kernel
theorem dJ9_max_f86c9_3 : decode cJ9_max_f86c9 3 = .ok (.ifCond .lt 7, 3) := by decide +kernel
theorem dJ9_max_f86c9_6 : decode cJ9_max_f86c9 6 = .ok (.lload_n 0, 1) := by decide +kernel
theorem dJ9_max_f86c9_7 : decode cJ9_max_f86c9 7 = .ok (.goto 4, 3) := by decide +kernel
theorem dJ9_max_f86c9_10 : decode cJ9_max_f86c9 10 = .ok (.lload_n 2, 1) := by decide +kernel
theorem dJ9_max_f86c9_11 : decode cJ9_max_f86c9 11 = .ok (.lreturn, 1) := by decide +kernel
theorem dJ9_min_7cf53_0 : decode cJ9_min_7cf53 0 = .ok (.iload_n 0, 1) := by decide +kernel
theorem dJ9_min_7cf53_1 : decode cJ9_min_7cf53 1 = .ok (.iload_n 1, 1) := by decide +kernel
theorem dJ9_min_7cf53_2 : decode cJ9_min_7cf53 2 = .ok (.if_icmp .gt 7, 3) := by decide +kernel
theorem dJ9_min_7cf53_5 : decode cJ9_min_7cf53 5 = .ok (.iload_n 0, 1) := by decide +kernel
theorem dJ9_min_7cf53_6 : decode cJ9_min_7cf53 6 = .ok (.goto 4, 3) := by decide +kernel
theorem dJ9_min_7cf53_9 : decode cJ9_min_7cf53 9 = .ok (.iload_n 1, 1) := by decide +kernel
theorem dJ9_min_7cf53_10 : decode cJ9_min_7cf53 10 = .ok (.ireturn, 1) := by decide +kernel
theorem dJ9_min_f86c9_0 : decode cJ9_min_f86c9 0 = .ok (.lload_n 0, 1) := by decide +kernel
theorem dJ9_min_f86c9_1 : decode cJ9_min_f86c9 1 = .ok (.lload_n 2, 1) := by decide +kernel
theorem dJ9_min_f86c9_2 : decode cJ9_min_f86c9 2 = .ok (.lcmp, 1) := by decide +kernel
theorem dJ9_min_f86c9_3 : decode cJ9_min_f86c9 3 = .ok (.ifCond .gt 7, 3) := by decide +kernel
theorem dJ9_min_f86c9_6 : decode cJ9_min_f86c9 6 = .ok (.lload_n 0, 1) := by decide +kernel
theorem dJ9_min_f86c9_7 : decode cJ9_min_f86c9 7 = .ok (.goto 4, 3) := by decide +kernel
theorem dJ9_min_f86c9_10 : decode cJ9_min_f86c9 10 = .ok (.lload_n 2, 1) := by decide +kernel
theorem dJ9_min_f86c9_11 : decode cJ9_min_f86c9 11 = .ok (.lreturn, 1) := by decide +kernel
theorem dJ7_fill_53178_0 : decode cJ7_fill_53178 0 = .ok (.iconst 0, 1) := by decide +kernel
theorem dJ7_fill_53178_1 : decode cJ7_fill_53178 1 = .ok (.istore_n 2, 1) := by decide +kernel
theorem dJ7_fill_53178_2 : decode cJ7_fill_53178 2 = .ok (.aload_n 0, 1) := by decide +kernel
theorem dJ7_fill_53178_3 : decode cJ7_fill_53178 3 = .ok (.arraylength, 1) := by decide +kernel
theorem dJ7_fill_53178_4 : decode cJ7_fill_53178 4 = .ok (.istore_n 3, 1) := by decide +kernel
theorem dJ7_fill_53178_5 : decode cJ7_fill_53178 5 = .ok (.iload_n 2, 1) := by decide +kernel
theorem dJ7_fill_53178_6 : decode cJ7_fill_53178 6 = .ok (.iload_n 3, 1) := by decide +kernel
theorem dJ7_fill_53178_7 : decode cJ7_fill_53178 7 = .ok (.if_icmp .ge 13, 3) := by decide +kernel
theorem dJ7_fill_53178_10 : decode cJ7_fill_53178 10 = .ok (.aload_n 0, 1) := by decide +kernel
theorem dJ7_fill_53178_11 : decode cJ7_fill_53178 11 = .ok (.iload_n 2, 1) := by decide +kernel
theorem dJ7_fill_53178_12 : decode cJ7_fill_53178 12 = .ok (.iload_n 1, 1) := by decide +kernel
theorem dJ7_fill_53178_13 : decode cJ7_fill_53178 13 = .ok (.iastore, 1) := by decide +kernel
theorem dJ7_fill_53178_14 : decode cJ7_fill_53178 14 = .ok (.iinc 2 1, 3) := by decide +kernel
theorem dJ7_fill_53178_17 : decode cJ7_fill_53178 17 = .ok (.goto (-12), 3) := by decide +kernel
theorem dJ7_fill_53178_20 : decode cJ7_fill_53178 20 = .ok (.return_, 1) := by decide +kernel
set_option maxRecDepth 20000 in
theorem ggL_kind_X4_kind : GoodIn wsL_kind wsX4_kind := goodIn_ca (goodIn_ca (goodIn_r _ [7, 8, 9, 10, 11, 12, 6, 13, 14, 15, 16, 17, 18, 19, 20, 21, 22, 23, 24, 25, 26, 27, 28, 29, 30, 31, 32, 33, 34, 35, 36, 37, 38, 39, 40, 41, 42, 43, 44, 45, 46, 47, 48, 49, 50, 51, 52, 53, 54, 55, 56, 57, 58, 59, 60, 61, 62, 63, 64, 65, 66, 67, 68, 69, 70, 71, 72, 73, 74, 75, 76, 77, 78, 79, 80, 81, 82, 83, 84, 85, 86, 87, 88, 89, 90, 91, 92, 93, 94, 95, 96, 97, 98] (by decide +kernel) (by decide +kernel)) (goodIn_sub (fun _ h => List.mem_cons_of_mem _ (List.mem_append_left _ (List.mem_append_right _ h))) (by decide +kernel))) (goodIn_sub (fun _ h => List.mem_cons_of_mem _ (List.mem_append_right _ h)) (by decide +kernel))
set_option maxRecDepth 20000 in
theorem gL_kind_X4_kind : GoodIn wsL_kind (wsV RL 7 RX4 yX4_kind wsX4_kind) := goodIn_app (goodIn_of _ (by decide +kernel)) ggL_kind_X4_kind
theorem dL_kind_0 : decode cL_kind 0 = .ok (.aload 5, 2) := by decide +kernel
theorem dL_kind_2 : decode cL_kind 2 = .ok (.iconst 0, 1) := by decide +kernel
theorem dL_kind_3 : decode cL_kind 3 = .ok (.aload_n 0, 1) := by decide +kernel
theorem dL_kind_4 : decode cL_kind 4 = .ok (.iload_n 1, 1) := by decide +kernel
theorem dL_kind_5 : decode cL_kind 5 = .ok (.iload_n 2, 1) := by decide +kernel
theorem dL_kind_6 : decode cL_kind 6 = .ok (.iload_n 3, 1) := by decide +kernel
theorem dL_kind_7 : decode cL_kind 7 = .ok (.iload 4, 2) := by decide +kernel
theorem dL_kind_9 : decode cL_kind 9 = .ok (.invokevirtual 7, 3) := by decide +kernel
theorem dL_kind_12 : decode cL_kind 12 = .ok (.i2l, 1) := by decide +kernel
theorem dL_kind_13 : decode cL_kind 13 = .ok (.lastore, 1) := by decide +kernel
theorem dL_kind_14 : decode cL_kind 14 = .ok (.goto 11, 3) := by decide +kernel
theorem dL_kind_17 : decode cL_kind 17 = .ok (.astore 6, 2) := by decide +kernel
theorem dL_kind_19 : decode cL_kind 19 = .ok (.iconst 1, 1) := by decide +kernel
theorem dL_kind_20 : decode cL_kind 20 = .ok (.ireturn, 1) := by decide +kernel
theorem dL_kind_21 : decode cL_kind 21 = .ok (.astore 6, 2) := by decide +kernel
theorem dL_kind_23 : decode cL_kind 23 = .ok (.iconst 2, 1) := by decide +kernel
theorem dL_kind_24 : decode cL_kind 24 = .ok (.ireturn, 1) := by decide +kernel
theorem dL_kind_25 : decode cL_kind 25 = .ok (.iconst 0, 1) := by decide +kernel
theorem dL_kind_26 : decode cL_kind 26 = .ok (.ireturn, 1) := by decide +kernel
set_option maxRecDepth 20000 in
theorem ggL_place_X4_place : GoodIn wsL_place wsX4_place := goodIn_ca (goodIn_ca (goodIn_r _ [7, 8, 9, 10, 11, 6, 12, 13, 14, 15, 16, 17, 18, 19, 20, 21, 22, 23, 24, 25, 26, 27, 28, 29, 30, 31, 32, 33, 34, 35, 36, 37, 38, 39, 40, 41, 42, 43, 44, 45, 46, 47, 48, 49, 50, 51, 52, 53, 54, 55, 56, 57, 58, 59, 60, 61, 62, 63, 64, 65, 66, 67, 68, 69, 70, 71, 72, 73, 74, 75, 76, 77, 78, 79, 80, 81, 82, 83, 84, 85, 86, 87, 88, 89, 90, 91, 92, 93, 94, 95] (by decide +kernel) (by decide +kernel)) (goodIn_sub (fun _ h => List.mem_cons_of_mem _ (List.mem_append_left _ (List.mem_append_right _ h))) (by decide +kernel))) (goodIn_sub (fun _ h => List.mem_cons_of_mem _ (List.mem_append_right _ h)) (by decide +kernel))
set_option maxRecDepth 20000 in
theorem gL_place_X4_place : GoodIn wsL_place (wsV RL 17 RX4 yX4_place wsX4_place) := goodIn_app (goodIn_of _ (by decide +kernel)) ggL_place_X4_place
theorem dL_place_0 : decode cL_place 0 = .ok (.aload_n 3, 1) := by decide +kernel
theorem dL_place_1 : decode cL_place 1 = .ok (.iconst 0, 1) := by decide +kernel
theorem dL_place_2 : decode cL_place 2 = .ok (.aload_n 0, 1) := by decide +kernel
theorem dL_place_3 : decode cL_place 3 = .ok (.iload_n 1, 1) := by decide +kernel
theorem dL_place_4 : decode cL_place 4 = .ok (.iload_n 2, 1) := by decide +kernel
theorem dL_place_5 : decode cL_place 5 = .ok (.invokevirtual 17, 3) := by decide +kernel
theorem dL_place_8 : decode cL_place 8 = .ok (.i2l, 1) := by decide +kernel
theorem dL_place_9 : decode cL_place 9 = .ok (.lastore, 1) := by decide +kernel
theorem dL_place_10 : decode cL_place 10 = .ok (.goto 11, 3) := by decide +kernel
theorem dL_place_13 : decode cL_place 13 = .ok (.astore 4, 2) := by decide +kernel
theorem dL_place_15 : decode cL_place 15 = .ok (.iconst 1, 1) := by decide +kernel
theorem dL_place_16 : decode cL_place 16 = .ok (.ireturn, 1) := by decide +kernel
theorem dL_place_17 : decode cL_place 17 = .ok (.astore 4, 2) := by decide +kernel
theorem dL_place_19 : decode cL_place 19 = .ok (.iconst 2, 1) := by decide +kernel
theorem dL_place_20 : decode cL_place 20 = .ok (.ireturn, 1) := by decide +kernel
theorem dL_place_21 : decode cL_place 21 = .ok (.iconst 0, 1) := by decide +kernel
theorem dL_place_22 : decode cL_place 22 = .ok (.ireturn, 1) := by decide +kernel
set_option maxRecDepth 20000 in
theorem ggL_point_X4_point : GoodIn wsL_point wsX4_point := goodIn_ca (goodIn_ca (goodIn_r _ [7, 8, 9, 10, 11, 12, 6, 13, 14, 15, 16, 17, 18, 19, 20, 21, 22, 23, 24, 25, 26, 27, 28, 29, 30, 31, 32, 33, 34, 35, 36, 37, 38, 39, 40, 41, 42, 43, 44, 45, 46, 47, 48, 49, 50, 51, 52, 53, 54, 55, 56, 57, 58, 59, 60, 61, 62, 63, 64, 65, 66, 67, 68, 69, 70, 71, 72, 73, 74, 75, 76, 77, 78, 79, 80, 81, 82, 83, 84, 85, 86, 87, 88, 89, 90, 91, 92, 93, 94, 95, 96, 97] (by decide +kernel) (by decide +kernel)) (goodIn_sub (fun _ h => List.mem_cons_of_mem _ (List.mem_append_left _ (List.mem_append_right _ h))) (by decide +kernel))) (goodIn_sub (fun _ h => List.mem_cons_of_mem _ (List.mem_append_right _ h)) (by decide +kernel))
set_option maxRecDepth 20000 in
theorem gL_point_X4_point : GoodIn wsL_point (wsV RL 21 RX4 yX4_point wsX4_point) := goodIn_app (goodIn_of _ (by decide +kernel)) ggL_point_X4_point
theorem dL_point_0 : decode cL_point 0 = .ok (.aload 4, 2) := by decide +kernel
theorem dL_point_2 : decode cL_point 2 = .ok (.iconst 0, 1) := by decide +kernel
theorem dL_point_3 : decode cL_point 3 = .ok (.aload_n 0, 1) := by decide +kernel
theorem dL_point_4 : decode cL_point 4 = .ok (.iload_n 1, 1) := by decide +kernel
theorem dL_point_5 : decode cL_point 5 = .ok (.iload_n 2, 1) := by decide +kernel
theorem dL_point_6 : decode cL_point 6 = .ok (.iload_n 3, 1) := by decide +kernel
theorem dL_point_7 : decode cL_point 7 = .ok (.invokevirtual 21, 3) := by decide +kernel
theorem dL_point_10 : decode cL_point 10 = .ok (.i2l, 1) := by decide +kernel
theorem dL_point_11 : decode cL_point 11 = .ok (.lastore, 1) := by decide +kernel
theorem dL_point_12 : decode cL_point 12 = .ok (.goto 11, 3) := by decide +kernel
theorem dL_point_15 : decode cL_point 15 = .ok (.astore 5, 2) := by decide +kernel
theorem dL_point_17 : decode cL_point 17 = .ok (.iconst 1, 1) := by decide +kernel
theorem dL_point_18 : decode cL_point 18 = .ok (.ireturn, 1) := by decide +kernel
theorem dL_point_19 : decode cL_point 19 = .ok (.astore 5, 2) := by decide +kernel
theorem dL_point_21 : decode cL_point 21 = .ok (.iconst 2, 1) := by decide +kernel
theorem dL_point_22 : decode cL_point 22 = .ok (.ireturn, 1) := by decide +kernel
theorem dL_point_23 : decode cL_point 23 = .ok (.iconst 0, 1) := by decide +kernel
theorem dL_point_24 : decode cL_point 24 = .ok (.ireturn, 1) := by decide +kernel
set_option maxRecDepth 20000 in
theorem ggL_height_X4_height : GoodIn wsL_height wsX4_height := goodIn_ca (goodIn_r _ [6, 7, 8, 9, 10, 5, 11, 12, 13, 14, 15, 16, 17, 18, 19, 20, 21, 22, 23, 24, 25, 26, 27, 28, 29, 30, 31, 32, 33, 34, 35, 36, 37, 38, 39, 40, 41, 42, 43, 44, 45, 46, 47, 48, 49, 50, 51, 52, 53, 54, 55, 56, 57, 58, 59, 60, 61, 62, 63, 64, 65, 66, 67, 68, 69, 70, 71, 72, 73, 74, 75, 76, 77, 78, 79, 80, 81] (by decide +kernel) (by decide +kernel)) (goodIn_sub (fun _ h => List.mem_cons_of_mem _ (List.mem_append_right _ h)) (by decide +kernel))
set_option maxRecDepth 20000 in
theorem gL_height_X4_height : GoodIn wsL_height (wsV RL 25 RX4 yX4_height wsX4_height) := goodIn_app (goodIn_of _ (by decide +kernel)) ggL_height_X4_height
theorem dL_height_0 : decode cL_height 0 = .ok (.aload_n 2, 1) := by decide +kernel
theorem dL_height_1 : decode cL_height 1 = .ok (.iconst 0, 1) := by decide +kernel
theorem dL_height_2 : decode cL_height 2 = .ok (.aload_n 0, 1) := by decide +kernel
theorem dL_height_3 : decode cL_height 3 = .ok (.iload_n 1, 1) := by decide +kernel
theorem dL_height_4 : decode cL_height 4 = .ok (.invokevirtual 25, 3) := by decide +kernel
theorem dL_height_7 : decode cL_height 7 = .ok (.i2l, 1) := by decide +kernel
theorem dL_height_8 : decode cL_height 8 = .ok (.lastore, 1) := by decide +kernel
theorem dL_height_9 : decode cL_height 9 = .ok (.goto 6, 3) := by decide +kernel
theorem dL_height_12 : decode cL_height 12 = .ok (.astore_n 3, 1) := by decide +kernel
theorem dL_height_13 : decode cL_height 13 = .ok (.iconst 1, 1) := by decide +kernel
theorem dL_height_14 : decode cL_height 14 = .ok (.ireturn, 1) := by decide +kernel
theorem dL_height_15 : decode cL_height 15 = .ok (.iconst 0, 1) := by decide +kernel
theorem dL_height_16 : decode cL_height 16 = .ok (.ireturn, 1) := by decide +kernel
set_option maxRecDepth 20000 in
theorem ggL_hold_X4_hold : GoodIn wsL_hold wsX4_hold := goodIn_ca (goodIn_r _ [6, 7, 8, 9, 10, 11, 12, 5, 13, 14, 15, 16, 17, 18, 19, 20, 21, 22, 23, 24, 25, 26, 27, 28, 29, 30, 31, 32, 33, 34, 35, 36, 37, 38, 39, 40, 41, 42, 43, 44, 45, 46, 47, 48, 49, 50, 51, 52, 53, 54, 55, 56, 57, 58, 59, 60, 61, 62, 63, 64, 65, 66, 67, 68, 69, 70, 71, 72, 73, 74, 75, 76, 77, 78, 79, 80, 81, 82, 83, 84, 85, 86, 87] (by decide +kernel) (by decide +kernel)) (goodIn_sub (fun _ h => List.mem_cons_of_mem _ (List.mem_append_right _ h)) (by decide +kernel))
set_option maxRecDepth 20000 in
theorem gL_hold_X4_hold : GoodIn wsL_hold (wsV RL 29 RX4 yX4_hold wsX4_hold) := goodIn_app (goodIn_of _ (by decide +kernel)) ggL_hold_X4_hold
theorem dL_hold_0 : decode cL_hold 0 = .ok (.aload_n 0, 1) := by decide +kernel
theorem dL_hold_1 : decode cL_hold 1 = .ok (.iload_n 1, 1) := by decide +kernel
theorem dL_hold_2 : decode cL_hold 2 = .ok (.iload_n 2, 1) := by decide +kernel
theorem dL_hold_3 : decode cL_hold 3 = .ok (.invokevirtual 29, 3) := by decide +kernel
theorem dL_hold_6 : decode cL_hold 6 = .ok (.goto 6, 3) := by decide +kernel
theorem dL_hold_9 : decode cL_hold 9 = .ok (.astore_n 3, 1) := by decide +kernel
theorem dL_hold_10 : decode cL_hold 10 = .ok (.iconst 1, 1) := by decide +kernel
theorem dL_hold_11 : decode cL_hold 11 = .ok (.ireturn, 1) := by decide +kernel
theorem dL_hold_12 : decode cL_hold 12 = .ok (.iconst 0, 1) := by decide +kernel
theorem dL_hold_13 : decode cL_hold 13 = .ok (.ireturn, 1) := by decide +kernel
set_option maxRecDepth 20000 in
theorem ggL_light_X4_light : GoodIn wsL_light wsX4_light := goodIn_ca (goodIn_r _ [6, 7, 8, 9, 10, 5, 11, 12, 13, 14, 15, 16, 17, 18, 19, 20, 21, 22, 23, 24, 25, 26, 27, 28, 29, 30, 31, 32, 33, 34, 35, 36, 37, 38, 39, 40, 41, 42, 43, 44, 45, 46, 47, 48, 49, 50, 51, 52, 53, 54, 55] (by decide +kernel) (by decide +kernel)) (goodIn_sub (fun _ h => List.mem_cons_of_mem _ (List.mem_append_right _ h)) (by decide +kernel))
set_option maxRecDepth 20000 in
theorem gL_light_X4_light : GoodIn wsL_light (wsV RL 33 RX4 yX4_light wsX4_light) := goodIn_app (goodIn_of _ (by decide +kernel)) ggL_light_X4_light
theorem dL_light_0 : decode cL_light 0 = .ok (.aload 4, 2) := by decide +kernel
theorem dL_light_2 : decode cL_light 2 = .ok (.iconst 0, 1) := by decide +kernel
theorem dL_light_3 : decode cL_light 3 = .ok (.aload_n 0, 1) := by decide +kernel
theorem dL_light_4 : decode cL_light 4 = .ok (.iload_n 1, 1) := by decide +kernel
theorem dL_light_5 : decode cL_light 5 = .ok (.iload_n 2, 1) := by decide +kernel
theorem dL_light_6 : decode cL_light 6 = .ok (.iload_n 3, 1) := by decide +kernel
theorem dL_light_7 : decode cL_light 7 = .ok (.invokevirtual 33, 3) := by decide +kernel
theorem dL_light_10 : decode cL_light 10 = .ok (.i2l, 1) := by decide +kernel
theorem dL_light_11 : decode cL_light 11 = .ok (.lastore, 1) := by decide +kernel
theorem dL_light_12 : decode cL_light 12 = .ok (.goto 7, 3) := by decide +kernel
theorem dL_light_15 : decode cL_light 15 = .ok (.astore 5, 2) := by decide +kernel
theorem dL_light_17 : decode cL_light 17 = .ok (.iconst 1, 1) := by decide +kernel
theorem dL_light_18 : decode cL_light 18 = .ok (.ireturn, 1) := by decide +kernel
theorem dL_light_19 : decode cL_light 19 = .ok (.iconst 0, 1) := by decide +kernel
theorem dL_light_20 : decode cL_light 20 = .ok (.ireturn, 1) := by decide +kernel
set_option maxRecDepth 20000 in
theorem ggL_lamp_X4_lamp : GoodIn wsL_lamp wsX4_lamp := goodIn_ca (goodIn_r _ [6, 7, 8, 9, 10, 11, 12, 5, 13, 14, 15, 16, 17, 18, 19, 20, 21, 22, 23, 24, 25, 26, 27, 28, 29, 30, 31, 32, 33, 34, 35, 36, 37, 38, 39, 40, 41, 42, 43, 44, 45, 46, 47, 48, 49, 50, 51, 52, 53, 54, 55, 56, 57, 58, 59, 60, 61, 62, 63, 64, 65, 66, 67, 68, 69, 70, 71, 72, 73, 74, 75, 76, 77, 78, 79, 80, 81, 82, 83, 84, 85, 86, 87, 88, 89, 90, 91, 92, 93, 94, 95, 96, 97, 98, 99, 100, 101, 102, 103, 104, 105, 106, 107, 108, 109, 110, 111, 112, 113, 114, 115, 116, 117, 118, 119, 120, 121, 122, 123, 124, 125, 126, 127, 128, 129, 130, 131, 132, 133, 134, 135, 136, 137, 138, 139, 140, 141, 142, 143, 144] (by decide +kernel) (by decide +kernel)) (goodIn_sub (fun _ h => List.mem_cons_of_mem _ (List.mem_append_right _ h)) (by decide +kernel))
set_option maxRecDepth 20000 in
theorem gL_lamp_X4_lamp : GoodIn wsL_lamp (wsV RL 36 RX4 yX4_lamp wsX4_lamp) := goodIn_app (goodIn_of _ (by decide +kernel)) ggL_lamp_X4_lamp
theorem dL_lamp_0 : decode cL_lamp 0 = .ok (.aload_n 2, 1) := by decide +kernel
theorem dL_lamp_1 : decode cL_lamp 1 = .ok (.iconst 0, 1) := by decide +kernel
theorem dL_lamp_2 : decode cL_lamp 2 = .ok (.aload_n 0, 1) := by decide +kernel
theorem dL_lamp_3 : decode cL_lamp 3 = .ok (.iload_n 1, 1) := by decide +kernel
theorem dL_lamp_4 : decode cL_lamp 4 = .ok (.invokevirtual 36, 3) := by decide +kernel
theorem dL_lamp_7 : decode cL_lamp 7 = .ok (.i2l, 1) := by decide +kernel
theorem dL_lamp_8 : decode cL_lamp 8 = .ok (.lastore, 1) := by decide +kernel
theorem dL_lamp_9 : decode cL_lamp 9 = .ok (.goto 6, 3) := by decide +kernel
theorem dL_lamp_12 : decode cL_lamp 12 = .ok (.astore_n 3, 1) := by decide +kernel
theorem dL_lamp_13 : decode cL_lamp 13 = .ok (.iconst 1, 1) := by decide +kernel
theorem dL_lamp_14 : decode cL_lamp 14 = .ok (.ireturn, 1) := by decide +kernel
theorem dL_lamp_15 : decode cL_lamp 15 = .ok (.iconst 0, 1) := by decide +kernel
theorem dL_lamp_16 : decode cL_lamp 16 = .ok (.ireturn, 1) := by decide +kernel
set_option maxRecDepth 20000 in
theorem ggL_level_X4_level : GoodIn wsL_level wsX4_level := goodIn_ca (goodIn_r _ [6, 7, 8, 9, 10, 11, 12, 5, 13, 14, 15, 16, 17, 18, 19, 20, 21, 22, 23, 24, 25, 26, 27, 28, 29, 30, 31, 32, 33, 34, 35, 36, 37, 38, 39, 40, 41, 42, 43, 44, 45, 46, 47, 48, 49, 50, 51, 52, 53, 54, 55, 56, 57, 58, 59, 60, 61, 62, 63, 64, 65, 66, 67, 68, 69, 70, 71, 72, 73, 74, 75, 76, 77, 78, 79, 80, 81, 82, 83, 84, 85, 86, 87, 88, 89, 90, 91, 92, 93, 94, 95, 96, 97, 98, 99, 100, 101, 102, 103, 104, 105, 106, 107, 108, 109, 110, 111, 112, 113, 114, 115, 116, 117, 118, 119, 120, 121, 122, 123, 124, 125, 126, 127, 128, 129, 130, 131, 132, 133, 134, 135, 136, 137, 138, 139, 140, 141, 142, 143, 144] (by decide +kernel) (by decide +kernel)) (goodIn_sub (fun _ h => List.mem_cons_of_mem _ (List.mem_append_right _ h)) (by decide +kernel))
set_option maxRecDepth 20000 in
theorem gL_level_X4_level : GoodIn wsL_level (wsV RL 39 RX4 yX4_level wsX4_level) := goodIn_app (goodIn_of _ (by decide +kernel)) ggL_level_X4_level
theorem dL_level_0 : decode cL_level 0 = .ok (.aload_n 2, 1) := by decide +kernel
theorem dL_level_1 : decode cL_level 1 = .ok (.iconst 0, 1) := by decide +kernel
theorem dL_level_2 : decode cL_level 2 = .ok (.aload_n 0, 1) := by decide +kernel
theorem dL_level_3 : decode cL_level 3 = .ok (.iload_n 1, 1) := by decide +kernel
theorem dL_level_4 : decode cL_level 4 = .ok (.invokevirtual 39, 3) := by decide +kernel
theorem dL_level_7 : decode cL_level 7 = .ok (.i2l, 1) := by decide +kernel
theorem dL_level_8 : decode cL_level 8 = .ok (.lastore, 1) := by decide +kernel
theorem dL_level_9 : decode cL_level 9 = .ok (.goto 6, 3) := by decide +kernel
theorem dL_level_12 : decode cL_level 12 = .ok (.astore_n 3, 1) := by decide +kernel
theorem dL_level_13 : decode cL_level 13 = .ok (.iconst 1, 1) := by decide +kernel
theorem dL_level_14 : decode cL_level 14 = .ok (.ireturn, 1) := by decide +kernel
theorem dL_level_15 : decode cL_level 15 = .ok (.iconst 0, 1) := by decide +kernel
theorem dL_level_16 : decode cL_level 16 = .ok (.ireturn, 1) := by decide +kernel
set_option maxRecDepth 20000 in
theorem ggL_even_X4_even : GoodIn wsL_even wsX4_even := goodIn_ca (goodIn_r _ [6, 7, 8, 9, 10, 11, 5, 12, 13, 14, 15, 16, 17, 18, 19, 20, 21, 22, 23, 24, 25, 26, 27, 28, 29, 30, 31, 32, 33, 34, 35, 36, 37, 38, 39, 40, 41, 42, 43, 44, 45, 46, 47, 48, 49, 50, 51, 52, 53, 54, 55, 56, 57, 58, 59, 60, 61, 62, 63, 64, 65, 66, 67, 68, 69, 70, 71, 72, 73, 74, 75, 76, 77, 78, 79, 80, 81, 82, 83, 84, 85, 86, 87, 88, 89, 90, 91, 92, 93, 94, 95, 96, 97, 98, 99, 100, 101, 102, 103, 104, 105, 106, 107, 108, 109, 110, 111, 112, 113, 114, 115, 116, 117, 118, 119, 120, 121, 122, 123, 124, 125, 126, 127, 128, 129, 130, 131, 132, 133, 134, 135, 136, 137, 138, 139, 140, 141, 142, 143, 144, 145, 146, 147, 148, 149] (by decide +kernel) (by decide +kernel)) (goodIn_sub (fun _ h => List.mem_cons_of_mem _ (List.mem_append_right _ h)) (by decide +kernel))
set_option maxRecDepth 20000 in
theorem gL_even_X4_even : GoodIn wsL_even (wsV RL 42 RX4 yX4_even wsX4_even) := goodIn_app (goodIn_of _ (by decide +kernel)) ggL_even_X4_even
theorem dL_even_0 : decode cL_even 0 = .ok (.aload_n 2, 1) := by decide +kernel
theorem dL_even_1 : decode cL_even 1 = .ok (.iconst 0, 1) := by decide +kernel
theorem dL_even_2 : decode cL_even 2 = .ok (.aload_n 0, 1) := by decide +kernel
theorem dL_even_3 : decode cL_even 3 = .ok (.iload_n 1, 1) := by decide +kernel
theorem dL_even_4 : decode cL_even 4 = .ok (.invokevirtual 42, 3) := by decide +kernel
theorem dL_even_7 : decode cL_even 7 = .ok (.lastore, 1) := by decide +kernel
theorem dL_even_8 : decode cL_even 8 = .ok (.goto 6, 3) := by decide +kernel
theorem dL_even_11 : decode cL_even 11 = .ok (.astore_n 3, 1) := by decide +kernel
theorem dL_even_12 : decode cL_even 12 = .ok (.iconst 1, 1) := by decide +kernel
theorem dL_even_13 : decode cL_even 13 = .ok (.ireturn, 1) := by decide +kernel
theorem dL_even_14 : decode cL_even 14 = .ok (.iconst 0, 1) := by decide +kernel
theorem dL_even_15 : decode cL_even 15 = .ok (.ireturn, 1) := by decide +kernel
set_option maxRecDepth 20000 in
theorem ggL_aim_X4_aim : GoodIn wsL_aim wsX4_aim := goodIn_ca (goodIn_r _ [6, 7, 8, 9, 10, 11, 5, 12, 13, 14, 15, 16, 17, 18, 19, 20, 21, 22, 23, 24, 25, 26, 27, 28, 29, 30, 31, 32, 33, 34, 35, 36, 37, 38, 39, 40, 41, 42, 43, 44, 45, 46, 47, 48, 49, 50, 51] (by decide +kernel) (by decide +kernel)) (goodIn_sub (fun _ h => List.mem_cons_of_mem _ (List.mem_append_right _ h)) (by decide +kernel))
set_option maxRecDepth 20000 in
theorem gL_aim_X4_aim : GoodIn wsL_aim (wsV RL 46 RX4 yX4_aim wsX4_aim) := goodIn_app (goodIn_of _ (by decide +kernel)) ggL_aim_X4_aim
theorem dL_aim_0 : decode cL_aim 0 = .ok (.aload_n 3, 1) := by decide +kernel
theorem dL_aim_1 : decode cL_aim 1 = .ok (.iconst 0, 1) := by decide +kernel
theorem dL_aim_2 : decode cL_aim 2 = .ok (.aload_n 0, 1) := by decide +kernel
theorem dL_aim_3 : decode cL_aim 3 = .ok (.iload_n 1, 1) := by decide +kernel
theorem dL_aim_4 : decode cL_aim 4 = .ok (.iload_n 2, 1) := by decide +kernel
theorem dL_aim_5 : decode cL_aim 5 = .ok (.invokevirtual 46, 3) := by decide +kernel
theorem dL_aim_8 : decode cL_aim 8 = .ok (.i2l, 1) := by decide +kernel
theorem dL_aim_9 : decode cL_aim 9 = .ok (.lastore, 1) := by decide +kernel
theorem dL_aim_10 : decode cL_aim 10 = .ok (.goto 7, 3) := by decide +kernel
theorem dL_aim_13 : decode cL_aim 13 = .ok (.astore 4, 2) := by decide +kernel
theorem dL_aim_15 : decode cL_aim 15 = .ok (.iconst 1, 1) := by decide +kernel
theorem dL_aim_16 : decode cL_aim 16 = .ok (.ireturn, 1) := by decide +kernel
theorem dL_aim_17 : decode cL_aim 17 = .ok (.iconst 0, 1) := by decide +kernel
theorem dL_aim_18 : decode cL_aim 18 = .ok (.ireturn, 1) := by decide +kernel
set_option maxRecDepth 20000 in
theorem ggL_dim_X4_dim : GoodIn wsL_dim wsX4_dim := goodIn_ca (goodIn_r _ [6, 7, 8, 9, 10, 11, 12, 13, 5, 14, 15, 16, 17, 18, 19, 20, 21, 22, 23, 24, 25, 26, 27, 28, 29, 30, 31, 32, 33, 34, 35, 36, 37, 38, 39, 40, 41, 42, 43, 44, 45, 46, 47, 48, 49, 50, 51, 52, 53, 54, 55, 56, 57, 58, 59, 60, 61, 62, 63, 64, 65, 66, 67, 68, 69, 70, 71, 72, 73, 74, 75, 76, 77, 78, 79, 80, 81, 82, 83, 84, 85, 86, 87, 88, 89, 90, 91, 92, 93, 94, 95, 96, 97, 98, 99, 100, 101, 102, 103, 104, 105, 106, 107, 108, 109, 110, 111, 112, 113, 114, 115, 116, 117, 118, 119, 120, 121, 122, 123, 124, 125, 126, 127, 128, 129, 130, 131, 132, 133, 134, 135, 136, 137, 138, 139, 140, 141, 142, 143, 144, 145, 146, 147, 148, 149, 150, 151, 152, 153, 154, 155, 156, 157, 158, 159, 160, 161, 162, 163, 164, 165, 166, 167, 168, 169, 170, 171, 172, 173, 174, 175, 176, 177, 178, 179, 180, 181, 182, 183, 184, 185, 186, 187, 188, 189, 190, 191, 192, 193, 194, 195] (by decide +kernel) (by decide +kernel)) (goodIn_sub (fun _ h => List.mem_cons_of_mem _ (List.mem_append_right _ h)) (by decide +kernel))
set_option maxRecDepth 20000 in
theorem gL_dim_X4_dim : GoodIn wsL_dim (wsV RL 49 RX4 yX4_dim wsX4_dim) := goodIn_app (goodIn_of _ (by decide +kernel)) ggL_dim_X4_dim
theorem dL_dim_0 : decode cL_dim 0 = .ok (.aload_n 2, 1) := by decide +kernel
theorem dL_dim_1 : decode cL_dim 1 = .ok (.iconst 0, 1) := by decide +kernel
theorem dL_dim_2 : decode cL_dim 2 = .ok (.aload_n 0, 1) := by decide +kernel
theorem dL_dim_3 : decode cL_dim 3 = .ok (.iload_n 1, 1) := by decide +kernel
theorem dL_dim_4 : decode cL_dim 4 = .ok (.invokevirtual 49, 3) := by decide +kernel
theorem dL_dim_7 : decode cL_dim 7 = .ok (.i2l, 1) := by decide +kernel
theorem dL_dim_8 : decode cL_dim 8 = .ok (.lastore, 1) := by decide +kernel
theorem dL_dim_9 : decode cL_dim 9 = .ok (.goto 6, 3) := by decide +kernel
theorem dL_dim_12 : decode cL_dim 12 = .ok (.astore_n 3, 1) := by decide +kernel
theorem dL_dim_13 : decode cL_dim 13 = .ok (.iconst 1, 1) := by decide +kernel
theorem dL_dim_14 : decode cL_dim 14 = .ok (.ireturn, 1) := by decide +kernel
theorem dL_dim_15 : decode cL_dim 15 = .ok (.iconst 0, 1) := by decide +kernel
theorem dL_dim_16 : decode cL_dim 16 = .ok (.ireturn, 1) := by decide +kernel
set_option maxRecDepth 20000 in
theorem ggL_miss_X4_miss : GoodIn wsL_miss wsX4_miss := goodIn_ca (goodIn_r _ [6, 7, 8, 9, 10, 11, 5, 12, 13, 14, 15, 16, 17, 18, 19, 20, 21, 22, 23, 24, 25, 26, 27, 28, 29, 30, 31, 32, 33, 34, 35, 36, 37, 38, 39, 40, 41, 42, 43, 44, 45, 46, 47, 48, 49, 50, 51, 52, 53, 54, 55, 56, 57, 58, 59, 60, 61, 62, 63, 64, 65, 66, 67, 68, 69, 70, 71, 72, 73, 74, 75, 76, 77, 78, 79, 80, 81, 82, 83, 84, 85, 86, 87, 88, 89, 90, 91, 92, 93, 94, 95, 96, 97, 98, 99, 100, 101, 102, 103, 104, 105, 106, 107, 108, 109, 110, 111, 112, 113, 114, 115, 116, 117, 118, 119, 120, 121, 122, 123, 124, 125, 126, 127, 128, 129, 130, 131, 132, 133, 134, 135, 136, 137, 138, 139, 140, 141, 142, 143, 144, 145, 146, 147, 148, 149, 150, 151, 152, 153, 154, 155, 156, 157, 158, 159, 160, 161, 162, 163, 164, 165, 166, 167, 168, 169, 170, 171, 172, 173, 174, 175, 176, 177, 178, 179, 180, 181, 182, 183, 184, 185, 186, 187, 188, 189, 190, 191, 192, 193, 194] (by decide +kernel) (by decide +kernel)) (goodIn_sub (fun _ h => List.mem_cons_of_mem _ (List.mem_append_right _ h)) (by decide +kernel))
set_option maxRecDepth 20000 in
theorem gL_miss_X4_miss : GoodIn wsL_miss (wsV RL 52 RX4 yX4_miss wsX4_miss) := goodIn_app (goodIn_of _ (by decide +kernel)) ggL_miss_X4_miss
theorem dL_miss_0 : decode cL_miss 0 = .ok (.aload_n 2, 1) := by decide +kernel
theorem dL_miss_1 : decode cL_miss 1 = .ok (.iconst 0, 1) := by decide +kernel
theorem dL_miss_2 : decode cL_miss 2 = .ok (.aload_n 0, 1) := by decide +kernel
theorem dL_miss_3 : decode cL_miss 3 = .ok (.iload_n 1, 1) := by decide +kernel
theorem dL_miss_4 : decode cL_miss 4 = .ok (.invokevirtual 52, 3) := by decide +kernel
theorem dL_miss_7 : decode cL_miss 7 = .ok (.lastore, 1) := by decide +kernel
theorem dL_miss_8 : decode cL_miss 8 = .ok (.goto 6, 3) := by decide +kernel
theorem dL_miss_11 : decode cL_miss 11 = .ok (.astore_n 3, 1) := by decide +kernel
theorem dL_miss_12 : decode cL_miss 12 = .ok (.iconst 1, 1) := by decide +kernel
theorem dL_miss_13 : decode cL_miss 13 = .ok (.ireturn, 1) := by decide +kernel
theorem dL_miss_14 : decode cL_miss 14 = .ok (.iconst 0, 1) := by decide +kernel
theorem dL_miss_15 : decode cL_miss 15 = .ok (.ireturn, 1) := by decide +kernel
set_option maxRecDepth 20000 in
theorem ggL_sensor_X4_sensor : GoodIn wsL_sensor wsX4_sensor := goodIn_ca (goodIn_r _ [6, 7, 8, 9, 10, 11, 12, 13, 5, 14, 15, 16, 17, 18, 19, 20, 21, 22, 23, 24, 25, 26, 27, 28, 29, 30, 31, 32, 33, 34, 35, 36, 37, 38, 39, 40, 41, 42, 43, 44, 45, 46, 47, 48, 49, 50, 51, 52, 53, 54, 55, 56, 57, 58, 59, 60, 61, 62, 63, 64, 65, 66, 67, 68, 69, 70, 71, 72, 73, 74, 75, 76, 77, 78, 79, 80, 81, 82, 83, 84, 85, 86, 87] (by decide +kernel) (by decide +kernel)) (goodIn_sub (fun _ h => List.mem_cons_of_mem _ (List.mem_append_right _ h)) (by decide +kernel))
set_option maxRecDepth 20000 in
theorem gL_sensor_X4_sensor : GoodIn wsL_sensor (wsV RL 55 RX4 yX4_sensor wsX4_sensor) := goodIn_app (goodIn_of _ (by decide +kernel)) ggL_sensor_X4_sensor
theorem dL_sensor_0 : decode cL_sensor 0 = .ok (.aload_n 0, 1) := by decide +kernel
theorem dL_sensor_1 : decode cL_sensor 1 = .ok (.iload_n 1, 1) := by decide +kernel
theorem dL_sensor_2 : decode cL_sensor 2 = .ok (.iload_n 2, 1) := by decide +kernel
theorem dL_sensor_3 : decode cL_sensor 3 = .ok (.invokevirtual 55, 3) := by decide +kernel
theorem dL_sensor_6 : decode cL_sensor 6 = .ok (.goto 6, 3) := by decide +kernel
theorem dL_sensor_9 : decode cL_sensor 9 = .ok (.astore_n 3, 1) := by decide +kernel
theorem dL_sensor_10 : decode cL_sensor 10 = .ok (.iconst 1, 1) := by decide +kernel
theorem dL_sensor_11 : decode cL_sensor 11 = .ok (.ireturn, 1) := by decide +kernel
theorem dL_sensor_12 : decode cL_sensor 12 = .ok (.iconst 0, 1) := by decide +kernel
theorem dL_sensor_13 : decode cL_sensor 13 = .ok (.ireturn, 1) := by decide +kernel
set_option maxRecDepth 20000 in
theorem ggL_daylight_X4_daylight : GoodIn wsL_daylight wsX4_daylight := goodIn_ca (goodIn_r _ [6, 7, 8, 9, 10, 11, 12, 5, 13, 14, 15, 16, 17, 18, 19, 20, 21, 22, 23, 24, 25, 26, 27, 28, 29, 30, 31, 32, 33, 34, 35, 36, 37, 38, 39, 40, 41, 42, 43, 44, 45, 46, 47, 48, 49] (by decide +kernel) (by decide +kernel)) (goodIn_sub (fun _ h => List.mem_cons_of_mem _ (List.mem_append_right _ h)) (by decide +kernel))
set_option maxRecDepth 20000 in
theorem gL_daylight_X4_daylight : GoodIn wsL_daylight (wsV RL 58 RX4 yX4_daylight wsX4_daylight) := goodIn_app (goodIn_of _ (by decide +kernel)) ggL_daylight_X4_daylight
theorem dL_daylight_0 : decode cL_daylight 0 = .ok (.aload_n 3, 1) := by decide +kernel
theorem dL_daylight_1 : decode cL_daylight 1 = .ok (.iconst 0, 1) := by decide +kernel
theorem dL_daylight_2 : decode cL_daylight 2 = .ok (.aload_n 0, 1) := by decide +kernel
theorem dL_daylight_3 : decode cL_daylight 3 = .ok (.iload_n 1, 1) := by decide +kernel
theorem dL_daylight_4 : decode cL_daylight 4 = .ok (.iload_n 2, 1) := by decide +kernel
theorem dL_daylight_5 : decode cL_daylight 5 = .ok (.invokevirtual 58, 3) := by decide +kernel
theorem dL_daylight_8 : decode cL_daylight 8 = .ok (.i2l, 1) := by decide +kernel
theorem dL_daylight_9 : decode cL_daylight 9 = .ok (.lastore, 1) := by decide +kernel
theorem dL_daylight_10 : decode cL_daylight 10 = .ok (.goto 7, 3) := by decide +kernel
theorem dL_daylight_13 : decode cL_daylight 13 = .ok (.astore 4, 2) := by decide +kernel
theorem dL_daylight_15 : decode cL_daylight 15 = .ok (.iconst 1, 1) := by decide +kernel
theorem dL_daylight_16 : decode cL_daylight 16 = .ok (.ireturn, 1) := by decide +kernel
theorem dL_daylight_17 : decode cL_daylight 17 = .ok (.iconst 0, 1) := by decide +kernel
theorem dL_daylight_18 : decode cL_daylight 18 = .ok (.ireturn, 1) := by decide +kernel
set_option maxRecDepth 20000 in
theorem ggL_step_X4_step : GoodIn wsL_step wsX4_step := goodIn_ca (goodIn_r _ [6, 7, 8, 9, 10, 5, 11, 12, 13, 14, 15, 16, 17, 18, 19, 20, 21, 22, 23, 24, 25, 26, 27, 28] (by decide +kernel) (by decide +kernel)) (goodIn_sub (fun _ h => List.mem_cons_of_mem _ (List.mem_append_right _ h)) (by decide +kernel))
set_option maxRecDepth 20000 in
theorem gL_step_X4_step : GoodIn wsL_step (wsV RL 61 RX4 yX4_step wsX4_step) := goodIn_app (goodIn_of _ (by decide +kernel)) ggL_step_X4_step
theorem dL_step_0 : decode cL_step 0 = .ok (.aload_n 2, 1) := by decide +kernel
theorem dL_step_1 : decode cL_step 1 = .ok (.iconst 0, 1) := by decide +kernel
theorem dL_step_2 : decode cL_step 2 = .ok (.aload_n 0, 1) := by decide +kernel
theorem dL_step_3 : decode cL_step 3 = .ok (.iload_n 1, 1) := by decide +kernel
theorem dL_step_4 : decode cL_step 4 = .ok (.invokevirtual 61, 3) := by decide +kernel
theorem dL_step_7 : decode cL_step 7 = .ok (.i2l, 1) := by decide +kernel
theorem dL_step_8 : decode cL_step 8 = .ok (.lastore, 1) := by decide +kernel
theorem dL_step_9 : decode cL_step 9 = .ok (.goto 6, 3) := by decide +kernel
theorem dL_step_12 : decode cL_step 12 = .ok (.astore_n 3, 1) := by decide +kernel
theorem dL_step_13 : decode cL_step 13 = .ok (.iconst 1, 1) := by decide +kernel
theorem dL_step_14 : decode cL_step 14 = .ok (.ireturn, 1) := by decide +kernel
theorem dL_step_15 : decode cL_step 15 = .ok (.iconst 0, 1) := by decide +kernel
theorem dL_step_16 : decode cL_step 16 = .ok (.ireturn, 1) := by decide +kernel
set_option maxRecDepth 20000 in
theorem ggL_run_X4_run : GoodIn wsL_run wsX4_run := goodIn_ca (goodIn_ca (goodIn_r _ [7, 8, 9, 10, 11, 12, 13, 14, 15, 6, 16, 17, 18, 19, 20, 21, 22, 23, 24, 25, 26, 27, 28, 29, 30, 31, 32, 33, 34, 35, 36, 37, 38, 39, 40, 41, 42, 43, 44, 45, 46, 47, 48, 49, 50, 51, 52, 53, 54, 55, 56, 57, 58, 59, 60, 61, 62, 63, 64, 65, 66, 67, 68, 69, 70, 71, 72, 73, 74, 75, 76, 77, 78, 79, 80, 81, 82, 83, 84, 85, 86, 87, 88, 89, 90, 91, 92, 93, 94, 95, 96, 97, 98, 99, 100, 101, 102, 103, 104, 105, 106, 107, 108, 109, 110, 111, 112, 113, 114, 115, 116, 117, 118, 119, 120, 121, 122, 123, 124, 125, 126, 127, 128, 129, 130, 131, 132, 133, 134, 135, 136, 137, 138, 139, 140, 141, 142, 143, 144, 145, 146, 147, 148, 149, 150, 151, 152, 153, 154, 155, 156, 157, 158, 159, 160, 161, 162, 163, 164, 165, 166, 167, 168, 169, 170, 171, 172, 173, 174, 175, 176, 177, 178, 179, 180, 181, 182, 183, 184, 185, 186, 187, 188, 189, 190, 191, 192, 193, 194, 195, 196, 197, 198, 199, 200, 201] (by decide +kernel) (by decide +kernel)) (goodIn_sub (fun _ h => List.mem_cons_of_mem _ (List.mem_append_left _ (List.mem_append_right _ h))) (by decide +kernel))) (goodIn_sub (fun _ h => List.mem_cons_of_mem _ (List.mem_append_right _ h)) (by decide +kernel))
set_option maxRecDepth 20000 in
theorem gL_run_X4_run : GoodIn wsL_run (wsV RL 64 RX4 yX4_run wsX4_run) := goodIn_app (goodIn_of _ (by decide +kernel)) ggL_run_X4_run
theorem dL_run_0 : decode cL_run 0 = .ok (.aload_n 2, 1) := by decide +kernel
theorem dL_run_1 : decode cL_run 1 = .ok (.iconst 0, 1) := by decide +kernel
theorem dL_run_2 : decode cL_run 2 = .ok (.aload_n 0, 1) := by decide +kernel
theorem dL_run_3 : decode cL_run 3 = .ok (.iload_n 1, 1) := by decide +kernel
theorem dL_run_4 : decode cL_run 4 = .ok (.invokevirtual 64, 3) := by decide +kernel
theorem dL_run_7 : decode cL_run 7 = .ok (.i2l, 1) := by decide +kernel
theorem dL_run_8 : decode cL_run 8 = .ok (.lastore, 1) := by decide +kernel
theorem dL_run_9 : decode cL_run 9 = .ok (.goto 9, 3) := by decide +kernel
theorem dL_run_12 : decode cL_run 12 = .ok (.astore_n 3, 1) := by decide +kernel
theorem dL_run_13 : decode cL_run 13 = .ok (.iconst 1, 1) := by decide +kernel
theorem dL_run_14 : decode cL_run 14 = .ok (.ireturn, 1) := by decide +kernel
theorem dL_run_15 : decode cL_run 15 = .ok (.astore_n 3, 1) := by decide +kernel
theorem dL_run_16 : decode cL_run 16 = .ok (.iconst 2, 1) := by decide +kernel
theorem dL_run_17 : decode cL_run 17 = .ok (.ireturn, 1) := by decide +kernel
theorem dL_run_18 : decode cL_run 18 = .ok (.iconst 0, 1) := by decide +kernel
theorem dL_run_19 : decode cL_run 19 = .ok (.ireturn, 1) := by decide +kernel
set_option maxRecDepth 20000 in
theorem ggL_own_X4_own : GoodIn wsL_own wsX4_own := goodIn_ca (goodIn_r _ [6, 7, 8, 9, 10, 11, 12, 13, 14, 5, 15, 16, 17, 18, 19, 20, 21, 22, 23, 24, 25, 26, 27, 28, 29, 30, 31, 32, 33, 34, 35, 36, 37, 38, 39, 40, 41, 42, 43, 44, 45, 46, 47, 48, 49, 50, 51, 52, 53, 54, 55, 56, 57, 58, 59, 60, 61, 62, 63, 64, 65, 66, 67, 68, 69, 70, 71, 72, 73, 74, 75, 76, 77, 78, 79, 80, 81, 82, 83, 84, 85, 86, 87, 88, 89, 90, 91, 92, 93, 94, 95, 96, 97, 98, 99, 100, 101, 102, 103, 104, 105, 106, 107, 108, 109, 110, 111, 112, 113, 114, 115, 116, 117, 118, 119, 120, 121, 122, 123, 124, 125, 126, 127, 128, 129, 130, 131, 132, 133, 134, 135, 136, 137, 138, 139, 140, 141, 142, 143, 144, 145, 146, 147, 148, 149, 150, 151, 152, 153, 154, 155, 156, 157] (by decide +kernel) (by decide +kernel)) (goodIn_sub (fun _ h => List.mem_cons_of_mem _ (List.mem_append_right _ h)) (by decide +kernel))
set_option maxRecDepth 20000 in
theorem gL_own_X4_own : GoodIn wsL_own (wsV RL 67 RX4 yX4_own wsX4_own) := goodIn_app (goodIn_of _ (by decide +kernel)) ggL_own_X4_own
theorem dL_own_0 : decode cL_own 0 = .ok (.aload_n 3, 1) := by decide +kernel
theorem dL_own_1 : decode cL_own 1 = .ok (.iconst 0, 1) := by decide +kernel
theorem dL_own_2 : decode cL_own 2 = .ok (.aload_n 0, 1) := by decide +kernel
theorem dL_own_3 : decode cL_own 3 = .ok (.iload_n 1, 1) := by decide +kernel
theorem dL_own_4 : decode cL_own 4 = .ok (.iload_n 2, 1) := by decide +kernel
theorem dL_own_5 : decode cL_own 5 = .ok (.invokevirtual 67, 3) := by decide +kernel
theorem dL_own_8 : decode cL_own 8 = .ok (.i2l, 1) := by decide +kernel
theorem dL_own_9 : decode cL_own 9 = .ok (.lastore, 1) := by decide +kernel
theorem dL_own_10 : decode cL_own 10 = .ok (.goto 7, 3) := by decide +kernel
theorem dL_own_13 : decode cL_own 13 = .ok (.astore 4, 2) := by decide +kernel
theorem dL_own_15 : decode cL_own 15 = .ok (.iconst 1, 1) := by decide +kernel
theorem dL_own_16 : decode cL_own 16 = .ok (.ireturn, 1) := by decide +kernel
theorem dL_own_17 : decode cL_own 17 = .ok (.iconst 0, 1) := by decide +kernel
theorem dL_own_18 : decode cL_own 18 = .ok (.ireturn, 1) := by decide +kernel
set_option maxRecDepth 20000 in
theorem ggL_used_X4_used : GoodIn wsL_used wsX4_used := goodIn_ca (goodIn_r _ [6, 7, 8, 9, 10, 11, 12, 5, 13, 14, 15, 16, 17, 18, 19, 20, 21, 22, 23, 24, 25, 26, 27, 28, 29, 30] (by decide +kernel) (by decide +kernel)) (goodIn_sub (fun _ h => List.mem_cons_of_mem _ (List.mem_append_right _ h)) (by decide +kernel))
set_option maxRecDepth 20000 in
theorem gL_used_X4_used : GoodIn wsL_used (wsV RL 70 RX4 yX4_used wsX4_used) := goodIn_app (goodIn_of _ (by decide +kernel)) ggL_used_X4_used
theorem dL_used_0 : decode cL_used 0 = .ok (.aload_n 2, 1) := by decide +kernel
theorem dL_used_1 : decode cL_used 1 = .ok (.iconst 0, 1) := by decide +kernel
theorem dL_used_2 : decode cL_used 2 = .ok (.aload_n 0, 1) := by decide +kernel
theorem dL_used_3 : decode cL_used 3 = .ok (.iload_n 1, 1) := by decide +kernel
theorem dL_used_4 : decode cL_used 4 = .ok (.invokevirtual 70, 3) := by decide +kernel
theorem dL_used_7 : decode cL_used 7 = .ok (.lastore, 1) := by decide +kernel
theorem dL_used_8 : decode cL_used 8 = .ok (.goto 6, 3) := by decide +kernel
theorem dL_used_11 : decode cL_used 11 = .ok (.astore_n 3, 1) := by decide +kernel
theorem dL_used_12 : decode cL_used 12 = .ok (.iconst 1, 1) := by decide +kernel
theorem dL_used_13 : decode cL_used 13 = .ok (.ireturn, 1) := by decide +kernel
theorem dL_used_14 : decode cL_used 14 = .ok (.iconst 0, 1) := by decide +kernel
theorem dL_used_15 : decode cL_used 15 = .ok (.ireturn, 1) := by decide +kernel
set_option maxRecDepth 20000 in
theorem ggL_law_X4_init : GoodIn wsL_law wsX4_init := goodIn_r _ [9, 10, 11, 12, 13, 14, 15, 16, 17, 18, 19, 20, 21, 22, 23, 24, 25, 26, 27, 28, 29, 30, 31, 32, 33, 34, 35, 36, 37, 38, 39, 40, 41, 42, 43, 44, 45, 46, 47, 48, 49, 50, 51, 52, 53, 54, 55, 56, 57, 58, 59, 60, 61, 6, 62, 63, 64, 65, 66, 67, 68, 69, 70, 71, 72, 73, 74, 75, 687, 688, 689, 690, 691, 692, 693, 694, 695, 696, 697, 698, 699, 700, 701, 702, 703, 704, 705, 706, 707, 708, 709, 710, 711, 712, 647, 648, 649, 650, 713, 714, 715, 716, 717, 718, 719, 720, 721, 722, 723, 724, 725, 726, 727, 728, 729, 730] (by decide +kernel) (by decide +kernel)
set_option maxRecDepth 20000 in
theorem gL_law_X4_init : GoodIn wsL_law (wsX4_init) := ggL_law_X4_init
set_option maxRecDepth 20000 in
theorem ggL_law_X5_init : GoodIn wsL_law wsX5_init := goodIn_r _ [78, 79, 11, 12, 33, 80, 81, 82, 83, 84, 85, 86, 87, 88, 89, 90, 91, 92, 93, 94, 95, 96, 97, 98, 99, 100, 101, 102, 651, 652, 653, 654, 655, 656, 657, 658, 659, 660, 661, 662, 663, 664, 665, 666, 667, 668, 669, 670, 671, 672, 673, 674, 675, 676, 677, 678, 679, 680, 681, 682, 683, 684, 685, 686] (by decide +kernel) (by decide +kernel)
set_option maxRecDepth 20000 in
theorem gL_law_X5_init : GoodIn wsL_law (wsX5_init) := ggL_law_X5_init
set_option maxRecDepth 20000 in
theorem ggL_law_L_kind : GoodIn wsL_law wsL_kind := goodIn_ca (goodIn_ca (goodIn_r _ [106, 107, 108, 109, 110, 111, 2, 112, 113, 19, 114, 115, 116, 117, 118, 119, 120, 121, 122, 123, 124, 125, 126, 127, 15, 128, 129, 34, 35, 36, 37, 130, 131, 132, 133, 20, 134, 24, 135, 28, 136, 137, 138, 27, 139, 71, 72, 140, 141, 142, 143, 647, 648, 649, 650, 687, 688, 689, 690, 691, 692, 693, 694, 695, 696, 697, 698, 699, 700, 701, 702, 703, 704, 705, 706, 707, 708, 709, 710, 711, 712, 713, 714, 715, 716, 717, 718, 719, 720, 721, 722, 723, 724, 725, 726, 727, 728, 729, 730] (by decide +kernel) (by decide +kernel)) (goodIn_sub (fun _ h => List.mem_append_left _ (List.mem_append_right _ h)) (by decide +kernel))) (goodIn_sub (fun _ h => List.mem_append_right _ h) (by decide +kernel))
set_option maxRecDepth 20000 in
theorem gL_law_L_kind : GoodIn wsL_law (va_wsS RL 77 yL_kind wsL_kind) := goodIn_app (goodIn_of _ (by decide +kernel)) ggL_law_L_kind
set_option maxRecDepth 20000 in
theorem ggL_law_X5_kind : GoodIn wsL_law wsX5_kind := goodIn_r _ [147, 148, 149, 150, 80, 81, 82, 83, 151, 152, 5, 153, 154, 155, 156, 157, 158, 101, 102, 651, 652, 653, 654, 655, 656, 657, 658, 659, 660, 661, 662, 663, 664, 665, 666, 667, 668, 669, 670, 671, 672, 673, 674, 675, 676, 677, 678, 679, 680, 681, 682, 683, 684, 685, 686] (by decide +kernel) (by decide +kernel)
set_option maxRecDepth 20000 in
theorem gL_law_X5_kind : GoodIn wsL_law (wsV RL 82 RX5 yX5_kind wsX5_kind) := goodIn_app (goodIn_of _ (by decide +kernel)) ggL_law_X5_kind
set_option maxRecDepth 20000 in
theorem ggL_law_X5_thrown : GoodIn wsL_law wsX5_thrown := goodIn_r _ [162, 150, 651, 652, 653, 654, 655, 656, 657, 658, 659, 660, 661, 662, 663, 664, 665, 666, 667, 668, 669, 670, 671, 672, 673, 674, 675, 676, 677, 678, 679, 680, 681, 682, 683, 684, 685, 686] (by decide +kernel) (by decide +kernel)
set_option maxRecDepth 20000 in
theorem gL_law_X5_thrown : GoodIn wsL_law (wsV RL 83 RX5 yX5_thrown wsX5_thrown) := goodIn_app (goodIn_of _ (by decide +kernel)) ggL_law_X5_thrown
set_option maxRecDepth 20000 in
theorem ggL_law_L_place : GoodIn wsL_law wsL_place := goodIn_ca (goodIn_ca (goodIn_r _ [165, 107, 108, 166, 167, 168, 2, 169, 19, 170, 115, 116, 117, 118, 119, 120, 121, 122, 123, 124, 171, 172, 173, 15, 174, 175, 38, 39, 130, 131, 132, 133, 20, 134, 24, 135, 28, 136, 137, 138, 27, 139, 71, 72, 140, 141, 142, 143, 647, 648, 649, 650, 687, 688, 689, 690, 691, 692, 693, 694, 695, 696, 697, 698, 699, 700, 701, 702, 703, 704, 705, 706, 707, 708, 709, 710, 711, 712, 713, 714, 715, 716, 717, 718, 719, 720, 721, 722, 723, 724, 725, 726, 727, 728, 729, 730] (by decide +kernel) (by decide +kernel)) (goodIn_sub (fun _ h => List.mem_append_left _ (List.mem_append_right _ h)) (by decide +kernel))) (goodIn_sub (fun _ h => List.mem_append_right _ h) (by decide +kernel))
set_option maxRecDepth 20000 in
theorem gL_law_L_place : GoodIn wsL_law (va_wsS RL 87 yL_place wsL_place) := goodIn_app (goodIn_of _ (by decide +kernel)) ggL_law_L_place
set_option maxRecDepth 20000 in
theorem ggL_law_X5_place : GoodIn wsL_law wsX5_place := goodIn_r _ [179, 180, 150, 84, 85, 86, 87, 151, 152, 5, 153, 154, 155, 156, 157, 158, 101, 102, 651, 652, 653, 654, 655, 656, 657, 658, 659, 660, 661, 662, 663, 664, 665, 666, 667, 668, 669, 670, 671, 672, 673, 674, 675, 676, 677, 678, 679, 680, 681, 682, 683, 684, 685, 686] (by decide +kernel) (by decide +kernel)
set_option maxRecDepth 20000 in
theorem gL_law_X5_place : GoodIn wsL_law (wsV RL 90 RX5 yX5_place wsX5_place) := goodIn_app (goodIn_of _ (by decide +kernel)) ggL_law_X5_place
set_option maxRecDepth 20000 in
theorem ggL_law_L_point : GoodIn wsL_law wsL_point := goodIn_ca (goodIn_ca (goodIn_r _ [183, 107, 108, 184, 185, 186, 2, 187, 113, 19, 188, 115, 116, 117, 118, 119, 120, 121, 122, 123, 124, 189, 190, 191, 15, 192, 193, 41, 42, 43, 130, 131, 132, 133, 20, 134, 24, 135, 28, 136, 137, 138, 27, 139, 71, 72, 140, 141, 142, 143, 647, 648, 649, 650, 687, 688, 689, 690, 691, 692, 693, 694, 695, 696, 697, 698, 699, 700, 701, 702, 703, 704, 705, 706, 707, 708, 709, 710, 711, 712, 713, 714, 715, 716, 717, 718, 719, 720, 721, 722, 723, 724, 725, 726, 727, 728, 729, 730] (by decide +kernel) (by decide +kernel)) (goodIn_sub (fun _ h => List.mem_append_left _ (List.mem_append_right _ h)) (by decide +kernel))) (goodIn_sub (fun _ h => List.mem_append_right _ h) (by decide +kernel))
set_option maxRecDepth 20000 in
theorem gL_law_L_point : GoodIn wsL_law (va_wsS RL 91 yL_point wsL_point) := goodIn_app (goodIn_of _ (by decide +kernel)) ggL_law_L_point
set_option maxRecDepth 20000 in
theorem ggL_law_X5_point : GoodIn wsL_law wsX5_point := goodIn_r _ [197, 148, 198, 150, 88, 89, 90, 151, 152, 5, 153, 154, 155, 156, 157, 158, 101, 102, 651, 652, 653, 654, 655, 656, 657, 658, 659, 660, 661, 662, 663, 664, 665, 666, 667, 668, 669, 670, 671, 672, 673, 674, 675, 676, 677, 678, 679, 680, 681, 682, 683, 684, 685, 686] (by decide +kernel) (by decide +kernel)
set_option maxRecDepth 20000 in
theorem gL_law_X5_point : GoodIn wsL_law (wsV RL 94 RX5 yX5_point wsX5_point) := goodIn_app (goodIn_of _ (by decide +kernel)) ggL_law_X5_point
set_option maxRecDepth 20000 in
theorem ggL_law_L_height : GoodIn wsL_law wsL_height := goodIn_ca (goodIn_r _ [201, 107, 202, 203, 204, 2, 205, 19, 206, 115, 116, 117, 118, 119, 130, 131, 132, 133, 20, 134, 24, 135, 28, 136, 137, 138, 27, 139, 71, 72, 140, 141, 142, 143, 647, 648, 649, 650, 687, 688, 689, 690, 691, 692, 693, 694, 695, 696, 697, 698, 699, 700, 701, 702, 703, 704, 705, 706, 707, 708, 709, 710, 711, 712, 713, 714, 715, 716, 717, 718, 719, 720, 721, 722, 723, 724, 725, 726, 727, 728, 729, 730] (by decide +kernel) (by decide +kernel)) (goodIn_sub (fun _ h => List.mem_append_left _ (List.mem_append_right _ h)) (by decide +kernel))
set_option maxRecDepth 20000 in
theorem gL_law_L_height : GoodIn wsL_law (va_wsS RL 95 yL_height wsL_height) := goodIn_app (goodIn_of _ (by decide +kernel)) ggL_law_L_height
set_option maxRecDepth 20000 in
theorem ggL_law_X5_height : GoodIn wsL_law wsX5_height := goodIn_r _ [210, 150, 93, 151, 152, 5, 153, 154, 155, 156, 157, 158, 101, 102, 651, 652, 653, 654, 655, 656, 657, 658, 659, 660, 661, 662, 663, 664, 665, 666, 667, 668, 669, 670, 671, 672, 673, 674, 675, 676, 677, 678, 679, 680, 681, 682, 683, 684, 685, 686] (by decide +kernel) (by decide +kernel)
set_option maxRecDepth 20000 in
theorem gL_law_X5_height : GoodIn wsL_law (wsV RL 98 RX5 yX5_height wsX5_height) := goodIn_app (goodIn_of _ (by decide +kernel)) ggL_law_X5_height
set_option maxRecDepth 20000 in
theorem ggL_law_L_hold : GoodIn wsL_law wsL_hold := goodIn_ca (goodIn_r _ [213, 107, 214, 215, 216, 2, 217, 19, 114, 218, 219, 220, 221, 222, 170, 115, 116, 117, 118, 119, 130, 131, 132, 133, 20, 134, 24, 135, 28, 136, 137, 138, 27, 139, 71, 72, 140, 141, 142, 143, 647, 648, 649, 650, 687, 688, 689, 690, 691, 692, 693, 694, 695, 696, 697, 698, 699, 700, 701, 702, 703, 704, 705, 706, 707, 708, 709, 710, 711, 712, 713, 714, 715, 716, 717, 718, 719, 720, 721, 722, 723, 724, 725, 726, 727, 728, 729, 730] (by decide +kernel) (by decide +kernel)) (goodIn_sub (fun _ h => List.mem_append_left _ (List.mem_append_right _ h)) (by decide +kernel))
set_option maxRecDepth 20000 in
theorem gL_law_L_hold : GoodIn wsL_law (va_wsS RL 99 yL_hold wsL_hold) := goodIn_app (goodIn_of _ (by decide +kernel)) ggL_law_L_hold
set_option maxRecDepth 20000 in
theorem ggL_law_X5_hold : GoodIn wsL_law wsX5_hold := goodIn_r _ [226, 150, 86, 227, 228, 229, 5, 230, 180, 151, 152, 153, 231, 232, 233, 234, 149, 154, 155, 156, 157, 158, 101, 102, 651, 652, 653, 654, 655, 656, 657, 658, 659, 660, 661, 662, 663, 664, 665, 666, 667, 668, 669, 670, 671, 672, 673, 674, 675, 676, 677, 678, 679, 680, 681, 682, 683, 684, 685, 686] (by decide +kernel) (by decide +kernel)
set_option maxRecDepth 20000 in
theorem gL_law_X5_hold : GoodIn wsL_law (wsV RL 102 RX5 yX5_hold wsX5_hold) := goodIn_app (goodIn_of _ (by decide +kernel)) ggL_law_X5_hold
set_option maxRecDepth 20000 in
theorem ggL_law_L_light : GoodIn wsL_law wsL_light := goodIn_ca (goodIn_r _ [237, 107, 238, 239, 240, 2, 241, 19, 114, 115, 116, 117, 118, 119, 219, 220, 221, 222, 170, 242, 243, 244, 245, 188, 246, 247, 248, 15, 249, 38, 41, 39, 42, 250, 34, 44, 251, 252, 647, 648, 649, 650, 687, 688, 689, 690, 691, 692, 693, 694, 695, 696, 697, 698, 699, 700] (by decide +kernel) (by decide +kernel)) (goodIn_sub (fun _ h => List.mem_append_left _ (List.mem_append_right _ h)) (by decide +kernel))
set_option maxRecDepth 20000 in
theorem gL_law_L_light : GoodIn wsL_law (va_wsS RL 103 yL_light wsL_light) := goodIn_app (goodIn_of _ (by decide +kernel)) ggL_law_L_light
set_option maxRecDepth 20000 in
theorem ggL_law_X5_light : GoodIn wsL_law wsX5_light := goodIn_r _ [256, 150, 231, 232, 233, 5, 234, 149, 151, 152, 153, 227, 228, 229, 230, 180, 257, 258, 259, 260, 198, 261, 262, 263, 264, 84, 88, 85, 89, 80, 93, 651, 652, 653, 654, 655, 656, 657, 658, 659, 660, 661, 662, 663, 664, 665, 666, 667, 668, 669, 670, 671, 672, 673, 674, 675, 676, 677, 678, 679, 680, 681, 682, 683, 684, 685, 686] (by decide +kernel) (by decide +kernel)
set_option maxRecDepth 20000 in
theorem gL_law_X5_light : GoodIn wsL_law (wsV RL 105 RX5 yX5_light wsX5_light) := goodIn_app (goodIn_of _ (by decide +kernel)) ggL_law_X5_light
set_option maxRecDepth 20000 in
theorem ggL_law_X4_best : GoodIn wsL_law wsX4_best := goodIn_r _ [268, 20, 269, 270, 271, 272, 273, 18, 274, 275, 276, 53, 277, 141, 142, 143, 278, 279, 280, 281, 55, 282, 283, 284, 49, 285, 286, 287, 288, 247, 248, 15, 249, 38, 41, 39, 42, 250, 34, 44, 251, 2, 252, 289, 290, 291, 292, 50, 293, 294, 295, 296, 297, 298, 299, 300, 301, 302, 303, 304, 40, 305, 306, 307, 308, 51, 309, 310, 311, 312, 313, 314, 52, 315, 316, 317, 318, 319, 320, 321, 322, 323, 324, 325, 326, 327, 328, 329, 330, 54, 331, 332, 333, 334, 35, 335, 336, 337, 338, 647, 648, 649, 650, 701, 702, 703, 704, 705, 706, 707, 708, 709, 710, 711, 712, 687, 688, 689, 690, 691, 692, 693, 694, 695, 696, 697, 698, 699, 700] (by decide +kernel) (by decide +kernel)
set_option maxRecDepth 20000 in
theorem gL_law_X4_best : GoodIn wsL_law (wsV RL 106 RX4 yX4_best wsX4_best) := goodIn_app (goodIn_of _ (by decide +kernel)) ggL_law_X4_best
set_option maxRecDepth 20000 in
theorem ggL_law_X5_best : GoodIn wsL_law wsX5_best := goodIn_r _ [342, 150, 343, 344, 345, 346, 347, 5, 348, 158, 149, 180, 198, 99, 97, 96, 261, 262, 263, 264, 84, 88, 85, 89, 80, 93, 349, 350, 351, 352, 86, 353, 354, 355, 356, 98, 81, 357, 358, 359, 360, 90, 361, 362, 95, 363, 364, 365, 366, 651, 652, 653, 654, 655, 656, 657, 658, 659, 660, 661, 662, 663, 664, 665, 666, 667, 668, 669, 670, 671, 672, 673, 674, 675, 676, 677, 678, 679, 680, 681, 682, 683, 684, 685, 686] (by decide +kernel) (by decide +kernel)
set_option maxRecDepth 20000 in
theorem gL_law_X5_best : GoodIn wsL_law (wsV RL 109 RX5 yX5_best wsX5_best) := goodIn_app (goodIn_of _ (by decide +kernel)) ggL_law_X5_best
set_option maxRecDepth 20000 in
theorem ggL_law_L_lamp : GoodIn wsL_law wsL_lamp := goodIn_ca (goodIn_r _ [369, 107, 370, 371, 372, 2, 373, 20, 269, 374, 219, 220, 221, 222, 19, 170, 115, 116, 117, 118, 119, 271, 272, 273, 18, 274, 275, 276, 53, 277, 141, 142, 143, 278, 279, 280, 281, 55, 282, 283, 284, 49, 285, 286, 287, 288, 247, 248, 15, 249, 38, 41, 39, 42, 250, 34, 44, 251, 252, 289, 290, 291, 292, 50, 293, 294, 295, 296, 297, 298, 299, 300, 301, 302, 303, 304, 40, 305, 306, 307, 308, 51, 309, 310, 311, 312, 313, 314, 52, 315, 316, 317, 318, 319, 320, 321, 322, 323, 324, 325, 326, 327, 328, 329, 330, 54, 331, 332, 333, 334, 35, 335, 336, 337, 338, 647, 648, 649, 650, 701, 702, 703, 704, 705, 706, 707, 708, 709, 710, 711, 712, 687, 688, 689, 690, 691, 692, 693, 694, 695, 696, 697, 698, 699, 700] (by decide +kernel) (by decide +kernel)) (goodIn_sub (fun _ h => List.mem_append_left _ (List.mem_append_right _ h)) (by decide +kernel))
set_option maxRecDepth 20000 in
theorem gL_law_L_lamp : GoodIn wsL_law (va_wsS RL 110 yL_lamp wsL_lamp) := goodIn_app (goodIn_of _ (by decide +kernel)) ggL_law_L_lamp
set_option maxRecDepth 20000 in
theorem ggL_law_X5_lamp : GoodIn wsL_law wsX5_lamp := goodIn_r _ [378, 150, 343, 95, 227, 228, 229, 5, 230, 180, 151, 152, 153, 345, 346, 347, 348, 158, 149, 198, 99, 97, 96, 261, 262, 263, 264, 84, 88, 85, 89, 80, 93, 349, 350, 351, 352, 86, 353, 354, 355, 356, 98, 81, 357, 358, 359, 360, 344, 90, 361, 362, 363, 364, 365, 366, 651, 652, 653, 654, 655, 656, 657, 658, 659, 660, 661, 662, 663, 664, 665, 666, 667, 668, 669, 670, 671, 672, 673, 674, 675, 676, 677, 678, 679, 680, 681, 682, 683, 684, 685, 686] (by decide +kernel) (by decide +kernel)
set_option maxRecDepth 20000 in
theorem gL_law_X5_lamp : GoodIn wsL_law (wsV RL 112 RX5 yX5_lamp wsX5_lamp) := goodIn_app (goodIn_of _ (by decide +kernel)) ggL_law_X5_lamp
set_option maxRecDepth 20000 in
theorem ggL_law_L_level : GoodIn wsL_law wsL_level := goodIn_ca (goodIn_r _ [381, 107, 382, 383, 384, 2, 385, 20, 269, 386, 242, 243, 244, 245, 19, 188, 115, 116, 117, 118, 119, 271, 272, 273, 18, 274, 275, 276, 53, 277, 141, 142, 143, 278, 279, 280, 281, 55, 282, 283, 284, 49, 285, 286, 287, 288, 247, 248, 15, 249, 38, 41, 39, 42, 250, 34, 44, 251, 252, 289, 290, 291, 292, 50, 293, 294, 295, 296, 297, 298, 299, 300, 301, 302, 303, 304, 40, 305, 306, 307, 308, 51, 309, 310, 311, 312, 313, 314, 52, 315, 316, 317, 318, 319, 320, 321, 322, 323, 324, 325, 326, 327, 328, 329, 330, 54, 331, 332, 333, 334, 35, 335, 336, 337, 338, 647, 648, 649, 650, 701, 702, 703, 704, 705, 706, 707, 708, 709, 710, 711, 712, 687, 688, 689, 690, 691, 692, 693, 694, 695, 696, 697, 698, 699, 700] (by decide +kernel) (by decide +kernel)) (goodIn_sub (fun _ h => List.mem_append_left _ (List.mem_append_right _ h)) (by decide +kernel))
set_option maxRecDepth 20000 in
theorem gL_law_L_level : GoodIn wsL_law (va_wsS RL 113 yL_level wsL_level) := goodIn_app (goodIn_of _ (by decide +kernel)) ggL_law_L_level
set_option maxRecDepth 20000 in
theorem ggL_law_X5_level : GoodIn wsL_law wsX5_level := goodIn_r _ [390, 150, 343, 180, 95, 257, 258, 259, 5, 260, 198, 151, 152, 153, 345, 346, 347, 348, 158, 149, 99, 97, 96, 261, 262, 263, 264, 84, 88, 85, 89, 80, 93, 349, 350, 351, 352, 86, 353, 354, 355, 356, 98, 81, 357, 358, 359, 360, 344, 90, 361, 362, 363, 364, 365, 366, 651, 652, 653, 654, 655, 656, 657, 658, 659, 660, 661, 662, 663, 664, 665, 666, 667, 668, 669, 670, 671, 672, 673, 674, 675, 676, 677, 678, 679, 680, 681, 682, 683, 684, 685, 686] (by decide +kernel) (by decide +kernel)
set_option maxRecDepth 20000 in
theorem gL_law_X5_level : GoodIn wsL_law (wsV RL 115 RX5 yX5_level wsX5_level) := goodIn_app (goodIn_of _ (by decide +kernel)) ggL_law_X5_level
set_option maxRecDepth 20000 in
theorem ggL_law_L_even : GoodIn wsL_law wsL_even := goodIn_ca (goodIn_r _ [393, 107, 394, 395, 396, 2, 397, 20, 269, 398, 115, 116, 117, 118, 119, 271, 272, 273, 18, 274, 275, 276, 53, 277, 141, 142, 143, 278, 279, 280, 281, 55, 282, 283, 284, 49, 285, 286, 287, 288, 247, 248, 15, 249, 38, 41, 39, 42, 250, 34, 44, 251, 252, 289, 290, 291, 292, 50, 293, 294, 295, 296, 297, 298, 299, 300, 301, 302, 303, 304, 40, 305, 306, 307, 308, 51, 309, 310, 311, 312, 313, 314, 52, 315, 316, 317, 318, 319, 320, 321, 322, 323, 324, 325, 326, 327, 328, 329, 330, 54, 331, 332, 333, 334, 35, 335, 336, 337, 338, 399, 400, 401, 402, 403, 404, 405, 406, 407, 408, 409, 647, 648, 649, 650, 701, 702, 703, 704, 705, 706, 707, 708, 709, 710, 711, 712, 687, 688, 689, 690, 691, 692, 693, 694, 695, 696, 697, 698, 699, 700] (by decide +kernel) (by decide +kernel)) (goodIn_sub (fun _ h => List.mem_append_left _ (List.mem_append_right _ h)) (by decide +kernel))
set_option maxRecDepth 20000 in
theorem gL_law_L_even : GoodIn wsL_law (va_wsS RL 116 yL_even wsL_even) := goodIn_app (goodIn_of _ (by decide +kernel)) ggL_law_L_even
set_option maxRecDepth 20000 in
theorem ggL_law_X5_even : GoodIn wsL_law wsX5_even := goodIn_r _ [413, 150, 343, 414, 362, 361, 151, 152, 5, 153, 345, 346, 347, 348, 158, 149, 180, 198, 99, 97, 96, 261, 262, 263, 264, 84, 88, 85, 89, 80, 93, 349, 350, 351, 352, 86, 353, 354, 355, 356, 98, 81, 357, 358, 359, 360, 344, 90, 95, 363, 364, 365, 366, 415, 416, 417, 651, 652, 653, 654, 655, 656, 657, 658, 659, 660, 661, 662, 663, 664, 665, 666, 667, 668, 669, 670, 671, 672, 673, 674, 675, 676, 677, 678, 679, 680, 681, 682, 683, 684, 685, 686] (by decide +kernel) (by decide +kernel)
set_option maxRecDepth 20000 in
theorem gL_law_X5_even : GoodIn wsL_law (wsV RL 118 RX5 yX5_even wsX5_even) := goodIn_app (goodIn_of _ (by decide +kernel)) ggL_law_X5_even
set_option maxRecDepth 20000 in
theorem ggL_law_L_aim : GoodIn wsL_law wsL_aim := goodIn_ca (goodIn_r _ [420, 107, 421, 422, 423, 2, 424, 425, 24, 242, 243, 244, 245, 19, 188, 115, 116, 117, 118, 119, 426, 427, 428, 23, 429, 60, 430, 647, 648, 649, 650, 687, 688, 689, 690, 691, 692, 693, 694, 695, 696, 697, 698, 699, 700, 713, 714, 715, 716, 717, 718, 719] (by decide +kernel) (by decide +kernel)) (goodIn_sub (fun _ h => List.mem_append_left _ (List.mem_append_right _ h)) (by decide +kernel))
set_option maxRecDepth 20000 in
theorem gL_law_L_aim : GoodIn wsL_law (va_wsS RL 119 yL_aim wsL_aim) := goodIn_app (goodIn_of _ (by decide +kernel)) ggL_law_L_aim
set_option maxRecDepth 20000 in
theorem ggL_law_X5_aim : GoodIn wsL_law wsX5_aim := goodIn_r _ [434, 435, 150, 91, 257, 258, 259, 5, 260, 198, 151, 152, 153, 651, 652, 653, 654, 655, 656, 657, 658, 659, 660, 661, 662, 663, 664, 665, 666, 667, 668, 669, 670, 671, 672, 673, 674, 675, 676, 677, 678, 679, 680, 681, 682, 683, 684, 685, 686] (by decide +kernel) (by decide +kernel)
set_option maxRecDepth 20000 in
theorem gL_law_X5_aim : GoodIn wsL_law (wsV RL 121 RX5 yX5_aim wsX5_aim) := goodIn_app (goodIn_of _ (by decide +kernel)) ggL_law_X5_aim
set_option maxRecDepth 20000 in
theorem ggL_law_X4_scene : GoodIn wsL_law wsX4_scene := goodIn_r _ [439, 24, 440, 441, 442, 443, 2, 444, 20, 271, 272, 273, 18, 274, 275, 276, 53, 277, 141, 142, 143, 278, 279, 280, 281, 55, 282, 283, 284, 49, 285, 286, 287, 288, 247, 248, 15, 249, 38, 41, 39, 42, 250, 34, 44, 251, 252, 289, 290, 291, 292, 50, 293, 294, 295, 296, 297, 298, 299, 300, 301, 302, 303, 304, 40, 305, 306, 307, 308, 51, 309, 310, 311, 312, 313, 314, 52, 315, 316, 317, 318, 319, 320, 321, 322, 323, 324, 325, 326, 327, 328, 329, 330, 54, 331, 332, 333, 334, 35, 335, 336, 337, 338, 445, 446, 447, 23, 448, 430, 61, 63, 449, 62, 450, 60, 451, 64, 452, 453, 454, 455, 456, 457, 458, 459, 460, 461, 462, 463, 464, 465, 466, 467, 468, 469, 470, 471, 472, 473, 474, 475, 476, 647, 648, 649, 650, 713, 714, 715, 716, 717, 718, 719, 701, 702, 703, 704, 705, 706, 707, 708, 709, 710, 711, 712, 687, 688, 689, 690, 691, 692, 693, 694, 695, 696, 697, 698, 699, 700] (by decide +kernel) (by decide +kernel)
set_option maxRecDepth 20000 in
theorem gL_law_X4_scene : GoodIn wsL_law (wsV RL 122 RX4 yX4_scene wsX4_scene) := goodIn_app (goodIn_of _ (by decide +kernel)) ggL_law_X4_scene
set_option maxRecDepth 20000 in
theorem ggL_law_X5_scene : GoodIn wsL_law wsX5_scene := goodIn_r _ [480, 150, 481, 482, 483, 5, 484, 100, 180, 345, 346, 347, 348, 158, 343, 149, 198, 99, 97, 96, 261, 262, 263, 264, 84, 88, 85, 89, 80, 93, 349, 350, 351, 352, 86, 353, 354, 355, 356, 98, 81, 357, 358, 359, 360, 344, 90, 361, 362, 95, 363, 364, 365, 366, 485, 486, 487, 488, 489, 490, 491, 492, 493, 494, 495, 496, 497, 498, 91, 651, 652, 653, 654, 655, 656, 657, 658, 659, 660, 661, 662, 663, 664, 665, 666, 667, 668, 669, 670, 671, 672, 673, 674, 675, 676, 677, 678, 679, 680, 681, 682, 683, 684, 685, 686] (by decide +kernel) (by decide +kernel)
set_option maxRecDepth 20000 in
theorem gL_law_X5_scene : GoodIn wsL_law (wsV RL 125 RX5 yX5_scene wsX5_scene) := goodIn_app (goodIn_of _ (by decide +kernel)) ggL_law_X5_scene
set_option maxRecDepth 20000 in
theorem ggL_law_L_dim : GoodIn wsL_law wsL_dim := goodIn_ca (goodIn_r _ [501, 107, 502, 503, 504, 2, 505, 20, 374, 24, 506, 219, 220, 221, 222, 19, 170, 115, 116, 117, 118, 119, 441, 442, 443, 444, 271, 272, 273, 18, 274, 275, 276, 53, 277, 141, 142, 143, 278, 279, 280, 281, 55, 282, 283, 284, 49, 285, 286, 287, 288, 247, 248, 15, 249, 38, 41, 39, 42, 250, 34, 44, 251, 252, 289, 290, 291, 292, 50, 293, 294, 295, 296, 297, 298, 299, 300, 301, 302, 303, 304, 40, 305, 306, 307, 308, 51, 309, 310, 311, 312, 313, 314, 52, 315, 316, 317, 318, 319, 320, 321, 322, 323, 324, 325, 326, 327, 328, 329, 330, 54, 331, 332, 333, 334, 35, 335, 336, 337, 338, 445, 446, 447, 23, 448, 430, 61, 63, 449, 62, 450, 60, 451, 64, 452, 453, 454, 455, 456, 457, 458, 459, 460, 461, 462, 463, 464, 465, 466, 467, 468, 469, 470, 471, 472, 473, 474, 475, 476, 647, 648, 649, 650, 701, 702, 703, 704, 705, 706, 707, 708, 709, 710, 711, 712, 713, 714, 715, 716, 717, 718, 719, 687, 688, 689, 690, 691, 692, 693, 694, 695, 696, 697, 698, 699, 700] (by decide +kernel) (by decide +kernel)) (goodIn_sub (fun _ h => List.mem_append_left _ (List.mem_append_right _ h)) (by decide +kernel))
set_option maxRecDepth 20000 in
theorem gL_law_L_dim : GoodIn wsL_law (va_wsS RL 126 yL_dim wsL_dim) := goodIn_app (goodIn_of _ (by decide +kernel)) ggL_law_L_dim
set_option maxRecDepth 20000 in
theorem ggL_law_X5_dim : GoodIn wsL_law wsX5_dim := goodIn_r _ [510, 150, 100, 227, 228, 229, 5, 230, 180, 151, 152, 153, 481, 482, 483, 484, 345, 346, 347, 348, 158, 343, 149, 198, 99, 97, 96, 261, 262, 263, 264, 84, 88, 85, 89, 80, 93, 349, 350, 351, 352, 86, 353, 354, 355, 356, 98, 81, 357, 358, 359, 360, 344, 90, 361, 362, 95, 363, 364, 365, 366, 485, 486, 487, 488, 489, 490, 491, 492, 493, 494, 495, 496, 497, 498, 91, 651, 652, 653, 654, 655, 656, 657, 658, 659, 660, 661, 662, 663, 664, 665, 666, 667, 668, 669, 670, 671, 672, 673, 674, 675, 676, 677, 678, 679, 680, 681, 682, 683, 684, 685, 686] (by decide +kernel) (by decide +kernel)
set_option maxRecDepth 20000 in
theorem gL_law_X5_dim : GoodIn wsL_law (wsV RL 128 RX5 yX5_dim wsX5_dim) := goodIn_app (goodIn_of _ (by decide +kernel)) ggL_law_X5_dim
set_option maxRecDepth 20000 in
theorem ggL_law_L_miss : GoodIn wsL_law wsL_miss := goodIn_ca (goodIn_r _ [513, 107, 514, 515, 516, 2, 517, 24, 518, 242, 243, 244, 245, 19, 188, 115, 116, 117, 118, 119, 441, 442, 443, 444, 20, 271, 272, 273, 18, 274, 275, 276, 53, 277, 141, 142, 143, 278, 279, 280, 281, 55, 282, 283, 284, 49, 285, 286, 287, 288, 247, 248, 15, 249, 38, 41, 39, 42, 250, 34, 44, 251, 252, 289, 290, 291, 292, 50, 293, 294, 295, 296, 297, 298, 299, 300, 301, 302, 303, 304, 40, 305, 306, 307, 308, 51, 309, 310, 311, 312, 313, 314, 52, 315, 316, 317, 318, 319, 320, 321, 322, 323, 324, 325, 326, 327, 328, 329, 330, 54, 331, 332, 333, 334, 35, 335, 336, 337, 338, 445, 446, 447, 23, 448, 430, 61, 63, 449, 62, 450, 60, 451, 64, 452, 453, 454, 455, 456, 457, 458, 459, 460, 461, 462, 463, 464, 465, 466, 467, 468, 469, 470, 471, 472, 473, 474, 475, 476, 647, 648, 649, 650, 713, 714, 715, 716, 717, 718, 719, 687, 688, 689, 690, 691, 692, 693, 694, 695, 696, 697, 698, 699, 700, 701, 702, 703, 704, 705, 706, 707, 708, 709, 710, 711, 712] (by decide +kernel) (by decide +kernel)) (goodIn_sub (fun _ h => List.mem_append_left _ (List.mem_append_right _ h)) (by decide +kernel))
set_option maxRecDepth 20000 in
theorem gL_law_L_miss : GoodIn wsL_law (va_wsS RL 129 yL_miss wsL_miss) := goodIn_app (goodIn_of _ (by decide +kernel)) ggL_law_L_miss
set_option maxRecDepth 20000 in
theorem ggL_law_X5_miss : GoodIn wsL_law wsX5_miss := goodIn_r _ [522, 150, 257, 258, 259, 5, 260, 198, 151, 152, 153, 481, 482, 483, 484, 100, 180, 345, 346, 347, 348, 158, 343, 149, 99, 97, 96, 261, 262, 263, 264, 84, 88, 85, 89, 80, 93, 349, 350, 351, 352, 86, 353, 354, 355, 356, 98, 81, 357, 358, 359, 360, 344, 90, 361, 362, 95, 363, 364, 365, 366, 485, 486, 487, 488, 489, 490, 491, 492, 493, 494, 495, 496, 497, 498, 91, 651, 652, 653, 654, 655, 656, 657, 658, 659, 660, 661, 662, 663, 664, 665, 666, 667, 668, 669, 670, 671, 672, 673, 674, 675, 676, 677, 678, 679, 680, 681, 682, 683, 684, 685, 686] (by decide +kernel) (by decide +kernel)
set_option maxRecDepth 20000 in
theorem gL_law_X5_miss : GoodIn wsL_law (wsV RL 131 RX5 yX5_miss wsX5_miss) := goodIn_app (goodIn_of _ (by decide +kernel)) ggL_law_X5_miss
set_option maxRecDepth 20000 in
theorem ggL_law_L_sensor : GoodIn wsL_law wsL_sensor := goodIn_ca (goodIn_r _ [525, 107, 526, 527, 528, 2, 529, 19, 188, 28, 530, 219, 220, 221, 222, 170, 115, 116, 117, 118, 119, 130, 131, 132, 133, 20, 134, 24, 135, 136, 137, 138, 27, 139, 71, 72, 140, 141, 142, 143, 647, 648, 649, 650, 687, 688, 689, 690, 691, 692, 693, 694, 695, 696, 697, 698, 699, 700, 720, 721, 722, 723, 724, 725, 726, 727, 728, 729, 730, 701, 702, 703, 704, 705, 706, 707, 708, 709, 710, 711, 712, 713, 714, 715, 716, 717, 718, 719] (by decide +kernel) (by decide +kernel)) (goodIn_sub (fun _ h => List.mem_append_left _ (List.mem_append_right _ h)) (by decide +kernel))
set_option maxRecDepth 20000 in
theorem gL_law_L_sensor : GoodIn wsL_law (va_wsS RL 132 yL_sensor wsL_sensor) := goodIn_app (goodIn_of _ (by decide +kernel)) ggL_law_L_sensor
set_option maxRecDepth 20000 in
theorem ggL_law_X5_sensor : GoodIn wsL_law wsX5_sensor := goodIn_r _ [534, 150, 87, 227, 228, 229, 5, 230, 180, 151, 152, 153, 257, 258, 259, 260, 198, 154, 155, 156, 157, 158, 101, 102, 651, 652, 653, 654, 655, 656, 657, 658, 659, 660, 661, 662, 663, 664, 665, 666, 667, 668, 669, 670, 671, 672, 673, 674, 675, 676, 677, 678, 679, 680, 681, 682, 683, 684, 685, 686] (by decide +kernel) (by decide +kernel)
set_option maxRecDepth 20000 in
theorem gL_law_X5_sensor : GoodIn wsL_law (wsV RL 134 RX5 yX5_sensor wsX5_sensor) := goodIn_app (goodIn_of _ (by decide +kernel)) ggL_law_X5_sensor
set_option maxRecDepth 20000 in
theorem ggL_law_L_daylight : GoodIn wsL_law wsL_daylight := goodIn_ca (goodIn_r _ [537, 107, 538, 539, 540, 2, 541, 113, 28, 542, 242, 243, 244, 245, 19, 188, 115, 116, 117, 118, 119, 647, 648, 649, 650, 720, 721, 722, 723, 724, 725, 726, 727, 728, 729, 730, 687, 688, 689, 690, 691, 692, 693, 694, 695, 696, 697, 698, 699, 700] (by decide +kernel) (by decide +kernel)) (goodIn_sub (fun _ h => List.mem_append_left _ (List.mem_append_right _ h)) (by decide +kernel))
set_option maxRecDepth 20000 in
theorem gL_law_L_daylight : GoodIn wsL_law (va_wsS RL 135 yL_daylight wsL_daylight) := goodIn_app (goodIn_of _ (by decide +kernel)) ggL_law_L_daylight
set_option maxRecDepth 20000 in
theorem ggL_law_X5_daylight : GoodIn wsL_law wsX5_daylight := goodIn_r _ [546, 148, 150, 92, 257, 258, 259, 5, 260, 198, 151, 152, 153, 651, 652, 653, 654, 655, 656, 657, 658, 659, 660, 661, 662, 663, 664, 665, 666, 667, 668, 669, 670, 671, 672, 673, 674, 675, 676, 677, 678, 679, 680, 681, 682, 683, 684, 685, 686] (by decide +kernel) (by decide +kernel)
set_option maxRecDepth 20000 in
theorem gL_law_X5_daylight : GoodIn wsL_law (wsV RL 137 RX5 yX5_daylight wsX5_daylight) := goodIn_app (goodIn_of _ (by decide +kernel)) ggL_law_X5_daylight
set_option maxRecDepth 20000 in
theorem ggL_law_L_step : GoodIn wsL_law wsL_step := goodIn_ca (goodIn_r _ [549, 107, 550, 551, 552, 2, 553, 28, 554, 115, 116, 117, 118, 119, 647, 648, 649, 650, 720, 721, 722, 723, 724, 725, 726, 727, 728, 729, 730] (by decide +kernel) (by decide +kernel)) (goodIn_sub (fun _ h => List.mem_append_left _ (List.mem_append_right _ h)) (by decide +kernel))
set_option maxRecDepth 20000 in
theorem gL_law_L_step : GoodIn wsL_law (va_wsS RL 138 yL_step wsL_step) := goodIn_app (goodIn_of _ (by decide +kernel)) ggL_law_L_step
set_option maxRecDepth 20000 in
theorem ggL_law_X5_step : GoodIn wsL_law wsX5_step := goodIn_r _ [558, 150, 94, 151, 152, 5, 153, 651, 652, 653, 654, 655, 656, 657, 658, 659, 660, 661, 662, 663, 664, 665, 666, 667, 668, 669, 670, 671, 672, 673, 674, 675, 676, 677, 678, 679, 680, 681, 682, 683, 684, 685, 686] (by decide +kernel) (by decide +kernel)
set_option maxRecDepth 20000 in
theorem gL_law_X5_step : GoodIn wsL_law (wsV RL 140 RX5 yX5_step wsX5_step) := goodIn_app (goodIn_of _ (by decide +kernel)) ggL_law_X5_step
set_option maxRecDepth 20000 in
theorem ggL_law_L_run : GoodIn wsL_law wsL_run := goodIn_ca (goodIn_ca (goodIn_r _ [561, 107, 108, 562, 563, 564, 2, 565, 123, 124, 28, 566, 425, 20, 115, 116, 117, 118, 119, 271, 272, 273, 18, 274, 275, 276, 53, 277, 141, 142, 143, 278, 279, 280, 281, 55, 282, 283, 284, 49, 285, 286, 287, 288, 247, 248, 15, 249, 38, 41, 39, 42, 250, 34, 44, 251, 252, 289, 290, 291, 292, 50, 293, 294, 295, 296, 297, 298, 299, 300, 301, 302, 303, 304, 40, 305, 306, 307, 308, 51, 309, 310, 311, 312, 313, 314, 52, 315, 316, 317, 318, 319, 320, 321, 322, 323, 324, 325, 326, 327, 328, 329, 330, 54, 331, 332, 333, 334, 35, 335, 336, 337, 338, 567, 568, 569, 27, 570, 74, 571, 75, 572, 573, 574, 575, 576, 577, 71, 578, 579, 580, 581, 69, 582, 70, 583, 584, 585, 470, 471, 472, 586, 587, 588, 589, 73, 590, 591, 592, 593, 594, 595, 596, 597, 598, 599, 600, 72, 601, 602, 603, 647, 648, 649, 650, 720, 721, 722, 723, 724, 725, 726, 727, 728, 729, 730, 701, 702, 703, 704, 705, 706, 707, 708, 709, 710, 711, 712, 687, 688, 689, 690, 691, 692, 693, 694, 695, 696, 697, 698, 699, 700] (by decide +kernel) (by decide +kernel)) (goodIn_sub (fun _ h => List.mem_append_right _ h) (by decide +kernel))) (goodIn_sub (fun _ h => List.mem_append_left _ (List.mem_append_right _ h)) (by decide +kernel))
set_option maxRecDepth 20000 in
theorem gL_law_L_run : GoodIn wsL_law (va_wsS RL 141 yL_run wsL_run) := goodIn_app (goodIn_of _ (by decide +kernel)) ggL_law_L_run
set_option maxRecDepth 20000 in
theorem ggL_law_X5_run : GoodIn wsL_law wsX5_run := goodIn_r _ [607, 608, 435, 150, 180, 151, 152, 5, 153, 345, 346, 347, 348, 158, 343, 149, 198, 99, 97, 96, 261, 262, 263, 264, 84, 88, 85, 89, 80, 93, 349, 350, 351, 352, 86, 353, 354, 355, 356, 98, 81, 357, 358, 359, 360, 344, 90, 361, 362, 95, 363, 364, 365, 366, 485, 486, 487, 488, 609, 610, 611, 612, 87, 92, 498, 613, 614, 615, 616, 101, 94, 102, 82, 617, 83, 618, 619, 651, 652, 653, 654, 655, 656, 657, 658, 659, 660, 661, 662, 663, 664, 665, 666, 667, 668, 669, 670, 671, 672, 673, 674, 675, 676, 677, 678, 679, 680, 681, 682, 683, 684, 685, 686] (by decide +kernel) (by decide +kernel)
set_option maxRecDepth 20000 in
theorem gL_law_X5_run : GoodIn wsL_law (wsV RL 143 RX5 yX5_run wsX5_run) := goodIn_app (goodIn_of _ (by decide +kernel)) ggL_law_X5_run
set_option maxRecDepth 20000 in
theorem ggL_law_L_own : GoodIn wsL_law wsL_own := goodIn_ca (goodIn_r _ [622, 107, 623, 624, 625, 2, 626, 20, 374, 28, 627, 628, 219, 220, 221, 222, 19, 170, 115, 116, 117, 118, 119, 271, 272, 273, 18, 274, 275, 276, 53, 277, 141, 142, 143, 278, 279, 280, 281, 55, 282, 283, 284, 49, 285, 286, 287, 288, 247, 248, 15, 249, 38, 41, 39, 42, 250, 34, 44, 251, 252, 289, 290, 291, 292, 50, 293, 294, 295, 296, 297, 298, 299, 300, 301, 302, 303, 304, 40, 305, 306, 307, 308, 51, 309, 310, 311, 312, 313, 314, 52, 315, 316, 317, 318, 319, 320, 321, 322, 323, 324, 325, 326, 327, 328, 329, 330, 54, 331, 332, 333, 334, 35, 335, 336, 337, 338, 647, 648, 649, 650, 701, 702, 703, 704, 705, 706, 707, 708, 709, 710, 711, 712, 720, 721, 722, 723, 724, 725, 726, 727, 728, 729, 730, 687, 688, 689, 690, 691, 692, 693, 694, 695, 696, 697, 698, 699, 700] (by decide +kernel) (by decide +kernel)) (goodIn_sub (fun _ h => List.mem_append_left _ (List.mem_append_right _ h)) (by decide +kernel))
set_option maxRecDepth 20000 in
theorem gL_law_L_own : GoodIn wsL_law (va_wsS RL 144 yL_own wsL_own) := goodIn_app (goodIn_of _ (by decide +kernel)) ggL_law_L_own
set_option maxRecDepth 20000 in
theorem ggL_law_X5_own : GoodIn wsL_law wsX5_own := goodIn_r _ [632, 150, 101, 102, 227, 228, 229, 5, 230, 180, 151, 152, 153, 345, 346, 347, 348, 158, 343, 149, 198, 99, 97, 96, 261, 262, 263, 264, 84, 88, 85, 89, 80, 93, 349, 350, 351, 352, 86, 353, 354, 355, 356, 98, 81, 357, 358, 359, 360, 344, 90, 361, 362, 95, 363, 364, 365, 366, 485, 486, 487, 488, 651, 652, 653, 654, 655, 656, 657, 658, 659, 660, 661, 662, 663, 664, 665, 666, 667, 668, 669, 670, 671, 672, 673, 674, 675, 676, 677, 678, 679, 680, 681, 682, 683, 684, 685, 686] (by decide +kernel) (by decide +kernel)
set_option maxRecDepth 20000 in
theorem gL_law_X5_own : GoodIn wsL_law (wsV RL 146 RX5 yX5_own wsX5_own) := goodIn_app (goodIn_of _ (by decide +kernel)) ggL_law_X5_own
set_option maxRecDepth 20000 in
theorem ggL_law_L_used : GoodIn wsL_law wsL_used := goodIn_ca (goodIn_r _ [635, 107, 636, 637, 638, 2, 639, 28, 640, 641, 642, 115, 116, 117, 118, 119, 647, 648, 649, 650, 720, 721, 722, 723, 724, 725, 726, 727, 728, 729, 730] (by decide +kernel) (by decide +kernel)) (goodIn_sub (fun _ h => List.mem_append_left _ (List.mem_append_right _ h)) (by decide +kernel))
set_option maxRecDepth 20000 in
theorem gL_law_L_used : GoodIn wsL_law (va_wsS RL 147 yL_used wsL_used) := goodIn_app (goodIn_of _ (by decide +kernel)) ggL_law_L_used
set_option maxRecDepth 20000 in
theorem ggL_law_X5_used : GoodIn wsL_law wsX5_used := goodIn_r _ [646, 150, 619, 617, 618, 151, 152, 5, 153, 651, 652, 653, 654, 655, 656, 657, 658, 659, 660, 661, 662, 663, 664, 665, 666, 667, 668, 669, 670, 671, 672, 673, 674, 675, 676, 677, 678, 679, 680, 681, 682, 683, 684, 685, 686] (by decide +kernel) (by decide +kernel)
set_option maxRecDepth 20000 in
theorem gL_law_X5_used : GoodIn wsL_law (wsV RL 149 RX5 yX5_used wsX5_used) := goodIn_app (goodIn_of _ (by decide +kernel)) ggL_law_X5_used
theorem dL_law_0 : decode cL_law 0 = .ok (.new 8, 3) := by decide +kernel
theorem dL_law_3 : decode cL_law 3 = .ok (.dup, 1) := by decide +kernel
theorem dL_law_4 : decode cL_law 4 = .ok (.invokespecial 73, 3) := by decide +kernel
theorem dL_law_7 : decode cL_law 7 = .ok (.astore_n 1, 1) := by decide +kernel
theorem dL_law_8 : decode cL_law 8 = .ok (.new 74, 3) := by decide +kernel
theorem dL_law_11 : decode cL_law 11 = .ok (.dup, 1) := by decide +kernel
theorem dL_law_12 : decode cL_law 12 = .ok (.invokespecial 76, 3) := by decide +kernel
theorem dL_law_15 : decode cL_law 15 = .ok (.astore_n 2, 1) := by decide +kernel
theorem dL_law_16 : decode cL_law 16 = .ok (.iconst 1, 1) := by decide +kernel
theorem dL_law_17 : decode cL_law 17 = .ok (.newarray .long, 2) := by decide +kernel
theorem dL_law_19 : decode cL_law 19 = .ok (.astore_n 3, 1) := by decide +kernel
theorem dL_law_20 : decode cL_law 20 = .ok (.iconst 0, 1) := by decide +kernel
theorem dL_law_21 : decode cL_law 21 = .ok (.istore 4, 2) := by decide +kernel
theorem dL_law_23 : decode cL_law 23 = .ok (.iload 4, 2) := by decide +kernel
theorem dL_law_25 : decode cL_law 25 = .ok (.aload_n 0, 1) := by decide +kernel
theorem dL_law_26 : decode cL_law 26 = .ok (.arraylength, 1) := by decide +kernel
theorem dL_law_27 : decode cL_law 27 = .ok (.iconst 5, 1) := by decide +kernel
theorem dL_law_28 : decode cL_law 28 = .ok (.isub, 1) := by decide +kernel
theorem dL_law_29 : decode cL_law 29 = .ok (.if_icmp .gt 1256, 3) := by decide +kernel
theorem dL_law_32 : decode cL_law 32 = .ok (.aload_n 0, 1) := by decide +kernel
theorem dL_law_33 : decode cL_law 33 = .ok (.iload 4, 2) := by decide +kernel
theorem dL_law_35 : decode cL_law 35 = .ok (.iaload, 1) := by decide +kernel
theorem dL_law_36 : decode cL_law 36 = .ok (.bipush 31, 2) := by decide +kernel
theorem dL_law_38 : decode cL_law 38 = .ok (.iand, 1) := by decide +kernel
theorem dL_law_39 : decode cL_law 39 = .ok (.tableswitch 1240 0 19 #[93, 185, 253, 333, 389, 437, 517, 530, 586, 642, 697, 765, 778, 834, 889, 937, 1005, 1061, 1117, 1185], 93) := by decide +kernel
theorem dL_law_132 : decode cL_law 132 = .ok (.aload_n 1, 1) := by decide +kernel
theorem dL_law_133 : decode cL_law 133 = .ok (.aload_n 0, 1) := by decide +kernel
theorem dL_law_134 : decode cL_law 134 = .ok (.iload 4, 2) := by decide +kernel
theorem dL_law_136 : decode cL_law 136 = .ok (.iconst 1, 1) := by decide +kernel
theorem dL_law_137 : decode cL_law 137 = .ok (.iadd, 1) := by decide +kernel
theorem dL_law_138 : decode cL_law 138 = .ok (.iaload, 1) := by decide +kernel
theorem dL_law_139 : decode cL_law 139 = .ok (.aload_n 0, 1) := by decide +kernel
theorem dL_law_140 : decode cL_law 140 = .ok (.iload 4, 2) := by decide +kernel
theorem dL_law_142 : decode cL_law 142 = .ok (.iconst 2, 1) := by decide +kernel
theorem dL_law_143 : decode cL_law 143 = .ok (.iadd, 1) := by decide +kernel
theorem dL_law_144 : decode cL_law 144 = .ok (.iaload, 1) := by decide +kernel
theorem dL_law_145 : decode cL_law 145 = .ok (.aload_n 0, 1) := by decide +kernel
theorem dL_law_146 : decode cL_law 146 = .ok (.iload 4, 2) := by decide +kernel
theorem dL_law_148 : decode cL_law 148 = .ok (.iconst 3, 1) := by decide +kernel
theorem dL_law_149 : decode cL_law 149 = .ok (.iadd, 1) := by decide +kernel
theorem dL_law_150 : decode cL_law 150 = .ok (.iaload, 1) := by decide +kernel
theorem dL_law_151 : decode cL_law 151 = .ok (.aload_n 0, 1) := by decide +kernel
theorem dL_law_152 : decode cL_law 152 = .ok (.iload 4, 2) := by decide +kernel
theorem dL_law_154 : decode cL_law 154 = .ok (.iconst 4, 1) := by decide +kernel
theorem dL_law_155 : decode cL_law 155 = .ok (.iadd, 1) := by decide +kernel
theorem dL_law_156 : decode cL_law 156 = .ok (.iaload, 1) := by decide +kernel
theorem dL_law_157 : decode cL_law 157 = .ok (.aload_n 3, 1) := by decide +kernel
theorem dL_law_158 : decode cL_law 158 = .ok (.invokestatic 77, 3) := by decide +kernel
theorem dL_law_161 : decode cL_law 161 = .ok (.istore 5, 2) := by decide +kernel
theorem dL_law_163 : decode cL_law 163 = .ok (.aload_n 2, 1) := by decide +kernel
theorem dL_law_164 : decode cL_law 164 = .ok (.aload_n 0, 1) := by decide +kernel
theorem dL_law_165 : decode cL_law 165 = .ok (.iload 4, 2) := by decide +kernel
theorem dL_law_167 : decode cL_law 167 = .ok (.iconst 1, 1) := by decide +kernel
theorem dL_law_168 : decode cL_law 168 = .ok (.iadd, 1) := by decide +kernel
theorem dL_law_169 : decode cL_law 169 = .ok (.iaload, 1) := by decide +kernel
theorem dL_law_170 : decode cL_law 170 = .ok (.aload_n 0, 1) := by decide +kernel
theorem dL_law_171 : decode cL_law 171 = .ok (.iload 4, 2) := by decide +kernel
theorem dL_law_173 : decode cL_law 173 = .ok (.iconst 2, 1) := by decide +kernel
theorem dL_law_174 : decode cL_law 174 = .ok (.iadd, 1) := by decide +kernel
theorem dL_law_175 : decode cL_law 175 = .ok (.iaload, 1) := by decide +kernel
theorem dL_law_176 : decode cL_law 176 = .ok (.aload_n 0, 1) := by decide +kernel
theorem dL_law_177 : decode cL_law 177 = .ok (.iload 4, 2) := by decide +kernel
theorem dL_law_179 : decode cL_law 179 = .ok (.iconst 3, 1) := by decide +kernel
theorem dL_law_180 : decode cL_law 180 = .ok (.iadd, 1) := by decide +kernel
theorem dL_law_181 : decode cL_law 181 = .ok (.iaload, 1) := by decide +kernel
theorem dL_law_182 : decode cL_law 182 = .ok (.aload_n 0, 1) := by decide +kernel
theorem dL_law_183 : decode cL_law 183 = .ok (.iload 4, 2) := by decide +kernel
theorem dL_law_185 : decode cL_law 185 = .ok (.iconst 4, 1) := by decide +kernel
theorem dL_law_186 : decode cL_law 186 = .ok (.iadd, 1) := by decide +kernel
theorem dL_law_187 : decode cL_law 187 = .ok (.iaload, 1) := by decide +kernel
theorem dL_law_188 : decode cL_law 188 = .ok (.invokevirtual 82, 3) := by decide +kernel
theorem dL_law_191 : decode cL_law 191 = .ok (.istore 6, 2) := by decide +kernel
theorem dL_law_193 : decode cL_law 193 = .ok (.aload_n 2, 1) := by decide +kernel
theorem dL_law_194 : decode cL_law 194 = .ok (.invokevirtual 83, 3) := by decide +kernel
theorem dL_law_197 : decode cL_law 197 = .ok (.iload 5, 2) := by decide +kernel
theorem dL_law_199 : decode cL_law 199 = .ok (.if_icmp .eq 5, 3) := by decide +kernel
theorem dL_law_202 : decode cL_law 202 = .ok (.iconst 0, 1) := by decide +kernel
theorem dL_law_203 : decode cL_law 203 = .ok (.ireturn, 1) := by decide +kernel
theorem dL_law_204 : decode cL_law 204 = .ok (.iload 5, 2) := by decide +kernel
theorem dL_law_206 : decode cL_law 206 = .ok (.ifCond .ne 15, 3) := by decide +kernel
theorem dL_law_209 : decode cL_law 209 = .ok (.aload_n 3, 1) := by decide +kernel
theorem dL_law_210 : decode cL_law 210 = .ok (.iconst 0, 1) := by decide +kernel
theorem dL_law_211 : decode cL_law 211 = .ok (.laload, 1) := by decide +kernel
theorem dL_law_212 : decode cL_law 212 = .ok (.iload 6, 2) := by decide +kernel
theorem dL_law_214 : decode cL_law 214 = .ok (.i2l, 1) := by decide +kernel
theorem dL_law_215 : decode cL_law 215 = .ok (.lcmp, 1) := by decide +kernel
theorem dL_law_216 : decode cL_law 216 = .ok (.ifCond .eq 5, 3) := by decide +kernel
theorem dL_law_219 : decode cL_law 219 = .ok (.iconst 0, 1) := by decide +kernel
theorem dL_law_220 : decode cL_law 220 = .ok (.ireturn, 1) := by decide +kernel
theorem dL_law_221 : decode cL_law 221 = .ok (.goto 1058, 3) := by decide +kernel
theorem dL_law_224 : decode cL_law 224 = .ok (.aload_n 1, 1) := by decide +kernel
theorem dL_law_225 : decode cL_law 225 = .ok (.aload_n 0, 1) := by decide +kernel
theorem dL_law_226 : decode cL_law 226 = .ok (.iload 4, 2) := by decide +kernel
theorem dL_law_228 : decode cL_law 228 = .ok (.iconst 1, 1) := by decide +kernel
theorem dL_law_229 : decode cL_law 229 = .ok (.iadd, 1) := by decide +kernel
theorem dL_law_230 : decode cL_law 230 = .ok (.iaload, 1) := by decide +kernel
theorem dL_law_231 : decode cL_law 231 = .ok (.aload_n 0, 1) := by decide +kernel
theorem dL_law_232 : decode cL_law 232 = .ok (.iload 4, 2) := by decide +kernel
