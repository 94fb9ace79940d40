theorem dX1_stepTowards_8 : decode cX1_stepTowards 8 = .ok (.getfield 24, 3) := by decide +kernel
theorem dX1_stepTowards_11 : decode cX1_stepTowards 11 = .ok (.iadd, 1) := by decide +kernel
theorem dX1_stepTowards_12 : decode cX1_stepTowards 12 = .ok (.iload_n 2, 1) := by decide +kernel
theorem dX1_stepTowards_13 : decode cX1_stepTowards 13 = .ok (.invokestatic 70, 3) := by decide +kernel
theorem dX1_stepTowards_16 : decode cX1_stepTowards 16 = .ok (.invokestatic 75, 3) := by decide +kernel
theorem dX1_stepTowards_19 : decode cX1_stepTowards 19 = .ok (.ireturn, 1) := by decide +kernel
set_option maxRecDepth 20000 in
theorem ggX1_needOf_X0_lampLight : GoodIn wsX1_needOf wsX0_lampLight := goodIn_r _ [15, 16, 17, 18, 19, 14, 20, 49, 50, 51, 52, 53, 54, 55, 56, 57, 58, 59, 60] (by decide +kernel) (by decide +kernel)
set_option maxRecDepth 20000 in
theorem gX1_needOf_X0_lampLight : GoodIn wsX1_needOf (wsV RX1 81 RX0 yX0_lampLight wsX0_lampLight) := goodIn_app (goodIn_of _ (by decide +kernel)) ggX1_needOf_X0_lampLight
set_option maxRecDepth 20000 in
theorem ggX1_needOf_X4_quotient : GoodIn wsX1_needOf wsX4_quotient := goodIn_r _ [23] (by decide +kernel) (by decide +kernel)
set_option maxRecDepth 20000 in
theorem gX1_needOf_X4_quotient_n86 : GoodIn wsX1_needOf (wsX4_quotient) := ggX1_needOf_X4_quotient
theorem dX1_needOf_0 : decode cX1_needOf 0 = .ok (.aload_n 0, 1) := by decide +kernel
theorem dX1_needOf_1 : decode cX1_needOf 1 = .ok (.getfield 9, 3) := by decide +kernel
theorem dX1_needOf_4 : decode cX1_needOf 4 = .ok (.iload_n 1, 1) := by decide +kernel
theorem dX1_needOf_5 : decode cX1_needOf 5 = .ok (.iaload, 1) := by decide +kernel
theorem dX1_needOf_6 : decode cX1_needOf 6 = .ok (.istore_n 2, 1) := by decide +kernel
theorem dX1_needOf_7 : decode cX1_needOf 7 = .ok (.iload_n 2, 1) := by decide +kernel
theorem dX1_needOf_8 : decode cX1_needOf 8 = .ok (.ifCond .ge 6, 3) := by decide +kernel
theorem dX1_needOf_11 : decode cX1_needOf 11 = .ok (.bipush 100, 2) := by decide +kernel
theorem dX1_needOf_13 : decode cX1_needOf 13 = .ok (.ireturn, 1) := by decide +kernel
theorem dX1_needOf_14 : decode cX1_needOf 14 = .ok (.aload_n 0, 1) := by decide +kernel
theorem dX1_needOf_15 : decode cX1_needOf 15 = .ok (.getfield 28, 3) := by decide +kernel
theorem dX1_needOf_18 : decode cX1_needOf 18 = .ok (.getfield 78, 3) := by decide +kernel
theorem dX1_needOf_21 : decode cX1_needOf 21 = .ok (.iload_n 2, 1) := by decide +kernel
theorem dX1_needOf_22 : decode cX1_needOf 22 = .ok (.iaload, 1) := by decide +kernel
theorem dX1_needOf_23 : decode cX1_needOf 23 = .ok (.aload_n 0, 1) := by decide +kernel
theorem dX1_needOf_24 : decode cX1_needOf 24 = .ok (.getfield 15, 3) := by decide +kernel
theorem dX1_needOf_27 : decode cX1_needOf 27 = .ok (.iload_n 2, 1) := by decide +kernel
theorem dX1_needOf_28 : decode cX1_needOf 28 = .ok (.iaload, 1) := by decide +kernel
theorem dX1_needOf_29 : decode cX1_needOf 29 = .ok (.isub, 1) := by decide +kernel
theorem dX1_needOf_30 : decode cX1_needOf 30 = .ok (.istore_n 3, 1) := by decide +kernel
theorem dX1_needOf_31 : decode cX1_needOf 31 = .ok (.iload_n 3, 1) := by decide +kernel
theorem dX1_needOf_32 : decode cX1_needOf 32 = .ok (.ifCond .gt 5, 3) := by decide +kernel
theorem dX1_needOf_35 : decode cX1_needOf 35 = .ok (.iconst 0, 1) := by decide +kernel
theorem dX1_needOf_36 : decode cX1_needOf 36 = .ok (.ireturn, 1) := by decide +kernel
theorem dX1_needOf_37 : decode cX1_needOf 37 = .ok (.aload_n 0, 1) := by decide +kernel
theorem dX1_needOf_38 : decode cX1_needOf 38 = .ok (.getfield 32, 3) := by decide +kernel
theorem dX1_needOf_41 : decode cX1_needOf 41 = .ok (.iload_n 1, 1) := by decide +kernel
theorem dX1_needOf_42 : decode cX1_needOf 42 = .ok (.iload_n 2, 1) := by decide +kernel
theorem dX1_needOf_43 : decode cX1_needOf 43 = .ok (.invokevirtual 81, 3) := by decide +kernel
theorem dX1_needOf_46 : decode cX1_needOf 46 = .ok (.i2l, 1) := by decide +kernel
theorem dX1_needOf_47 : decode cX1_needOf 47 = .ok (.lstore 4, 2) := by decide +kernel
theorem dX1_needOf_49 : decode cX1_needOf 49 = .ok (.lload 4, 2) := by decide +kernel
theorem dX1_needOf_51 : decode cX1_needOf 51 = .ok (.lconst 0, 1) := by decide +kernel
theorem dX1_needOf_52 : decode cX1_needOf 52 = .ok (.lcmp, 1) := by decide +kernel
theorem dX1_needOf_53 : decode cX1_needOf 53 = .ok (.ifCond .ne 6, 3) := by decide +kernel
theorem dX1_needOf_56 : decode cX1_needOf 56 = .ok (.bipush 100, 2) := by decide +kernel
theorem dX1_needOf_58 : decode cX1_needOf 58 = .ok (.ireturn, 1) := by decide +kernel
theorem dX1_needOf_59 : decode cX1_needOf 59 = .ok (.ldc2_w 84, 3) := by decide +kernel
theorem dX1_needOf_62 : decode cX1_needOf 62 = .ok (.ldc2_w 84, 3) := by decide +kernel
theorem dX1_needOf_65 : decode cX1_needOf 65 = .ok (.iload_n 3, 1) := by decide +kernel
theorem dX1_needOf_66 : decode cX1_needOf 66 = .ok (.i2l, 1) := by decide +kernel
theorem dX1_needOf_67 : decode cX1_needOf 67 = .ok (.lmul, 1) := by decide +kernel
theorem dX1_needOf_68 : decode cX1_needOf 68 = .ok (.lload 4, 2) := by decide +kernel
theorem dX1_needOf_70 : decode cX1_needOf 70 = .ok (.ladd, 1) := by decide +kernel
theorem dX1_needOf_71 : decode cX1_needOf 71 = .ok (.lconst 1, 1) := by decide +kernel
theorem dX1_needOf_72 : decode cX1_needOf 72 = .ok (.lsub, 1) := by decide +kernel
theorem dX1_needOf_73 : decode cX1_needOf 73 = .ok (.lload 4, 2) := by decide +kernel
theorem dX1_needOf_75 : decode cX1_needOf 75 = .ok (.invokestatic 86, 3) := by decide +kernel
theorem dX1_needOf_78 : decode cX1_needOf 78 = .ok (.invokestatic 90, 3) := by decide +kernel
theorem dX1_needOf_81 : decode cX1_needOf 81 = .ok (.l2i, 1) := by decide +kernel
theorem dX1_needOf_82 : decode cX1_needOf 82 = .ok (.ireturn, 1) := by decide +kernel
set_option maxRecDepth 20000 in
theorem ggX1_shine_X4_quotient : GoodIn wsX1_shine wsX4_quotient := goodIn_r _ [14] (by decide +kernel) (by decide +kernel)
set_option maxRecDepth 20000 in
theorem gX1_shine_X4_quotient_n86 : GoodIn wsX1_shine (wsX4_quotient) := ggX1_shine_X4_quotient
theorem dX1_shine_0 : decode cX1_shine 0 = .ok (.aload_n 0, 1) := by decide +kernel
theorem dX1_shine_1 : decode cX1_shine 1 = .ok (.getfield 32, 3) := by decide +kernel
theorem dX1_shine_4 : decode cX1_shine 4 = .ok (.getfield 47, 3) := by decide +kernel
theorem dX1_shine_7 : decode cX1_shine 7 = .ok (.iload_n 1, 1) := by decide +kernel
theorem dX1_shine_8 : decode cX1_shine 8 = .ok (.iaload, 1) := by decide +kernel
theorem dX1_shine_9 : decode cX1_shine 9 = .ok (.istore_n 3, 1) := by decide +kernel
theorem dX1_shine_10 : decode cX1_shine 10 = .ok (.iload_n 3, 1) := by decide +kernel
theorem dX1_shine_11 : decode cX1_shine 11 = .ok (.ifCond .lt 16, 3) := by decide +kernel
theorem dX1_shine_14 : decode cX1_shine 14 = .ok (.iload_n 2, 1) := by decide +kernel
theorem dX1_shine_15 : decode cX1_shine 15 = .ok (.ifCond .le 12, 3) := by decide +kernel
theorem dX1_shine_18 : decode cX1_shine 18 = .ok (.aload_n 0, 1) := by decide +kernel
theorem dX1_shine_19 : decode cX1_shine 19 = .ok (.getfield 18, 3) := by decide +kernel
theorem dX1_shine_22 : decode cX1_shine 22 = .ok (.iload_n 1, 1) := by decide +kernel
theorem dX1_shine_23 : decode cX1_shine 23 = .ok (.iaload, 1) := by decide +kernel
theorem dX1_shine_24 : decode cX1_shine 24 = .ok (.ifCond .ne 4, 3) := by decide +kernel
theorem dX1_shine_27 : decode cX1_shine 27 = .ok (.return_, 1) := by decide +kernel
theorem dX1_shine_28 : decode cX1_shine 28 = .ok (.aload_n 0, 1) := by decide +kernel
theorem dX1_shine_29 : decode cX1_shine 29 = .ok (.dup, 1) := by decide +kernel
theorem dX1_shine_30 : decode cX1_shine 30 = .ok (.getfield 92, 3) := by decide +kernel
theorem dX1_shine_33 : decode cX1_shine 33 = .ok (.iload_n 2, 1) := by decide +kernel
theorem dX1_shine_34 : decode cX1_shine 34 = .ok (.i2l, 1) := by decide +kernel
theorem dX1_shine_35 : decode cX1_shine 35 = .ok (.aload_n 0, 1) := by decide +kernel
theorem dX1_shine_36 : decode cX1_shine 36 = .ok (.getfield 18, 3) := by decide +kernel
theorem dX1_shine_39 : decode cX1_shine 39 = .ok (.iload_n 1, 1) := by decide +kernel
theorem dX1_shine_40 : decode cX1_shine 40 = .ok (.iaload, 1) := by decide +kernel
theorem dX1_shine_41 : decode cX1_shine 41 = .ok (.i2l, 1) := by decide +kernel
theorem dX1_shine_42 : decode cX1_shine 42 = .ok (.lmul, 1) := by decide +kernel
theorem dX1_shine_43 : decode cX1_shine 43 = .ok (.aload_n 0, 1) := by decide +kernel
theorem dX1_shine_44 : decode cX1_shine 44 = .ok (.getfield 28, 3) := by decide +kernel
theorem dX1_shine_47 : decode cX1_shine 47 = .ok (.getfield 96, 3) := by decide +kernel
theorem dX1_shine_50 : decode cX1_shine 50 = .ok (.iload_n 3, 1) := by decide +kernel
theorem dX1_shine_51 : decode cX1_shine 51 = .ok (.iaload, 1) := by decide +kernel
theorem dX1_shine_52 : decode cX1_shine 52 = .ok (.i2l, 1) := by decide +kernel
theorem dX1_shine_53 : decode cX1_shine 53 = .ok (.lmul, 1) := by decide +kernel
theorem dX1_shine_54 : decode cX1_shine 54 = .ok (.ladd, 1) := by decide +kernel
theorem dX1_shine_55 : decode cX1_shine 55 = .ok (.putfield 92, 3) := by decide +kernel
theorem dX1_shine_58 : decode cX1_shine 58 = .ok (.bipush 60, 2) := by decide +kernel
theorem dX1_shine_60 : decode cX1_shine 60 = .ok (.aload_n 0, 1) := by decide +kernel
theorem dX1_shine_61 : decode cX1_shine 61 = .ok (.getfield 28, 3) := by decide +kernel
theorem dX1_shine_64 : decode cX1_shine 64 = .ok (.getfield 99, 3) := by decide +kernel
theorem dX1_shine_67 : decode cX1_shine 67 = .ok (.iload_n 3, 1) := by decide +kernel
theorem dX1_shine_68 : decode cX1_shine 68 = .ok (.iaload, 1) := by decide +kernel
theorem dX1_shine_69 : decode cX1_shine 69 = .ok (.imul, 1) := by decide +kernel
theorem dX1_shine_70 : decode cX1_shine 70 = .ok (.istore 4, 2) := by decide +kernel
theorem dX1_shine_72 : decode cX1_shine 72 = .ok (.aload_n 0, 1) := by decide +kernel
theorem dX1_shine_73 : decode cX1_shine 73 = .ok (.getfield 21, 3) := by decide +kernel
theorem dX1_shine_76 : decode cX1_shine 76 = .ok (.iload_n 1, 1) := by decide +kernel
theorem dX1_shine_77 : decode cX1_shine 77 = .ok (.iaload, 1) := by decide +kernel
theorem dX1_shine_78 : decode cX1_shine 78 = .ok (.iload_n 2, 1) := by decide +kernel
theorem dX1_shine_79 : decode cX1_shine 79 = .ok (.iadd, 1) := by decide +kernel
theorem dX1_shine_80 : decode cX1_shine 80 = .ok (.istore 5, 2) := by decide +kernel
theorem dX1_shine_82 : decode cX1_shine 82 = .ok (.iload 5, 2) := by decide +kernel
theorem dX1_shine_84 : decode cX1_shine 84 = .ok (.iconst 1, 1) := by decide +kernel
theorem dX1_shine_85 : decode cX1_shine 85 = .ok (.isub, 1) := by decide +kernel
theorem dX1_shine_86 : decode cX1_shine 86 = .ok (.i2l, 1) := by decide +kernel
theorem dX1_shine_87 : decode cX1_shine 87 = .ok (.iload 4, 2) := by decide +kernel
theorem dX1_shine_89 : decode cX1_shine 89 = .ok (.i2l, 1) := by decide +kernel
theorem dX1_shine_90 : decode cX1_shine 90 = .ok (.invokestatic 86, 3) := by decide +kernel
theorem dX1_shine_93 : decode cX1_shine 93 = .ok (.l2i, 1) := by decide +kernel
theorem dX1_shine_94 : decode cX1_shine 94 = .ok (.istore 6, 2) := by decide +kernel
theorem dX1_shine_96 : decode cX1_shine 96 = .ok (.aload_n 0, 1) := by decide +kernel
theorem dX1_shine_97 : decode cX1_shine 97 = .ok (.getfield 21, 3) := by decide +kernel
theorem dX1_shine_100 : decode cX1_shine 100 = .ok (.iload_n 1, 1) := by decide +kernel
theorem dX1_shine_101 : decode cX1_shine 101 = .ok (.iload 5, 2) := by decide +kernel
theorem dX1_shine_103 : decode cX1_shine 103 = .ok (.iload 6, 2) := by decide +kernel
theorem dX1_shine_105 : decode cX1_shine 105 = .ok (.iload 4, 2) := by decide +kernel
theorem dX1_shine_107 : decode cX1_shine 107 = .ok (.imul, 1) := by decide +kernel
theorem dX1_shine_108 : decode cX1_shine 108 = .ok (.isub, 1) := by decide +kernel
theorem dX1_shine_109 : decode cX1_shine 109 = .ok (.iastore, 1) := by decide +kernel
theorem dX1_shine_110 : decode cX1_shine 110 = .ok (.aload_n 0, 1) := by decide +kernel
theorem dX1_shine_111 : decode cX1_shine 111 = .ok (.dup, 1) := by decide +kernel
theorem dX1_shine_112 : decode cX1_shine 112 = .ok (.getfield 102, 3) := by decide +kernel
theorem dX1_shine_115 : decode cX1_shine 115 = .ok (.iload 6, 2) := by decide +kernel
theorem dX1_shine_117 : decode cX1_shine 117 = .ok (.i2l, 1) := by decide +kernel
theorem dX1_shine_118 : decode cX1_shine 118 = .ok (.ladd, 1) := by decide +kernel
theorem dX1_shine_119 : decode cX1_shine 119 = .ok (.putfield 102, 3) := by decide +kernel
theorem dX1_shine_122 : decode cX1_shine 122 = .ok (.aload_n 0, 1) := by decide +kernel
theorem dX1_shine_123 : decode cX1_shine 123 = .ok (.dup, 1) := by decide +kernel
theorem dX1_shine_124 : decode cX1_shine 124 = .ok (.getfield 105, 3) := by decide +kernel
theorem dX1_shine_127 : decode cX1_shine 127 = .ok (.iload 6, 2) := by decide +kernel
theorem dX1_shine_129 : decode cX1_shine 129 = .ok (.i2l, 1) := by decide +kernel
theorem dX1_shine_130 : decode cX1_shine 130 = .ok (.aload_n 0, 1) := by decide +kernel
theorem dX1_shine_131 : decode cX1_shine 131 = .ok (.getfield 28, 3) := by decide +kernel
theorem dX1_shine_134 : decode cX1_shine 134 = .ok (.getfield 108, 3) := by decide +kernel
theorem dX1_shine_137 : decode cX1_shine 137 = .ok (.iload_n 3, 1) := by decide +kernel
theorem dX1_shine_138 : decode cX1_shine 138 = .ok (.iaload, 1) := by decide +kernel
theorem dX1_shine_139 : decode cX1_shine 139 = .ok (.i2l, 1) := by decide +kernel
theorem dX1_shine_140 : decode cX1_shine 140 = .ok (.lmul, 1) := by decide +kernel
theorem dX1_shine_141 : decode cX1_shine 141 = .ok (.ladd, 1) := by decide +kernel
theorem dX1_shine_142 : decode cX1_shine 142 = .ok (.putfield 105, 3) := by decide +kernel
theorem dX1_shine_145 : decode cX1_shine 145 = .ok (.return_, 1) := by decide +kernel
theorem dX2_init_0 : decode cX2_init 0 = .ok (.aload_n 0, 1) := by decide +kernel
theorem dX2_init_1 : decode cX2_init 1 = .ok (.invokespecial 3, 3) := by decide +kernel
theorem dX2_init_4 : decode cX2_init 4 = .ok (.aload_n 0, 1) := by decide +kernel
theorem dX2_init_5 : decode cX2_init 5 = .ok (.iconst 3, 1) := by decide +kernel
theorem dX2_init_6 : decode cX2_init 6 = .ok (.newarray .int, 2) := by decide +kernel
theorem dX2_init_8 : decode cX2_init 8 = .ok (.putfield 9, 3) := by decide +kernel
theorem dX2_init_11 : decode cX2_init 11 = .ok (.aload_n 0, 1) := by decide +kernel
theorem dX2_init_12 : decode cX2_init 12 = .ok (.iconst 3, 1) := by decide +kernel
theorem dX2_init_13 : decode cX2_init 13 = .ok (.newarray .int, 2) := by decide +kernel
theorem dX2_init_15 : decode cX2_init 15 = .ok (.putfield 15, 3) := by decide +kernel
theorem dX2_init_18 : decode cX2_init 18 = .ok (.aload_n 0, 1) := by decide +kernel
theorem dX2_init_19 : decode cX2_init 19 = .ok (.iconst 3, 1) := by decide +kernel
theorem dX2_init_20 : decode cX2_init 20 = .ok (.newarray .int, 2) := by decide +kernel
theorem dX2_init_22 : decode cX2_init 22 = .ok (.putfield 18, 3) := by decide +kernel
theorem dX2_init_25 : decode cX2_init 25 = .ok (.aload_n 0, 1) := by decide +kernel
theorem dX2_init_26 : decode cX2_init 26 = .ok (.iconst 3, 1) := by decide +kernel
theorem dX2_init_27 : decode cX2_init 27 = .ok (.newarray .int, 2) := by decide +kernel
theorem dX2_init_29 : decode cX2_init 29 = .ok (.putfield 21, 3) := by decide +kernel
theorem dX2_init_32 : decode cX2_init 32 = .ok (.aload_n 0, 1) := by decide +kernel
theorem dX2_init_33 : decode cX2_init 33 = .ok (.bipush 7, 2) := by decide +kernel
theorem dX2_init_35 : decode cX2_init 35 = .ok (.newarray .int, 2) := by decide +kernel
theorem dX2_init_37 : decode cX2_init 37 = .ok (.putfield 24, 3) := by decide +kernel
theorem dX2_init_40 : decode cX2_init 40 = .ok (.aload_n 0, 1) := by decide +kernel
theorem dX2_init_41 : decode cX2_init 41 = .ok (.bipush 7, 2) := by decide +kernel
theorem dX2_init_43 : decode cX2_init 43 = .ok (.newarray .int, 2) := by decide +kernel
theorem dX2_init_45 : decode cX2_init 45 = .ok (.putfield 27, 3) := by decide +kernel
theorem dX2_init_48 : decode cX2_init 48 = .ok (.aload_n 0, 1) := by decide +kernel
theorem dX2_init_49 : decode cX2_init 49 = .ok (.bipush 7, 2) := by decide +kernel
theorem dX2_init_51 : decode cX2_init 51 = .ok (.newarray .int, 2) := by decide +kernel
theorem dX2_init_53 : decode cX2_init 53 = .ok (.putfield 30, 3) := by decide +kernel
theorem dX2_init_56 : decode cX2_init 56 = .ok (.aload_n 0, 1) := by decide +kernel
theorem dX2_init_57 : decode cX2_init 57 = .ok (.bipush 16, 2) := by decide +kernel
theorem dX2_init_59 : decode cX2_init 59 = .ok (.newarray .int, 2) := by decide +kernel
theorem dX2_init_61 : decode cX2_init 61 = .ok (.putfield 33, 3) := by decide +kernel
theorem dX2_init_64 : decode cX2_init 64 = .ok (.aload_n 0, 1) := by decide +kernel
theorem dX2_init_65 : decode cX2_init 65 = .ok (.bipush 16, 2) := by decide +kernel
theorem dX2_init_67 : decode cX2_init 67 = .ok (.newarray .int, 2) := by decide +kernel
theorem dX2_init_69 : decode cX2_init 69 = .ok (.putfield 36, 3) := by decide +kernel
theorem dX2_init_72 : decode cX2_init 72 = .ok (.aload_n 0, 1) := by decide +kernel
theorem dX2_init_73 : decode cX2_init 73 = .ok (.bipush 16, 2) := by decide +kernel
theorem dX2_init_75 : decode cX2_init 75 = .ok (.newarray .int, 2) := by decide +kernel
theorem dX2_init_77 : decode cX2_init 77 = .ok (.putfield 39, 3) := by decide +kernel
theorem dX2_init_80 : decode cX2_init 80 = .ok (.aload_n 0, 1) := by decide +kernel
theorem dX2_init_81 : decode cX2_init 81 = .ok (.iconst 3, 1) := by decide +kernel
theorem dX2_init_82 : decode cX2_init 82 = .ok (.putfield 42, 3) := by decide +kernel
theorem dX2_init_85 : decode cX2_init 85 = .ok (.iconst 0, 1) := by decide +kernel
theorem dX2_init_86 : decode cX2_init 86 = .ok (.istore_n 1, 1) := by decide +kernel
theorem dX2_init_87 : decode cX2_init 87 = .ok (.iload_n 1, 1) := by decide +kernel
theorem dX2_init_88 : decode cX2_init 88 = .ok (.bipush 7, 2) := by decide +kernel
theorem dX2_init_90 : decode cX2_init 90 = .ok (.if_icmp .ge 17, 3) := by decide +kernel
theorem dX2_init_93 : decode cX2_init 93 = .ok (.aload_n 0, 1) := by decide +kernel
theorem dX2_init_94 : decode cX2_init 94 = .ok (.getfield 30, 3) := by decide +kernel
theorem dX2_init_97 : decode cX2_init 97 = .ok (.iload_n 1, 1) := by decide +kernel
theorem dX2_init_98 : decode cX2_init 98 = .ok (.bipush (-2), 2) := by decide +kernel
theorem dX2_init_100 : decode cX2_init 100 = .ok (.iastore, 1) := by decide +kernel
theorem dX2_init_101 : decode cX2_init 101 = .ok (.iinc 1 1, 3) := by decide +kernel
theorem dX2_init_104 : decode cX2_init 104 = .ok (.goto (-17), 3) := by decide +kernel
theorem dX2_init_107 : decode cX2_init 107 = .ok (.return_, 1) := by decide +kernel
theorem dX2_addKind_0 : decode cX2_addKind 0 = .ok (.aload_n 0, 1) := by decide +kernel
theorem dX2_addKind_1 : decode cX2_addKind 1 = .ok (.getfield 46, 3) := by decide +kernel
theorem dX2_addKind_4 : decode cX2_addKind 4 = .ok (.istore 5, 2) := by decide +kernel
theorem dX2_addKind_6 : decode cX2_addKind 6 = .ok (.aload_n 0, 1) := by decide +kernel
theorem dX2_addKind_7 : decode cX2_addKind 7 = .ok (.getfield 9, 3) := by decide +kernel
theorem dX2_addKind_10 : decode cX2_addKind 10 = .ok (.iload 5, 2) := by decide +kernel
theorem dX2_addKind_12 : decode cX2_addKind 12 = .ok (.iload_n 1, 1) := by decide +kernel
theorem dX2_addKind_13 : decode cX2_addKind 13 = .ok (.iastore, 1) := by decide +kernel
theorem dX2_addKind_14 : decode cX2_addKind 14 = .ok (.aload_n 0, 1) := by decide +kernel
theorem dX2_addKind_15 : decode cX2_addKind 15 = .ok (.getfield 15, 3) := by decide +kernel
theorem dX2_addKind_18 : decode cX2_addKind 18 = .ok (.iload 5, 2) := by decide +kernel
theorem dX2_addKind_20 : decode cX2_addKind 20 = .ok (.iload_n 2, 1) := by decide +kernel
theorem dX2_addKind_21 : decode cX2_addKind 21 = .ok (.iastore, 1) := by decide +kernel
theorem dX2_addKind_22 : decode cX2_addKind 22 = .ok (.aload_n 0, 1) := by decide +kernel
theorem dX2_addKind_23 : decode cX2_addKind 23 = .ok (.getfield 18, 3) := by decide +kernel
theorem dX2_addKind_26 : decode cX2_addKind 26 = .ok (.iload 5, 2) := by decide +kernel
theorem dX2_addKind_28 : decode cX2_addKind 28 = .ok (.iload_n 3, 1) := by decide +kernel
theorem dX2_addKind_29 : decode cX2_addKind 29 = .ok (.iastore, 1) := by decide +kernel
theorem dX2_addKind_30 : decode cX2_addKind 30 = .ok (.aload_n 0, 1) := by decide +kernel
theorem dX2_addKind_31 : decode cX2_addKind 31 = .ok (.getfield 21, 3) := by decide +kernel
theorem dX2_addKind_34 : decode cX2_addKind 34 = .ok (.iload 5, 2) := by decide +kernel
theorem dX2_addKind_36 : decode cX2_addKind 36 = .ok (.iload 4, 2) := by decide +kernel
theorem dX2_addKind_38 : decode cX2_addKind 38 = .ok (.iastore, 1) := by decide +kernel
theorem dX2_addKind_39 : decode cX2_addKind 39 = .ok (.aload_n 0, 1) := by decide +kernel
theorem dX2_addKind_40 : decode cX2_addKind 40 = .ok (.dup, 1) := by decide +kernel
theorem dX2_addKind_41 : decode cX2_addKind 41 = .ok (.getfield 46, 3) := by decide +kernel
theorem dX2_addKind_44 : decode cX2_addKind 44 = .ok (.iconst 1, 1) := by decide +kernel
theorem dX2_addKind_45 : decode cX2_addKind 45 = .ok (.iadd, 1) := by decide +kernel
theorem dX2_addKind_46 : decode cX2_addKind 46 = .ok (.putfield 46, 3) := by decide +kernel
theorem dX2_addKind_49 : decode cX2_addKind 49 = .ok (.iload 5, 2) := by decide +kernel
theorem dX2_addKind_51 : decode cX2_addKind 51 = .ok (.ireturn, 1) := by decide +kernel
theorem dX2_addPlace_0 : decode cX2_addPlace 0 = .ok (.aload_n 0, 1) := by decide +kernel
theorem dX2_addPlace_1 : decode cX2_addPlace 1 = .ok (.getfield 49, 3) := by decide +kernel
theorem dX2_addPlace_4 : decode cX2_addPlace 4 = .ok (.istore_n 3, 1) := by decide +kernel
theorem dX2_addPlace_5 : decode cX2_addPlace 5 = .ok (.aload_n 0, 1) := by decide +kernel
theorem dX2_addPlace_6 : decode cX2_addPlace 6 = .ok (.getfield 24, 3) := by decide +kernel
theorem dX2_addPlace_9 : decode cX2_addPlace 9 = .ok (.iload_n 3, 1) := by decide +kernel
theorem dX2_addPlace_10 : decode cX2_addPlace 10 = .ok (.iload_n 1, 1) := by decide +kernel
theorem dX2_addPlace_11 : decode cX2_addPlace 11 = .ok (.iastore, 1) := by decide +kernel
theorem dX2_addPlace_12 : decode cX2_addPlace 12 = .ok (.aload_n 0, 1) := by decide +kernel
theorem dX2_addPlace_13 : decode cX2_addPlace 13 = .ok (.getfield 27, 3) := by decide +kernel
theorem dX2_addPlace_16 : decode cX2_addPlace 16 = .ok (.iload_n 3, 1) := by decide +kernel
theorem dX2_addPlace_17 : decode cX2_addPlace 17 = .ok (.iload_n 2, 1) := by decide +kernel
theorem dX2_addPlace_18 : decode cX2_addPlace 18 = .ok (.iastore, 1) := by decide +kernel
theorem dX2_addPlace_19 : decode cX2_addPlace 19 = .ok (.aload_n 0, 1) := by decide +kernel
theorem dX2_addPlace_20 : decode cX2_addPlace 20 = .ok (.dup, 1) := by decide +kernel
theorem dX2_addPlace_21 : decode cX2_addPlace 21 = .ok (.getfield 49, 3) := by decide +kernel
theorem dX2_addPlace_24 : decode cX2_addPlace 24 = .ok (.iconst 1, 1) := by decide +kernel
theorem dX2_addPlace_25 : decode cX2_addPlace 25 = .ok (.iadd, 1) := by decide +kernel
theorem dX2_addPlace_26 : decode cX2_addPlace 26 = .ok (.putfield 49, 3) := by decide +kernel
theorem dX2_addPlace_29 : decode cX2_addPlace 29 = .ok (.iload_n 3, 1) := by decide +kernel
theorem dX2_addPlace_30 : decode cX2_addPlace 30 = .ok (.ireturn, 1) := by decide +kernel
theorem dX2_addPoint_0 : decode cX2_addPoint 0 = .ok (.aload_n 0, 1) := by decide +kernel
theorem dX2_addPoint_1 : decode cX2_addPoint 1 = .ok (.getfield 52, 3) := by decide +kernel
theorem dX2_addPoint_4 : decode cX2_addPoint 4 = .ok (.istore 4, 2) := by decide +kernel
theorem dX2_addPoint_6 : decode cX2_addPoint 6 = .ok (.aload_n 0, 1) := by decide +kernel
theorem dX2_addPoint_7 : decode cX2_addPoint 7 = .ok (.getfield 33, 3) := by decide +kernel
theorem dX2_addPoint_10 : decode cX2_addPoint 10 = .ok (.iload 4, 2) := by decide +kernel
theorem dX2_addPoint_12 : decode cX2_addPoint 12 = .ok (.iload_n 1, 1) := by decide +kernel
theorem dX2_addPoint_13 : decode cX2_addPoint 13 = .ok (.iastore, 1) := by decide +kernel
theorem dX2_addPoint_14 : decode cX2_addPoint 14 = .ok (.aload_n 0, 1) := by decide +kernel
theorem dX2_addPoint_15 : decode cX2_addPoint 15 = .ok (.getfield 36, 3) := by decide +kernel
theorem dX2_addPoint_18 : decode cX2_addPoint 18 = .ok (.iload 4, 2) := by decide +kernel
theorem dX2_addPoint_20 : decode cX2_addPoint 20 = .ok (.iload_n 2, 1) := by decide +kernel
theorem dX2_addPoint_21 : decode cX2_addPoint 21 = .ok (.iastore, 1) := by decide +kernel
theorem dX2_addPoint_22 : decode cX2_addPoint 22 = .ok (.aload_n 0, 1) := by decide +kernel
theorem dX2_addPoint_23 : decode cX2_addPoint 23 = .ok (.getfield 39, 3) := by decide +kernel
theorem dX2_addPoint_26 : decode cX2_addPoint 26 = .ok (.iload 4, 2) := by decide +kernel
theorem dX2_addPoint_28 : decode cX2_addPoint 28 = .ok (.iload_n 3, 1) := by decide +kernel
theorem dX2_addPoint_29 : decode cX2_addPoint 29 = .ok (.iastore, 1) := by decide +kernel
theorem dX2_addPoint_30 : decode cX2_addPoint 30 = .ok (.aload_n 0, 1) := by decide +kernel
theorem dX2_addPoint_31 : decode cX2_addPoint 31 = .ok (.dup, 1) := by decide +kernel
theorem dX2_addPoint_32 : decode cX2_addPoint 32 = .ok (.getfield 52, 3) := by decide +kernel
theorem dX2_addPoint_35 : decode cX2_addPoint 35 = .ok (.iconst 1, 1) := by decide +kernel
theorem dX2_addPoint_36 : decode cX2_addPoint 36 = .ok (.iadd, 1) := by decide +kernel
theorem dX2_addPoint_37 : decode cX2_addPoint 37 = .ok (.putfield 52, 3) := by decide +kernel
theorem dX2_addPoint_40 : decode cX2_addPoint 40 = .ok (.iload 4, 2) := by decide +kernel
theorem dX2_addPoint_42 : decode cX2_addPoint 42 = .ok (.ireturn, 1) := by decide +kernel
theorem dX2_mayHave_0 : decode cX2_mayHave 0 = .ok (.aload_n 0, 1) := by decide +kernel
theorem dX2_mayHave_1 : decode cX2_mayHave 1 = .ok (.getfield 30, 3) := by decide +kernel
theorem dX2_mayHave_4 : decode cX2_mayHave 4 = .ok (.iload_n 1, 1) := by decide +kernel
theorem dX2_mayHave_5 : decode cX2_mayHave 5 = .ok (.iaload, 1) := by decide +kernel
theorem dX2_mayHave_6 : decode cX2_mayHave 6 = .ok (.bipush (-2), 2) := by decide +kernel
theorem dX2_mayHave_8 : decode cX2_mayHave 8 = .ok (.if_icmp .eq 13, 3) := by decide +kernel
theorem dX2_mayHave_11 : decode cX2_mayHave 11 = .ok (.aload_n 0, 1) := by decide +kernel
theorem dX2_mayHave_12 : decode cX2_mayHave 12 = .ok (.getfield 30, 3) := by decide +kernel
theorem dX2_mayHave_15 : decode cX2_mayHave 15 = .ok (.iload_n 1, 1) := by decide +kernel
theorem dX2_mayHave_16 : decode cX2_mayHave 16 = .ok (.iaload, 1) := by decide +kernel
theorem dX2_mayHave_17 : decode cX2_mayHave 17 = .ok (.iload_n 2, 1) := by decide +kernel
theorem dX2_mayHave_18 : decode cX2_mayHave 18 = .ok (.if_icmp .ne 7, 3) := by decide +kernel
theorem dX2_mayHave_21 : decode cX2_mayHave 21 = .ok (.iconst 1, 1) := by decide +kernel
theorem dX2_mayHave_22 : decode cX2_mayHave 22 = .ok (.goto 4, 3) := by decide +kernel
theorem dX2_mayHave_25 : decode cX2_mayHave 25 = .ok (.iconst 0, 1) := by decide +kernel
theorem dX2_mayHave_26 : decode cX2_mayHave 26 = .ok (.ireturn, 1) := by decide +kernel
theorem dX2_wattsOf_0 : decode cX2_wattsOf 0 = .ok (.iload_n 1, 1) := by decide +kernel
theorem dX2_wattsOf_1 : decode cX2_wattsOf 1 = .ok (.ifCond .lt 12, 3) := by decide +kernel
theorem dX2_wattsOf_4 : decode cX2_wattsOf 4 = .ok (.aload_n 0, 1) := by decide +kernel
theorem dX2_wattsOf_5 : decode cX2_wattsOf 5 = .ok (.getfield 15, 3) := by decide +kernel
theorem dX2_wattsOf_8 : decode cX2_wattsOf 8 = .ok (.iload_n 1, 1) := by decide +kernel
theorem dX2_wattsOf_9 : decode cX2_wattsOf 9 = .ok (.iaload, 1) := by decide +kernel
theorem dX2_wattsOf_10 : decode cX2_wattsOf 10 = .ok (.goto 4, 3) := by decide +kernel
theorem dX2_wattsOf_13 : decode cX2_wattsOf 13 = .ok (.iconst 0, 1) := by decide +kernel
theorem dX2_wattsOf_14 : decode cX2_wattsOf 14 = .ok (.ireturn, 1) := by decide +kernel
set_option maxRecDepth 20000 in
theorem ggX2_lightOf_X4_quotient : GoodIn wsX2_lightOf wsX4_quotient := goodIn_r _ [10] (by decide +kernel) (by decide +kernel)
set_option maxRecDepth 20000 in
theorem gX2_lightOf_X4_quotient_n57 : GoodIn wsX2_lightOf (wsX4_quotient) := ggX2_lightOf_X4_quotient
theorem dX2_lightOf_0 : decode cX2_lightOf 0 = .ok (.aload_n 0, 1) := by decide +kernel
theorem dX2_lightOf_1 : decode cX2_lightOf 1 = .ok (.getfield 24, 3) := by decide +kernel
theorem dX2_lightOf_4 : decode cX2_lightOf 4 = .ok (.iload_n 2, 1) := by decide +kernel
theorem dX2_lightOf_5 : decode cX2_lightOf 5 = .ok (.iaload, 1) := by decide +kernel
theorem dX2_lightOf_6 : decode cX2_lightOf 6 = .ok (.aload_n 0, 1) := by decide +kernel
theorem dX2_lightOf_7 : decode cX2_lightOf 7 = .ok (.getfield 33, 3) := by decide +kernel
theorem dX2_lightOf_10 : decode cX2_lightOf 10 = .ok (.iload_n 3, 1) := by decide +kernel
theorem dX2_lightOf_11 : decode cX2_lightOf 11 = .ok (.iaload, 1) := by decide +kernel
theorem dX2_lightOf_12 : decode cX2_lightOf 12 = .ok (.isub, 1) := by decide +kernel
theorem dX2_lightOf_13 : decode cX2_lightOf 13 = .ok (.istore 4, 2) := by decide +kernel
theorem dX2_lightOf_15 : decode cX2_lightOf 15 = .ok (.aload_n 0, 1) := by decide +kernel
theorem dX2_lightOf_16 : decode cX2_lightOf 16 = .ok (.getfield 27, 3) := by decide +kernel
theorem dX2_lightOf_19 : decode cX2_lightOf 19 = .ok (.iload_n 2, 1) := by decide +kernel
theorem dX2_lightOf_20 : decode cX2_lightOf 20 = .ok (.iaload, 1) := by decide +kernel
theorem dX2_lightOf_21 : decode cX2_lightOf 21 = .ok (.aload_n 0, 1) := by decide +kernel
theorem dX2_lightOf_22 : decode cX2_lightOf 22 = .ok (.getfield 36, 3) := by decide +kernel
theorem dX2_lightOf_25 : decode cX2_lightOf 25 = .ok (.iload_n 3, 1) := by decide +kernel
theorem dX2_lightOf_26 : decode cX2_lightOf 26 = .ok (.iaload, 1) := by decide +kernel
theorem dX2_lightOf_27 : decode cX2_lightOf 27 = .ok (.isub, 1) := by decide +kernel
theorem dX2_lightOf_28 : decode cX2_lightOf 28 = .ok (.istore 5, 2) := by decide +kernel
theorem dX2_lightOf_30 : decode cX2_lightOf 30 = .ok (.ldc2_w 55, 3) := by decide +kernel
theorem dX2_lightOf_33 : decode cX2_lightOf 33 = .ok (.aload_n 0, 1) := by decide +kernel
theorem dX2_lightOf_34 : decode cX2_lightOf 34 = .ok (.getfield 9, 3) := by decide +kernel
theorem dX2_lightOf_37 : decode cX2_lightOf 37 = .ok (.iload_n 1, 1) := by decide +kernel
theorem dX2_lightOf_38 : decode cX2_lightOf 38 = .ok (.iaload, 1) := by decide +kernel
theorem dX2_lightOf_39 : decode cX2_lightOf 39 = .ok (.i2l, 1) := by decide +kernel
theorem dX2_lightOf_40 : decode cX2_lightOf 40 = .ok (.lmul, 1) := by decide +kernel
theorem dX2_lightOf_41 : decode cX2_lightOf 41 = .ok (.aload_n 0, 1) := by decide +kernel
theorem dX2_lightOf_42 : decode cX2_lightOf 42 = .ok (.getfield 42, 3) := by decide +kernel
theorem dX2_lightOf_45 : decode cX2_lightOf 45 = .ok (.aload_n 0, 1) := by decide +kernel
theorem dX2_lightOf_46 : decode cX2_lightOf 46 = .ok (.getfield 42, 3) := by decide +kernel
theorem dX2_lightOf_49 : decode cX2_lightOf 49 = .ok (.imul, 1) := by decide +kernel
theorem dX2_lightOf_50 : decode cX2_lightOf 50 = .ok (.iload 4, 2) := by decide +kernel
theorem dX2_lightOf_52 : decode cX2_lightOf 52 = .ok (.iload 4, 2) := by decide +kernel
theorem dX2_lightOf_54 : decode cX2_lightOf 54 = .ok (.imul, 1) := by decide +kernel
theorem dX2_lightOf_55 : decode cX2_lightOf 55 = .ok (.iadd, 1) := by decide +kernel
theorem dX2_lightOf_56 : decode cX2_lightOf 56 = .ok (.iload 5, 2) := by decide +kernel
theorem dX2_lightOf_58 : decode cX2_lightOf 58 = .ok (.iload 5, 2) := by decide +kernel
theorem dX2_lightOf_60 : decode cX2_lightOf 60 = .ok (.imul, 1) := by decide +kernel
theorem dX2_lightOf_61 : decode cX2_lightOf 61 = .ok (.iadd, 1) := by decide +kernel
theorem dX2_lightOf_62 : decode cX2_lightOf 62 = .ok (.i2l, 1) := by decide +kernel
theorem dX2_lightOf_63 : decode cX2_lightOf 63 = .ok (.invokestatic 57, 3) := by decide +kernel
theorem dX2_lightOf_66 : decode cX2_lightOf 66 = .ok (.l2i, 1) := by decide +kernel
theorem dX2_lightOf_67 : decode cX2_lightOf 67 = .ok (.ireturn, 1) := by decide +kernel
theorem dX3_init_0 : decode cX3_init 0 = .ok (.aload_n 0, 1) := by decide +kernel
theorem dX3_init_1 : decode cX3_init 1 = .ok (.invokespecial 3, 3) := by decide +kernel
theorem dX3_init_4 : decode cX3_init 4 = .ok (.aload_n 0, 1) := by decide +kernel
theorem dX3_init_5 : decode cX3_init 5 = .ok (.bipush 16, 2) := by decide +kernel
theorem dX3_init_7 : decode cX3_init 7 = .ok (.newarray .int, 2) := by decide +kernel
theorem dX3_init_9 : decode cX3_init 9 = .ok (.putfield 9, 3) := by decide +kernel
theorem dX3_init_12 : decode cX3_init 12 = .ok (.aload_n 0, 1) := by decide +kernel
theorem dX3_init_13 : decode cX3_init 13 = .ok (.bipush 7, 2) := by decide +kernel
theorem dX3_init_15 : decode cX3_init 15 = .ok (.newarray .int, 2) := by decide +kernel
theorem dX3_init_17 : decode cX3_init 17 = .ok (.putfield 15, 3) := by decide +kernel
theorem dX3_init_20 : decode cX3_init 20 = .ok (.aload_n 0, 1) := by decide +kernel
theorem dX3_init_21 : decode cX3_init 21 = .ok (.bipush 16, 2) := by decide +kernel
theorem dX3_init_23 : decode cX3_init 23 = .ok (.newarray .long, 2) := by decide +kernel
theorem dX3_init_25 : decode cX3_init 25 = .ok (.putfield 18, 3) := by decide +kernel
theorem dX3_init_28 : decode cX3_init 28 = .ok (.aload_n 0, 1) := by decide +kernel
theorem dX3_init_29 : decode cX3_init 29 = .ok (.aload_n 1, 1) := by decide +kernel
theorem dX3_init_30 : decode cX3_init 30 = .ok (.putfield 22, 3) := by decide +kernel
theorem dX3_init_33 : decode cX3_init 33 = .ok (.aload_n 0, 1) := by decide +kernel
theorem dX3_init_34 : decode cX3_init 34 = .ok (.aload_n 2, 1) := by decide +kernel
theorem dX3_init_35 : decode cX3_init 35 = .ok (.putfield 26, 3) := by decide +kernel
theorem dX3_init_38 : decode cX3_init 38 = .ok (.return_, 1) := by decide +kernel
theorem dX3_changeAim_0 : decode cX3_changeAim 0 = .ok (.aload_n 0, 1) := by decide +kernel
theorem dX3_changeAim_1 : decode cX3_changeAim 1 = .ok (.getfield 9, 3) := by decide +kernel
theorem dX3_changeAim_4 : decode cX3_changeAim 4 = .ok (.iload_n 1, 1) := by decide +kernel
theorem dX3_changeAim_5 : decode cX3_changeAim 5 = .ok (.iaload, 1) := by decide +kernel
theorem dX3_changeAim_6 : decode cX3_changeAim 6 = .ok (.istore_n 3, 1) := by decide +kernel
theorem dX3_changeAim_7 : decode cX3_changeAim 7 = .ok (.aload_n 0, 1) := by decide +kernel
theorem dX3_changeAim_8 : decode cX3_changeAim 8 = .ok (.getfield 9, 3) := by decide +kernel
theorem dX3_changeAim_11 : decode cX3_changeAim 11 = .ok (.iload_n 1, 1) := by decide +kernel
theorem dX3_changeAim_12 : decode cX3_changeAim 12 = .ok (.iload_n 2, 1) := by decide +kernel
theorem dX3_changeAim_13 : decode cX3_changeAim 13 = .ok (.iastore, 1) := by decide +kernel
theorem dX3_changeAim_14 : decode cX3_changeAim 14 = .ok (.aload_n 0, 1) := by decide +kernel
theorem dX3_changeAim_15 : decode cX3_changeAim 15 = .ok (.iconst 0, 1) := by decide +kernel
theorem dX3_changeAim_16 : decode cX3_changeAim 16 = .ok (.putfield 30, 3) := by decide +kernel
theorem dX3_changeAim_19 : decode cX3_changeAim 19 = .ok (.iload_n 3, 1) := by decide +kernel
theorem dX3_changeAim_20 : decode cX3_changeAim 20 = .ok (.ireturn, 1) := by decide +kernel
set_option maxRecDepth 20000 in
theorem ggX3_settle_J7_fill_53178 : GoodIn wsX3_settle wsJ7_fill_53178 := goodIn_r _ [13] (by decide +kernel) (by decide +kernel)
set_option maxRecDepth 20000 in
theorem gX3_settle_J7_fill_53178 : GoodIn wsX3_settle (va_wsS RX3 34 yJ7_fill_53178 wsJ7_fill_53178) := goodIn_app (goodIn_of _ (by decide +kernel)) ggX3_settle_J7_fill_53178
set_option maxRecDepth 20000 in
theorem ggX3_settle_X0_hasLamps : GoodIn wsX3_settle wsX0_hasLamps := goodIn_r _ [18, 19, 20, 21, 74, 75, 76, 77, 78, 79, 80, 81, 82, 83, 84, 85, 60, 61, 62, 63, 64, 65, 66, 67, 68, 69, 70, 71, 72, 73] (by decide +kernel) (by decide +kernel)
set_option maxRecDepth 20000 in
theorem gX3_settle_X0_hasLamps : GoodIn wsX3_settle (wsV RX3 51 RX0 yX0_hasLamps wsX0_hasLamps) := goodIn_app (goodIn_of _ (by decide +kernel)) ggX3_settle_X0_hasLamps
set_option maxRecDepth 20000 in
theorem ggX3_settle_X3_sweep : GoodIn wsX3_settle wsX3_sweep := goodIn_r _ [26, 3, 27, 9, 28, 2, 29, 30, 31, 25, 32, 4, 5, 33, 6, 34, 35, 36, 37, 38, 39, 40, 17, 41, 21, 42, 43, 44, 45, 46, 47, 48, 49, 50, 51, 52, 53, 54, 55, 56, 57, 58, 59, 60, 61, 62, 63, 64, 65, 66, 67, 68, 69, 70, 71, 72, 73, 74, 75, 76, 77, 78, 79, 80, 81, 82, 83, 84, 85] (by decide +kernel) (by decide +kernel)
set_option maxRecDepth 20000 in
theorem gX3_settle_X3_sweep : GoodIn wsX3_settle (wsV RX3 57 RX3 yX3_sweep wsX3_sweep) := goodIn_app (goodIn_of _ (by decide +kernel)) ggX3_settle_X3_sweep
theorem dX3_settle_0 : decode cX3_settle 0 = .ok (.aload_n 0, 1) := by decide +kernel
theorem dX3_settle_1 : decode cX3_settle 1 = .ok (.getfield 30, 3) := by decide +kernel
theorem dX3_settle_4 : decode cX3_settle 4 = .ok (.ifCond .eq 4, 3) := by decide +kernel
theorem dX3_settle_7 : decode cX3_settle 7 = .ok (.return_, 1) := by decide +kernel
theorem dX3_settle_8 : decode cX3_settle 8 = .ok (.aload_n 0, 1) := by decide +kernel
theorem dX3_settle_9 : decode cX3_settle 9 = .ok (.iconst 1, 1) := by decide +kernel
theorem dX3_settle_10 : decode cX3_settle 10 = .ok (.putfield 30, 3) := by decide +kernel
theorem dX3_settle_13 : decode cX3_settle 13 = .ok (.aload_n 0, 1) := by decide +kernel
theorem dX3_settle_14 : decode cX3_settle 14 = .ok (.getfield 15, 3) := by decide +kernel
theorem dX3_settle_17 : decode cX3_settle 17 = .ok (.iconst 0, 1) := by decide +kernel
theorem dX3_settle_18 : decode cX3_settle 18 = .ok (.invokestatic 34, 3) := by decide +kernel
theorem dX3_settle_21 : decode cX3_settle 21 = .ok (.iconst 0, 1) := by decide +kernel
theorem dX3_settle_22 : decode cX3_settle 22 = .ok (.istore_n 1, 1) := by decide +kernel
theorem dX3_settle_23 : decode cX3_settle 23 = .ok (.iload_n 1, 1) := by decide +kernel
theorem dX3_settle_24 : decode cX3_settle 24 = .ok (.aload_n 0, 1) := by decide +kernel
theorem dX3_settle_25 : decode cX3_settle 25 = .ok (.getfield 22, 3) := by decide +kernel
theorem dX3_settle_28 : decode cX3_settle 28 = .ok (.getfield 40, 3) := by decide +kernel
theorem dX3_settle_31 : decode cX3_settle 31 = .ok (.if_icmp .ge 26, 3) := by decide +kernel
theorem dX3_settle_34 : decode cX3_settle 34 = .ok (.aload_n 0, 1) := by decide +kernel
theorem dX3_settle_35 : decode cX3_settle 35 = .ok (.getfield 18, 3) := by decide +kernel
theorem dX3_settle_38 : decode cX3_settle 38 = .ok (.iload_n 1, 1) := by decide +kernel
theorem dX3_settle_39 : decode cX3_settle 39 = .ok (.ldc2_w 46, 3) := by decide +kernel
theorem dX3_settle_42 : decode cX3_settle 42 = .ok (.aload_n 0, 1) := by decide +kernel
theorem dX3_settle_43 : decode cX3_settle 43 = .ok (.getfield 9, 3) := by decide +kernel
theorem dX3_settle_46 : decode cX3_settle 46 = .ok (.iload_n 1, 1) := by decide +kernel
theorem dX3_settle_47 : decode cX3_settle 47 = .ok (.iaload, 1) := by decide +kernel
theorem dX3_settle_48 : decode cX3_settle 48 = .ok (.i2l, 1) := by decide +kernel
theorem dX3_settle_49 : decode cX3_settle 49 = .ok (.lmul, 1) := by decide +kernel
theorem dX3_settle_50 : decode cX3_settle 50 = .ok (.lastore, 1) := by decide +kernel
theorem dX3_settle_51 : decode cX3_settle 51 = .ok (.iinc 1 1, 3) := by decide +kernel
theorem dX3_settle_54 : decode cX3_settle 54 = .ok (.goto (-31), 3) := by decide +kernel
theorem dX3_settle_57 : decode cX3_settle 57 = .ok (.aload_n 0, 1) := by decide +kernel
theorem dX3_settle_58 : decode cX3_settle 58 = .ok (.iconst 0, 1) := by decide +kernel
theorem dX3_settle_59 : decode cX3_settle 59 = .ok (.putfield 48, 3) := by decide +kernel
theorem dX3_settle_62 : decode cX3_settle 62 = .ok (.aload_n 0, 1) := by decide +kernel
theorem dX3_settle_63 : decode cX3_settle 63 = .ok (.getfield 26, 3) := by decide +kernel
theorem dX3_settle_66 : decode cX3_settle 66 = .ok (.invokevirtual 51, 3) := by decide +kernel
theorem dX3_settle_69 : decode cX3_settle 69 = .ok (.istore_n 1, 1) := by decide +kernel
theorem dX3_settle_70 : decode cX3_settle 70 = .ok (.iload_n 1, 1) := by decide +kernel
theorem dX3_settle_71 : decode cX3_settle 71 = .ok (.ifCond .eq 30, 3) := by decide +kernel
theorem dX3_settle_74 : decode cX3_settle 74 = .ok (.aload_n 0, 1) := by decide +kernel
theorem dX3_settle_75 : decode cX3_settle 75 = .ok (.getfield 48, 3) := by decide +kernel
theorem dX3_settle_78 : decode cX3_settle 78 = .ok (.bipush 20, 2) := by decide +kernel
theorem dX3_settle_80 : decode cX3_settle 80 = .ok (.if_icmp .ge 21, 3) := by decide +kernel
theorem dX3_settle_83 : decode cX3_settle 83 = .ok (.aload_n 0, 1) := by decide +kernel
theorem dX3_settle_84 : decode cX3_settle 84 = .ok (.invokevirtual 57, 3) := by decide +kernel
theorem dX3_settle_87 : decode cX3_settle 87 = .ok (.istore_n 1, 1) := by decide +kernel
theorem dX3_settle_88 : decode cX3_settle 88 = .ok (.aload_n 0, 1) := by decide +kernel
theorem dX3_settle_89 : decode cX3_settle 89 = .ok (.dup, 1) := by decide +kernel
theorem dX3_settle_90 : decode cX3_settle 90 = .ok (.getfield 48, 3) := by decide +kernel
theorem dX3_settle_93 : decode cX3_settle 93 = .ok (.iconst 1, 1) := by decide +kernel
theorem dX3_settle_94 : decode cX3_settle 94 = .ok (.iadd, 1) := by decide +kernel
theorem dX3_settle_95 : decode cX3_settle 95 = .ok (.putfield 48, 3) := by decide +kernel
theorem dX3_settle_98 : decode cX3_settle 98 = .ok (.goto (-28), 3) := by decide +kernel
theorem dX3_settle_101 : decode cX3_settle 101 = .ok (.return_, 1) := by decide +kernel
set_option maxRecDepth 20000 in
theorem ggX3_sweep_X3_fittingDim : GoodIn wsX3_sweep wsX3_fittingDim := goodIn_r _ [10, 1, 11, 3, 12, 5, 13, 14, 15, 16, 17, 18, 19, 20, 21, 22, 23, 24, 25, 26, 27, 28, 29, 30, 31, 36, 37, 38, 39, 40, 41, 42, 43, 44, 45, 46, 47, 48, 49, 50, 51, 52, 53, 54, 55, 56, 57, 58, 59, 60, 61, 62, 63, 64, 65, 66, 67, 68] (by decide +kernel) (by decide +kernel)
set_option maxRecDepth 20000 in
theorem gX3_sweep_X3_fittingDim : GoodIn wsX3_sweep (wsV RX3 66 RX3 yX3_fittingDim wsX3_fittingDim) := goodIn_app (goodIn_of _ (by decide +kernel)) ggX3_sweep_X3_fittingDim
set_option maxRecDepth 20000 in
theorem ggX3_sweep_X3_moveTo : GoodIn wsX3_sweep wsX3_moveTo := goodIn_r _ [35, 5, 1, 11, 12, 3, 19, 20, 21, 22, 23, 24, 25, 26, 27, 28, 36, 37, 38, 39, 40, 41, 42, 43, 44, 45, 46, 47, 48, 49, 50, 51, 52, 53, 54, 55, 56, 57, 58, 59, 60, 61, 62, 63, 64, 65, 66, 67, 68] (by decide +kernel) (by decide +kernel)
set_option maxRecDepth 20000 in
theorem gX3_sweep_X3_moveTo : GoodIn wsX3_sweep (wsV RX3 70 RX3 yX3_moveTo wsX3_moveTo) := goodIn_app (goodIn_of _ (by decide +kernel)) ggX3_sweep_X3_moveTo
theorem dX3_sweep_0 : decode cX3_sweep 0 = .ok (.iconst 0, 1) := by decide +kernel
theorem dX3_sweep_1 : decode cX3_sweep 1 = .ok (.istore_n 1, 1) := by decide +kernel
theorem dX3_sweep_2 : decode cX3_sweep 2 = .ok (.iconst 0, 1) := by decide +kernel
theorem dX3_sweep_3 : decode cX3_sweep 3 = .ok (.istore_n 2, 1) := by decide +kernel
theorem dX3_sweep_4 : decode cX3_sweep 4 = .ok (.iload_n 2, 1) := by decide +kernel
theorem dX3_sweep_5 : decode cX3_sweep 5 = .ok (.aload_n 0, 1) := by decide +kernel
theorem dX3_sweep_6 : decode cX3_sweep 6 = .ok (.getfield 22, 3) := by decide +kernel
theorem dX3_sweep_9 : decode cX3_sweep 9 = .ok (.getfield 60, 3) := by decide +kernel
theorem dX3_sweep_12 : decode cX3_sweep 12 = .ok (.if_icmp .ge 55, 3) := by decide +kernel
theorem dX3_sweep_15 : decode cX3_sweep 15 = .ok (.aload_n 0, 1) := by decide +kernel
theorem dX3_sweep_16 : decode cX3_sweep 16 = .ok (.getfield 26, 3) := by decide +kernel
theorem dX3_sweep_19 : decode cX3_sweep 19 = .ok (.getfield 63, 3) := by decide +kernel
theorem dX3_sweep_22 : decode cX3_sweep 22 = .ok (.iload_n 2, 1) := by decide +kernel
theorem dX3_sweep_23 : decode cX3_sweep 23 = .ok (.iaload, 1) := by decide +kernel
theorem dX3_sweep_24 : decode cX3_sweep 24 = .ok (.iconst (-1), 1) := by decide +kernel
theorem dX3_sweep_25 : decode cX3_sweep 25 = .ok (.if_icmp .ne 12, 3) := by decide +kernel
theorem dX3_sweep_28 : decode cX3_sweep 28 = .ok (.aload_n 0, 1) := by decide +kernel
theorem dX3_sweep_29 : decode cX3_sweep 29 = .ok (.getfield 15, 3) := by decide +kernel
theorem dX3_sweep_32 : decode cX3_sweep 32 = .ok (.iload_n 2, 1) := by decide +kernel
theorem dX3_sweep_33 : decode cX3_sweep 33 = .ok (.iaload, 1) := by decide +kernel
theorem dX3_sweep_34 : decode cX3_sweep 34 = .ok (.goto 8, 3) := by decide +kernel
theorem dX3_sweep_37 : decode cX3_sweep 37 = .ok (.aload_n 0, 1) := by decide +kernel
theorem dX3_sweep_38 : decode cX3_sweep 38 = .ok (.iload_n 2, 1) := by decide +kernel
theorem dX3_sweep_39 : decode cX3_sweep 39 = .ok (.invokevirtual 66, 3) := by decide +kernel
theorem dX3_sweep_42 : decode cX3_sweep 42 = .ok (.istore_n 3, 1) := by decide +kernel
theorem dX3_sweep_43 : decode cX3_sweep 43 = .ok (.iload_n 3, 1) := by decide +kernel
theorem dX3_sweep_44 : decode cX3_sweep 44 = .ok (.aload_n 0, 1) := by decide +kernel
theorem dX3_sweep_45 : decode cX3_sweep 45 = .ok (.getfield 15, 3) := by decide +kernel
theorem dX3_sweep_48 : decode cX3_sweep 48 = .ok (.iload_n 2, 1) := by decide +kernel
theorem dX3_sweep_49 : decode cX3_sweep 49 = .ok (.iaload, 1) := by decide +kernel
theorem dX3_sweep_50 : decode cX3_sweep 50 = .ok (.if_icmp .eq 11, 3) := by decide +kernel
theorem dX3_sweep_53 : decode cX3_sweep 53 = .ok (.aload_n 0, 1) := by decide +kernel
theorem dX3_sweep_54 : decode cX3_sweep 54 = .ok (.iload_n 2, 1) := by decide +kernel
theorem dX3_sweep_55 : decode cX3_sweep 55 = .ok (.iload_n 3, 1) := by decide +kernel
theorem dX3_sweep_56 : decode cX3_sweep 56 = .ok (.invokevirtual 70, 3) := by decide +kernel
theorem dX3_sweep_59 : decode cX3_sweep 59 = .ok (.iconst 1, 1) := by decide +kernel
theorem dX3_sweep_60 : decode cX3_sweep 60 = .ok (.istore_n 1, 1) := by decide +kernel
theorem dX3_sweep_61 : decode cX3_sweep 61 = .ok (.iinc 2 1, 3) := by decide +kernel
theorem dX3_sweep_64 : decode cX3_sweep 64 = .ok (.goto (-60), 3) := by decide +kernel
theorem dX3_sweep_67 : decode cX3_sweep 67 = .ok (.iload_n 1, 1) := by decide +kernel
theorem dX3_sweep_68 : decode cX3_sweep 68 = .ok (.ireturn, 1) := by decide +kernel
set_option maxRecDepth 20000 in
theorem ggX3_fittingDim_X0_lampLight : GoodIn wsX3_fittingDim wsX0_lampLight := goodIn_r _ [16, 17, 18, 19, 20, 15, 21, 46, 47, 48, 49, 50, 51, 52, 53, 54, 55, 56, 57] (by decide +kernel) (by decide +kernel)
set_option maxRecDepth 20000 in
theorem gX3_fittingDim_X0_lampLight : GoodIn wsX3_fittingDim (wsV RX3 74 RX0 yX0_lampLight wsX0_lampLight) := goodIn_app (goodIn_of _ (by decide +kernel)) ggX3_fittingDim_X0_lampLight
set_option maxRecDepth 20000 in
theorem ggX3_fittingDim_X4_quotient : GoodIn wsX3_fittingDim wsX4_quotient := goodIn_r _ [24] (by decide +kernel) (by decide +kernel)
set_option maxRecDepth 20000 in
theorem gX3_fittingDim_X4_quotient_n80 : GoodIn wsX3_fittingDim (wsX4_quotient) := ggX3_fittingDim_X4_quotient
theorem dX3_fittingDim_0 : decode cX3_fittingDim 0 = .ok (.lconst 0, 1) := by decide +kernel
theorem dX3_fittingDim_1 : decode cX3_fittingDim 1 = .ok (.lstore_n 2, 1) := by decide +kernel
theorem dX3_fittingDim_2 : decode cX3_fittingDim 2 = .ok (.lconst 0, 1) := by decide +kernel
theorem dX3_fittingDim_3 : decode cX3_fittingDim 3 = .ok (.lstore 4, 2) := by decide +kernel
theorem dX3_fittingDim_5 : decode cX3_fittingDim 5 = .ok (.iconst 0, 1) := by decide +kernel
theorem dX3_fittingDim_6 : decode cX3_fittingDim 6 = .ok (.istore 6, 2) := by decide +kernel
theorem dX3_fittingDim_8 : decode cX3_fittingDim 8 = .ok (.iload 6, 2) := by decide +kernel
theorem dX3_fittingDim_10 : decode cX3_fittingDim 10 = .ok (.aload_n 0, 1) := by decide +kernel
theorem dX3_fittingDim_11 : decode cX3_fittingDim 11 = .ok (.getfield 22, 3) := by decide +kernel
theorem dX3_fittingDim_14 : decode cX3_fittingDim 14 = .ok (.getfield 40, 3) := by decide +kernel
theorem dX3_fittingDim_17 : decode cX3_fittingDim 17 = .ok (.if_icmp .ge 56, 3) := by decide +kernel
theorem dX3_fittingDim_20 : decode cX3_fittingDim 20 = .ok (.aload_n 0, 1) := by decide +kernel
theorem dX3_fittingDim_21 : decode cX3_fittingDim 21 = .ok (.getfield 26, 3) := by decide +kernel
theorem dX3_fittingDim_24 : decode cX3_fittingDim 24 = .ok (.iload_n 1, 1) := by decide +kernel
theorem dX3_fittingDim_25 : decode cX3_fittingDim 25 = .ok (.iload 6, 2) := by decide +kernel
theorem dX3_fittingDim_27 : decode cX3_fittingDim 27 = .ok (.invokevirtual 74, 3) := by decide +kernel
theorem dX3_fittingDim_30 : decode cX3_fittingDim 30 = .ok (.i2l, 1) := by decide +kernel
theorem dX3_fittingDim_31 : decode cX3_fittingDim 31 = .ok (.lstore 7, 2) := by decide +kernel
theorem dX3_fittingDim_33 : decode cX3_fittingDim 33 = .ok (.lload_n 2, 1) := by decide +kernel
theorem dX3_fittingDim_34 : decode cX3_fittingDim 34 = .ok (.lload 7, 2) := by decide +kernel
theorem dX3_fittingDim_36 : decode cX3_fittingDim 36 = .ok (.lload 7, 2) := by decide +kernel
theorem dX3_fittingDim_38 : decode cX3_fittingDim 38 = .ok (.lmul, 1) := by decide +kernel
theorem dX3_fittingDim_39 : decode cX3_fittingDim 39 = .ok (.ladd, 1) := by decide +kernel
theorem dX3_fittingDim_40 : decode cX3_fittingDim 40 = .ok (.lstore_n 2, 1) := by decide +kernel
theorem dX3_fittingDim_41 : decode cX3_fittingDim 41 = .ok (.lload 4, 2) := by decide +kernel
theorem dX3_fittingDim_43 : decode cX3_fittingDim 43 = .ok (.lload 7, 2) := by decide +kernel
theorem dX3_fittingDim_45 : decode cX3_fittingDim 45 = .ok (.aload_n 0, 1) := by decide +kernel
theorem dX3_fittingDim_46 : decode cX3_fittingDim 46 = .ok (.getfield 18, 3) := by decide +kernel
theorem dX3_fittingDim_49 : decode cX3_fittingDim 49 = .ok (.iload 6, 2) := by decide +kernel
theorem dX3_fittingDim_51 : decode cX3_fittingDim 51 = .ok (.laload, 1) := by decide +kernel
theorem dX3_fittingDim_52 : decode cX3_fittingDim 52 = .ok (.lload 7, 2) := by decide +kernel
theorem dX3_fittingDim_54 : decode cX3_fittingDim 54 = .ok (.aload_n 0, 1) := by decide +kernel
theorem dX3_fittingDim_55 : decode cX3_fittingDim 55 = .ok (.getfield 15, 3) := by decide +kernel
theorem dX3_fittingDim_58 : decode cX3_fittingDim 58 = .ok (.iload_n 1, 1) := by decide +kernel
theorem dX3_fittingDim_59 : decode cX3_fittingDim 59 = .ok (.iaload, 1) := by decide +kernel
theorem dX3_fittingDim_60 : decode cX3_fittingDim 60 = .ok (.i2l, 1) := by decide +kernel
theorem dX3_fittingDim_61 : decode cX3_fittingDim 61 = .ok (.lmul, 1) := by decide +kernel
theorem dX3_fittingDim_62 : decode cX3_fittingDim 62 = .ok (.ladd, 1) := by decide +kernel
theorem dX3_fittingDim_63 : decode cX3_fittingDim 63 = .ok (.lmul, 1) := by decide +kernel
theorem dX3_fittingDim_64 : decode cX3_fittingDim 64 = .ok (.ladd, 1) := by decide +kernel
theorem dX3_fittingDim_65 : decode cX3_fittingDim 65 = .ok (.lstore 4, 2) := by decide +kernel
theorem dX3_fittingDim_67 : decode cX3_fittingDim 67 = .ok (.iinc 6 1, 3) := by decide +kernel
theorem dX3_fittingDim_70 : decode cX3_fittingDim 70 = .ok (.goto (-62), 3) := by decide +kernel
theorem dX3_fittingDim_73 : decode cX3_fittingDim 73 = .ok (.ldc2_w 78, 3) := by decide +kernel
theorem dX3_fittingDim_76 : decode cX3_fittingDim 76 = .ok (.lload 4, 2) := by decide +kernel
theorem dX3_fittingDim_78 : decode cX3_fittingDim 78 = .ok (.lmul, 1) := by decide +kernel
theorem dX3_fittingDim_79 : decode cX3_fittingDim 79 = .ok (.lload_n 2, 1) := by decide +kernel
theorem dX3_fittingDim_80 : decode cX3_fittingDim 80 = .ok (.lsub, 1) := by decide +kernel
theorem dX3_fittingDim_81 : decode cX3_fittingDim 81 = .ok (.lstore 6, 2) := by decide +kernel
theorem dX3_fittingDim_83 : decode cX3_fittingDim 83 = .ok (.lload 6, 2) := by decide +kernel
theorem dX3_fittingDim_85 : decode cX3_fittingDim 85 = .ok (.lconst 0, 1) := by decide +kernel
theorem dX3_fittingDim_86 : decode cX3_fittingDim 86 = .ok (.lcmp, 1) := by decide +kernel
theorem dX3_fittingDim_87 : decode cX3_fittingDim 87 = .ok (.ifCond .gt 5, 3) := by decide +kernel
theorem dX3_fittingDim_90 : decode cX3_fittingDim 90 = .ok (.iconst 0, 1) := by decide +kernel
theorem dX3_fittingDim_91 : decode cX3_fittingDim 91 = .ok (.ireturn, 1) := by decide +kernel
theorem dX3_fittingDim_92 : decode cX3_fittingDim 92 = .ok (.ldc2_w 46, 3) := by decide +kernel
theorem dX3_fittingDim_95 : decode cX3_fittingDim 95 = .ok (.lload 6, 2) := by decide +kernel
theorem dX3_fittingDim_97 : decode cX3_fittingDim 97 = .ok (.ldc2_w 78, 3) := by decide +kernel
theorem dX3_fittingDim_100 : decode cX3_fittingDim 100 = .ok (.lload_n 2, 1) := by decide +kernel
theorem dX3_fittingDim_101 : decode cX3_fittingDim 101 = .ok (.lmul, 1) := by decide +kernel
theorem dX3_fittingDim_102 : decode cX3_fittingDim 102 = .ok (.ladd, 1) := by decide +kernel
theorem dX3_fittingDim_103 : decode cX3_fittingDim 103 = .ok (.lconst 1, 1) := by decide +kernel
theorem dX3_fittingDim_104 : decode cX3_fittingDim 104 = .ok (.lsub, 1) := by decide +kernel
theorem dX3_fittingDim_105 : decode cX3_fittingDim 105 = .ok (.ldc2_w 78, 3) := by decide +kernel
theorem dX3_fittingDim_108 : decode cX3_fittingDim 108 = .ok (.lload_n 2, 1) := by decide +kernel
theorem dX3_fittingDim_109 : decode cX3_fittingDim 109 = .ok (.lmul, 1) := by decide +kernel
theorem dX3_fittingDim_110 : decode cX3_fittingDim 110 = .ok (.invokestatic 80, 3) := by decide +kernel
theorem dX3_fittingDim_113 : decode cX3_fittingDim 113 = .ok (.invokestatic 84, 3) := by decide +kernel
theorem dX3_fittingDim_116 : decode cX3_fittingDim 116 = .ok (.l2i, 1) := by decide +kernel
theorem dX3_fittingDim_117 : decode cX3_fittingDim 117 = .ok (.ireturn, 1) := by decide +kernel
set_option maxRecDepth 20000 in
theorem ggX3_moveTo_X0_lampLight : GoodIn wsX3_moveTo wsX0_lampLight := goodIn_r _ [10, 11, 12, 13, 14, 9, 15, 37, 38, 39, 40, 41, 42, 43, 44, 45, 46, 47, 48] (by decide +kernel) (by decide +kernel)
set_option maxRecDepth 20000 in
theorem gX3_moveTo_X0_lampLight : GoodIn wsX3_moveTo (wsV RX3 74 RX0 yX0_lampLight wsX0_lampLight) := goodIn_app (goodIn_of _ (by decide +kernel)) ggX3_moveTo_X0_lampLight
theorem dX3_moveTo_0 : decode cX3_moveTo 0 = .ok (.iload_n 2, 1) := by decide +kernel
theorem dX3_moveTo_1 : decode cX3_moveTo 1 = .ok (.aload_n 0, 1) := by decide +kernel
theorem dX3_moveTo_2 : decode cX3_moveTo 2 = .ok (.getfield 15, 3) := by decide +kernel
theorem dX3_moveTo_5 : decode cX3_moveTo 5 = .ok (.iload_n 1, 1) := by decide +kernel
theorem dX3_moveTo_6 : decode cX3_moveTo 6 = .ok (.iaload, 1) := by decide +kernel
theorem dX3_moveTo_7 : decode cX3_moveTo 7 = .ok (.isub, 1) := by decide +kernel
theorem dX3_moveTo_8 : decode cX3_moveTo 8 = .ok (.i2l, 1) := by decide +kernel
theorem dX3_moveTo_9 : decode cX3_moveTo 9 = .ok (.lstore_n 3, 1) := by decide +kernel
theorem dX3_moveTo_10 : decode cX3_moveTo 10 = .ok (.iconst 0, 1) := by decide +kernel
theorem dX3_moveTo_11 : decode cX3_moveTo 11 = .ok (.istore 5, 2) := by decide +kernel
theorem dX3_moveTo_13 : decode cX3_moveTo 13 = .ok (.iload 5, 2) := by decide +kernel
theorem dX3_moveTo_15 : decode cX3_moveTo 15 = .ok (.aload_n 0, 1) := by decide +kernel
theorem dX3_moveTo_16 : decode cX3_moveTo 16 = .ok (.getfield 22, 3) := by decide +kernel
theorem dX3_moveTo_19 : decode cX3_moveTo 19 = .ok (.getfield 40, 3) := by decide +kernel
theorem dX3_moveTo_22 : decode cX3_moveTo 22 = .ok (.if_icmp .ge 32, 3) := by decide +kernel
theorem dX3_moveTo_25 : decode cX3_moveTo 25 = .ok (.aload_n 0, 1) := by decide +kernel
theorem dX3_moveTo_26 : decode cX3_moveTo 26 = .ok (.getfield 18, 3) := by decide +kernel
theorem dX3_moveTo_29 : decode cX3_moveTo 29 = .ok (.iload 5, 2) := by decide +kernel
theorem dX3_moveTo_31 : decode cX3_moveTo 31 = .ok (.dup2, 1) := by decide +kernel
theorem dX3_moveTo_32 : decode cX3_moveTo 32 = .ok (.laload, 1) := by decide +kernel
theorem dX3_moveTo_33 : decode cX3_moveTo 33 = .ok (.lload_n 3, 1) := by decide +kernel
theorem dX3_moveTo_34 : decode cX3_moveTo 34 = .ok (.aload_n 0, 1) := by decide +kernel
theorem dX3_moveTo_35 : decode cX3_moveTo 35 = .ok (.getfield 26, 3) := by decide +kernel
theorem dX3_moveTo_38 : decode cX3_moveTo 38 = .ok (.iload_n 1, 1) := by decide +kernel
theorem dX3_moveTo_39 : decode cX3_moveTo 39 = .ok (.iload 5, 2) := by decide +kernel
theorem dX3_moveTo_41 : decode cX3_moveTo 41 = .ok (.invokevirtual 74, 3) := by decide +kernel
theorem dX3_moveTo_44 : decode cX3_moveTo 44 = .ok (.i2l, 1) := by decide +kernel
theorem dX3_moveTo_45 : decode cX3_moveTo 45 = .ok (.lmul, 1) := by decide +kernel
theorem dX3_moveTo_46 : decode cX3_moveTo 46 = .ok (.lsub, 1) := by decide +kernel
theorem dX3_moveTo_47 : decode cX3_moveTo 47 = .ok (.lastore, 1) := by decide +kernel
theorem dX3_moveTo_48 : decode cX3_moveTo 48 = .ok (.iinc 5 1, 3) := by decide +kernel
theorem dX3_moveTo_51 : decode cX3_moveTo 51 = .ok (.goto (-38), 3) := by decide +kernel
theorem dX3_moveTo_54 : decode cX3_moveTo 54 = .ok (.aload_n 0, 1) := by decide +kernel
theorem dX3_moveTo_55 : decode cX3_moveTo 55 = .ok (.getfield 15, 3) := by decide +kernel
theorem dX3_moveTo_58 : decode cX3_moveTo 58 = .ok (.iload_n 1, 1) := by decide +kernel
theorem dX3_moveTo_59 : decode cX3_moveTo 59 = .ok (.iload_n 2, 1) := by decide +kernel
theorem dX3_moveTo_60 : decode cX3_moveTo 60 = .ok (.iastore, 1) := by decide +kernel
theorem dX3_moveTo_61 : decode cX3_moveTo 61 = .ok (.return_, 1) := by decide +kernel
set_option maxRecDepth 20000 in
theorem ggX4_init_X2_init : GoodIn wsX4_init wsX2_init := goodIn_r _ [22, 23, 2, 3, 24, 25, 26, 27, 28, 29, 30, 31, 32, 33, 34, 35, 68, 69, 70, 71, 72, 73, 74, 75, 76, 77, 78, 79, 80, 81] (by decide +kernel) (by decide +kernel)
set_option maxRecDepth 20000 in
theorem gX4_init_X2_init : GoodIn wsX4_init (wsX2_init) := ggX4_init_X2_init
set_option maxRecDepth 20000 in
theorem ggX4_init_X0_init : GoodIn wsX4_init wsX0_init := goodIn_r _ [38, 39, 2, 3, 24, 40, 41, 42, 43, 44, 45, 46, 82, 83, 84, 85, 86, 87, 88, 89, 90, 91, 92, 93] (by decide +kernel) (by decide +kernel)
set_option maxRecDepth 20000 in
theorem gX4_init_X0_init : GoodIn wsX4_init (wsX0_init) := ggX4_init_X0_init
set_option maxRecDepth 20000 in
theorem ggX4_init_X3_init : GoodIn wsX4_init wsX3_init := goodIn_r _ [49, 50, 2, 3, 24, 51, 52, 53, 54, 55, 56, 98, 99, 100, 101, 102, 103, 104] (by decide +kernel) (by decide +kernel)
set_option maxRecDepth 20000 in
theorem gX4_init_X3_init : GoodIn wsX4_init (wsX3_init) := ggX4_init_X3_init
set_option maxRecDepth 20000 in
theorem ggX4_init_X1_init : GoodIn wsX4_init wsX1_init := goodIn_r _ [59, 60, 2, 3, 24, 61, 62, 63, 64, 65, 66, 67, 105, 106, 107, 108, 109, 110, 111, 112, 113, 114, 115] (by decide +kernel) (by decide +kernel)
set_option maxRecDepth 20000 in
theorem gX4_init_X1_init : GoodIn wsX4_init (wsX1_init) := ggX4_init_X1_init
theorem dX4_init_0 : decode cX4_init 0 = .ok (.aload_n 0, 1) := by decide +kernel
theorem dX4_init_1 : decode cX4_init 1 = .ok (.invokespecial 1, 3) := by decide +kernel
theorem dX4_init_4 : decode cX4_init 4 = .ok (.new 7, 3) := by decide +kernel
theorem dX4_init_7 : decode cX4_init 7 = .ok (.dup, 1) := by decide +kernel
theorem dX4_init_8 : decode cX4_init 8 = .ok (.invokespecial 9, 3) := by decide +kernel
theorem dX4_init_11 : decode cX4_init 11 = .ok (.astore_n 1, 1) := by decide +kernel
theorem dX4_init_12 : decode cX4_init 12 = .ok (.new 10, 3) := by decide +kernel
theorem dX4_init_15 : decode cX4_init 15 = .ok (.dup, 1) := by decide +kernel
theorem dX4_init_16 : decode cX4_init 16 = .ok (.aload_n 1, 1) := by decide +kernel
theorem dX4_init_17 : decode cX4_init 17 = .ok (.invokespecial 12, 3) := by decide +kernel
theorem dX4_init_20 : decode cX4_init 20 = .ok (.astore_n 2, 1) := by decide +kernel
theorem dX4_init_21 : decode cX4_init 21 = .ok (.aload_n 0, 1) := by decide +kernel
theorem dX4_init_22 : decode cX4_init 22 = .ok (.aload_n 1, 1) := by decide +kernel
theorem dX4_init_23 : decode cX4_init 23 = .ok (.putfield 15, 3) := by decide +kernel
theorem dX4_init_26 : decode cX4_init 26 = .ok (.aload_n 0, 1) := by decide +kernel
theorem dX4_init_27 : decode cX4_init 27 = .ok (.aload_n 2, 1) := by decide +kernel
theorem dX4_init_28 : decode cX4_init 28 = .ok (.putfield 21, 3) := by decide +kernel
theorem dX4_init_31 : decode cX4_init 31 = .ok (.aload_n 0, 1) := by decide +kernel
theorem dX4_init_32 : decode cX4_init 32 = .ok (.new 25, 3) := by decide +kernel
theorem dX4_init_35 : decode cX4_init 35 = .ok (.dup, 1) := by decide +kernel
theorem dX4_init_36 : decode cX4_init 36 = .ok (.aload_n 1, 1) := by decide +kernel
theorem dX4_init_37 : decode cX4_init 37 = .ok (.aload_n 2, 1) := by decide +kernel
theorem dX4_init_38 : decode cX4_init 38 = .ok (.invokespecial 27, 3) := by decide +kernel
theorem dX4_init_41 : decode cX4_init 41 = .ok (.putfield 30, 3) := by decide +kernel
theorem dX4_init_44 : decode cX4_init 44 = .ok (.aload_n 0, 1) := by decide +kernel
theorem dX4_init_45 : decode cX4_init 45 = .ok (.new 34, 3) := by decide +kernel
theorem dX4_init_48 : decode cX4_init 48 = .ok (.dup, 1) := by decide +kernel
theorem dX4_init_49 : decode cX4_init 49 = .ok (.aload_n 1, 1) := by decide +kernel
theorem dX4_init_50 : decode cX4_init 50 = .ok (.aload_n 2, 1) := by decide +kernel
theorem dX4_init_51 : decode cX4_init 51 = .ok (.invokespecial 36, 3) := by decide +kernel
theorem dX4_init_54 : decode cX4_init 54 = .ok (.putfield 37, 3) := by decide +kernel
theorem dX4_init_57 : decode cX4_init 57 = .ok (.return_, 1) := by decide +kernel
set_option maxRecDepth 20000 in
theorem ggX4_kind_X4_checkBounds : GoodIn wsX4_kind wsX4_checkBounds := goodIn_ca (goodIn_r _ [7, 8, 9] (by decide +kernel) (by decide +kernel)) (goodIn_sub (fun _ h => List.mem_cons_of_mem _ (List.mem_append_left _ (List.mem_append_right _ h))) (by decide +kernel))
set_option maxRecDepth 20000 in
theorem gX4_kind_X4_checkBounds : GoodIn wsX4_kind (va_wsS RX4 41 yX4_checkBounds wsX4_checkBounds) := goodIn_app (goodIn_of _ (by decide +kernel)) ggX4_kind_X4_checkBounds
set_option maxRecDepth 20000 in
theorem ggX4_kind_X4_checkCount : GoodIn wsX4_kind wsX4_checkCount := goodIn_ca (goodIn_r _ [12, 13, 14] (by decide +kernel) (by decide +kernel)) (goodIn_sub (fun _ h => List.mem_cons_of_mem _ (List.mem_append_right _ h)) (by decide +kernel))
set_option maxRecDepth 20000 in
theorem gX4_kind_X4_checkCount : GoodIn wsX4_kind (va_wsS RX4 50 yX4_checkCount wsX4_checkCount) := goodIn_app (goodIn_of _ (by decide +kernel)) ggX4_kind_X4_checkCount
set_option maxRecDepth 20000 in
theorem ggX4_kind_X2_addKind : GoodIn wsX4_kind wsX2_addKind := goodIn_r _ [19, 20, 21, 22, 23, 24, 49, 50, 51, 52, 53, 54, 55, 56, 57, 58, 59, 60, 61, 62] (by decide +kernel) (by decide +kernel)
set_option maxRecDepth 20000 in
theorem gX4_kind_X2_addKind : GoodIn wsX4_kind (wsV RX4 54 RX2 yX2_addKind wsX2_addKind) := goodIn_app (goodIn_of _ (by decide +kernel)) ggX4_kind_X2_addKind
set_option maxRecDepth 20000 in
theorem ggX4_kind_X4_lampsGo : GoodIn wsX4_kind wsX4_lampsGo := goodIn_r _ [28, 29, 30, 31, 32, 33, 34, 35, 36, 37, 38, 39, 40, 41, 42, 43, 44, 45, 46, 47, 48, 63, 64, 65, 66, 67, 68, 69, 70, 71, 72, 73, 74, 75, 76, 77, 78, 79, 80, 81, 82, 83, 84, 85, 86, 87, 88, 89, 90, 91, 92] (by decide +kernel) (by decide +kernel)
set_option maxRecDepth 20000 in
theorem gX4_kind_X4_lampsGo : GoodIn wsX4_kind (wsV RX4 58 RX4 yX4_lampsGo wsX4_lampsGo) := goodIn_app (goodIn_of _ (by decide +kernel)) ggX4_kind_X4_lampsGo
theorem dX4_kind_0 : decode cX4_kind 0 = .ok (.iload_n 1, 1) := by decide +kernel
theorem dX4_kind_1 : decode cX4_kind 1 = .ok (.iconst 1, 1) := by decide +kernel
theorem dX4_kind_2 : decode cX4_kind 2 = .ok (.sipush 10000, 3) := by decide +kernel
theorem dX4_kind_5 : decode cX4_kind 5 = .ok (.invokestatic 41, 3) := by decide +kernel
theorem dX4_kind_8 : decode cX4_kind 8 = .ok (.iload_n 2, 1) := by decide +kernel
theorem dX4_kind_9 : decode cX4_kind 9 = .ok (.iconst 1, 1) := by decide +kernel
theorem dX4_kind_10 : decode cX4_kind 10 = .ok (.sipush 500, 3) := by decide +kernel
theorem dX4_kind_13 : decode cX4_kind 13 = .ok (.invokestatic 41, 3) := by decide +kernel
theorem dX4_kind_16 : decode cX4_kind 16 = .ok (.iload_n 3, 1) := by decide +kernel
theorem dX4_kind_17 : decode cX4_kind 17 = .ok (.iconst 1, 1) := by decide +kernel
theorem dX4_kind_18 : decode cX4_kind 18 = .ok (.ldc 45, 2) := by decide +kernel
theorem dX4_kind_20 : decode cX4_kind 20 = .ok (.invokestatic 41, 3) := by decide +kernel
theorem dX4_kind_23 : decode cX4_kind 23 = .ok (.iload 4, 2) := by decide +kernel
theorem dX4_kind_25 : decode cX4_kind 25 = .ok (.iconst 0, 1) := by decide +kernel
theorem dX4_kind_26 : decode cX4_kind 26 = .ok (.ldc 45, 2) := by decide +kernel
theorem dX4_kind_28 : decode cX4_kind 28 = .ok (.invokestatic 41, 3) := by decide +kernel
theorem dX4_kind_31 : decode cX4_kind 31 = .ok (.aload_n 0, 1) := by decide +kernel
theorem dX4_kind_32 : decode cX4_kind 32 = .ok (.getfield 15, 3) := by decide +kernel
theorem dX4_kind_35 : decode cX4_kind 35 = .ok (.getfield 46, 3) := by decide +kernel
theorem dX4_kind_38 : decode cX4_kind 38 = .ok (.iconst 3, 1) := by decide +kernel
theorem dX4_kind_39 : decode cX4_kind 39 = .ok (.invokestatic 50, 3) := by decide +kernel
theorem dX4_kind_42 : decode cX4_kind 42 = .ok (.aload_n 0, 1) := by decide +kernel
theorem dX4_kind_43 : decode cX4_kind 43 = .ok (.getfield 15, 3) := by decide +kernel
theorem dX4_kind_46 : decode cX4_kind 46 = .ok (.iload_n 1, 1) := by decide +kernel
theorem dX4_kind_47 : decode cX4_kind 47 = .ok (.iload_n 2, 1) := by decide +kernel
theorem dX4_kind_48 : decode cX4_kind 48 = .ok (.iload_n 3, 1) := by decide +kernel
theorem dX4_kind_49 : decode cX4_kind 49 = .ok (.iload 4, 2) := by decide +kernel
theorem dX4_kind_51 : decode cX4_kind 51 = .ok (.invokevirtual 54, 3) := by decide +kernel
theorem dX4_kind_54 : decode cX4_kind 54 = .ok (.istore 5, 2) := by decide +kernel
theorem dX4_kind_56 : decode cX4_kind 56 = .ok (.aload_n 0, 1) := by decide +kernel
theorem dX4_kind_57 : decode cX4_kind 57 = .ok (.invokevirtual 58, 3) := by decide +kernel
theorem dX4_kind_60 : decode cX4_kind 60 = .ok (.iload 5, 2) := by decide +kernel
theorem dX4_kind_62 : decode cX4_kind 62 = .ok (.ireturn, 1) := by decide +kernel
set_option maxRecDepth 20000 in
theorem ggX4_place_X4_checkBounds : GoodIn wsX4_place wsX4_checkBounds := goodIn_ca (goodIn_r _ [6, 7, 8] (by decide +kernel) (by decide +kernel)) (goodIn_sub (fun _ h => List.mem_cons_of_mem _ (List.mem_append_left _ (List.mem_append_right _ h))) (by decide +kernel))
set_option maxRecDepth 20000 in
theorem gX4_place_X4_checkBounds : GoodIn wsX4_place (va_wsS RX4 41 yX4_checkBounds wsX4_checkBounds) := goodIn_app (goodIn_of _ (by decide +kernel)) ggX4_place_X4_checkBounds
