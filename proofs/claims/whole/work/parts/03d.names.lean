theorem dX5_kind_5 : decode cX5_kind 5 = .ok (.invokestatic 86, 3) := by decide +kernel
theorem dX5_kind_8 : decode cX5_kind 8 = .ok (.ifCond .eq 39, 3) := by decide +kernel
theorem dX5_kind_11 : decode cX5_kind 11 = .ok (.iload_n 2, 1) := by decide +kernel
theorem dX5_kind_12 : decode cX5_kind 12 = .ok (.iconst 1, 1) := by decide +kernel
theorem dX5_kind_13 : decode cX5_kind 13 = .ok (.sipush 500, 3) := by decide +kernel
theorem dX5_kind_16 : decode cX5_kind 16 = .ok (.invokestatic 86, 3) := by decide +kernel
theorem dX5_kind_19 : decode cX5_kind 19 = .ok (.ifCond .eq 28, 3) := by decide +kernel
theorem dX5_kind_22 : decode cX5_kind 22 = .ok (.iload_n 3, 1) := by decide +kernel
theorem dX5_kind_23 : decode cX5_kind 23 = .ok (.iconst 1, 1) := by decide +kernel
theorem dX5_kind_24 : decode cX5_kind 24 = .ok (.ldc 100, 2) := by decide +kernel
theorem dX5_kind_26 : decode cX5_kind 26 = .ok (.invokestatic 86, 3) := by decide +kernel
theorem dX5_kind_29 : decode cX5_kind 29 = .ok (.ifCond .eq 18, 3) := by decide +kernel
theorem dX5_kind_32 : decode cX5_kind 32 = .ok (.iload 4, 2) := by decide +kernel
theorem dX5_kind_34 : decode cX5_kind 34 = .ok (.iconst 0, 1) := by decide +kernel
theorem dX5_kind_35 : decode cX5_kind 35 = .ok (.ldc 100, 2) := by decide +kernel
theorem dX5_kind_37 : decode cX5_kind 37 = .ok (.invokestatic 86, 3) := by decide +kernel
theorem dX5_kind_40 : decode cX5_kind 40 = .ok (.ifCond .eq 7, 3) := by decide +kernel
theorem dX5_kind_43 : decode cX5_kind 43 = .ok (.iconst 1, 1) := by decide +kernel
theorem dX5_kind_44 : decode cX5_kind 44 = .ok (.goto 4, 3) := by decide +kernel
theorem dX5_kind_47 : decode cX5_kind 47 = .ok (.iconst 0, 1) := by decide +kernel
theorem dX5_kind_48 : decode cX5_kind 48 = .ok (.istore 5, 2) := by decide +kernel
theorem dX5_kind_50 : decode cX5_kind 50 = .ok (.aload_n 0, 1) := by decide +kernel
theorem dX5_kind_51 : decode cX5_kind 51 = .ok (.iload 5, 2) := by decide +kernel
theorem dX5_kind_53 : decode cX5_kind 53 = .ok (.ifCond .ne 7, 3) := by decide +kernel
theorem dX5_kind_56 : decode cX5_kind 56 = .ok (.iconst 1, 1) := by decide +kernel
theorem dX5_kind_57 : decode cX5_kind 57 = .ok (.goto 16, 3) := by decide +kernel
theorem dX5_kind_60 : decode cX5_kind 60 = .ok (.aload_n 0, 1) := by decide +kernel
theorem dX5_kind_61 : decode cX5_kind 61 = .ok (.getfield 83, 3) := by decide +kernel
theorem dX5_kind_64 : decode cX5_kind 64 = .ok (.iconst 3, 1) := by decide +kernel
theorem dX5_kind_65 : decode cX5_kind 65 = .ok (.if_icmp .ne 7, 3) := by decide +kernel
theorem dX5_kind_68 : decode cX5_kind 68 = .ok (.iconst 2, 1) := by decide +kernel
theorem dX5_kind_69 : decode cX5_kind 69 = .ok (.goto 4, 3) := by decide +kernel
theorem dX5_kind_72 : decode cX5_kind 72 = .ok (.iconst 0, 1) := by decide +kernel
theorem dX5_kind_73 : decode cX5_kind 73 = .ok (.putfield 80, 3) := by decide +kernel
theorem dX5_kind_76 : decode cX5_kind 76 = .ok (.aload_n 0, 1) := by decide +kernel
theorem dX5_kind_77 : decode cX5_kind 77 = .ok (.getfield 80, 3) := by decide +kernel
theorem dX5_kind_80 : decode cX5_kind 80 = .ok (.ifCond .le 5, 3) := by decide +kernel
theorem dX5_kind_83 : decode cX5_kind 83 = .ok (.iconst 0, 1) := by decide +kernel
theorem dX5_kind_84 : decode cX5_kind 84 = .ok (.ireturn, 1) := by decide +kernel
theorem dX5_kind_85 : decode cX5_kind 85 = .ok (.aload_n 0, 1) := by decide +kernel
theorem dX5_kind_86 : decode cX5_kind 86 = .ok (.getfield 7, 3) := by decide +kernel
theorem dX5_kind_89 : decode cX5_kind 89 = .ok (.aload_n 0, 1) := by decide +kernel
theorem dX5_kind_90 : decode cX5_kind 90 = .ok (.getfield 83, 3) := by decide +kernel
theorem dX5_kind_93 : decode cX5_kind 93 = .ok (.iload_n 1, 1) := by decide +kernel
theorem dX5_kind_94 : decode cX5_kind 94 = .ok (.iastore, 1) := by decide +kernel
theorem dX5_kind_95 : decode cX5_kind 95 = .ok (.aload_n 0, 1) := by decide +kernel
theorem dX5_kind_96 : decode cX5_kind 96 = .ok (.getfield 13, 3) := by decide +kernel
theorem dX5_kind_99 : decode cX5_kind 99 = .ok (.aload_n 0, 1) := by decide +kernel
theorem dX5_kind_100 : decode cX5_kind 100 = .ok (.getfield 83, 3) := by decide +kernel
theorem dX5_kind_103 : decode cX5_kind 103 = .ok (.iload_n 2, 1) := by decide +kernel
theorem dX5_kind_104 : decode cX5_kind 104 = .ok (.iastore, 1) := by decide +kernel
theorem dX5_kind_105 : decode cX5_kind 105 = .ok (.aload_n 0, 1) := by decide +kernel
theorem dX5_kind_106 : decode cX5_kind 106 = .ok (.getfield 16, 3) := by decide +kernel
theorem dX5_kind_109 : decode cX5_kind 109 = .ok (.aload_n 0, 1) := by decide +kernel
theorem dX5_kind_110 : decode cX5_kind 110 = .ok (.getfield 83, 3) := by decide +kernel
theorem dX5_kind_113 : decode cX5_kind 113 = .ok (.iload_n 3, 1) := by decide +kernel
theorem dX5_kind_114 : decode cX5_kind 114 = .ok (.iastore, 1) := by decide +kernel
theorem dX5_kind_115 : decode cX5_kind 115 = .ok (.aload_n 0, 1) := by decide +kernel
theorem dX5_kind_116 : decode cX5_kind 116 = .ok (.getfield 19, 3) := by decide +kernel
theorem dX5_kind_119 : decode cX5_kind 119 = .ok (.aload_n 0, 1) := by decide +kernel
theorem dX5_kind_120 : decode cX5_kind 120 = .ok (.getfield 83, 3) := by decide +kernel
theorem dX5_kind_123 : decode cX5_kind 123 = .ok (.iload 4, 2) := by decide +kernel
theorem dX5_kind_125 : decode cX5_kind 125 = .ok (.iastore, 1) := by decide +kernel
theorem dX5_kind_126 : decode cX5_kind 126 = .ok (.aload_n 0, 1) := by decide +kernel
theorem dX5_kind_127 : decode cX5_kind 127 = .ok (.dup, 1) := by decide +kernel
theorem dX5_kind_128 : decode cX5_kind 128 = .ok (.getfield 83, 3) := by decide +kernel
theorem dX5_kind_131 : decode cX5_kind 131 = .ok (.iconst 1, 1) := by decide +kernel
theorem dX5_kind_132 : decode cX5_kind 132 = .ok (.iadd, 1) := by decide +kernel
theorem dX5_kind_133 : decode cX5_kind 133 = .ok (.putfield 83, 3) := by decide +kernel
theorem dX5_kind_136 : decode cX5_kind 136 = .ok (.aload_n 0, 1) := by decide +kernel
theorem dX5_kind_137 : decode cX5_kind 137 = .ok (.invokevirtual 101, 3) := by decide +kernel
theorem dX5_kind_140 : decode cX5_kind 140 = .ok (.aload_n 0, 1) := by decide +kernel
theorem dX5_kind_141 : decode cX5_kind 141 = .ok (.getfield 83, 3) := by decide +kernel
theorem dX5_kind_144 : decode cX5_kind 144 = .ok (.iconst 1, 1) := by decide +kernel
theorem dX5_kind_145 : decode cX5_kind 145 = .ok (.isub, 1) := by decide +kernel
theorem dX5_kind_146 : decode cX5_kind 146 = .ok (.ireturn, 1) := by decide +kernel
set_option maxRecDepth 20000 in
theorem ggX5_place_X5_isIn : GoodIn wsX5_place wsX5_isIn := goodIn_r _ [10] (by decide +kernel) (by decide +kernel)
set_option maxRecDepth 20000 in
theorem gX5_place_X5_isIn : GoodIn wsX5_place (va_wsS RX5 86 yX5_isIn wsX5_isIn) := goodIn_app (goodIn_of _ (by decide +kernel)) ggX5_place_X5_isIn
set_option maxRecDepth 20000 in
theorem ggX5_place_X5_renew : GoodIn wsX5_place wsX5_renew := goodIn_r _ [14, 15, 16, 17, 18, 19, 20, 21, 22, 23, 24, 25, 26, 27, 28, 29, 30, 31, 32, 33, 34, 35, 36, 37, 38, 39, 40, 41, 42, 43, 44, 45, 46, 47, 48, 49, 50, 51, 52, 53] (by decide +kernel) (by decide +kernel)
set_option maxRecDepth 20000 in
theorem gX5_place_X5_renew : GoodIn wsX5_place (wsV RX5 101 RX5 yX5_renew wsX5_renew) := goodIn_app (goodIn_of _ (by decide +kernel)) ggX5_place_X5_renew
theorem dX5_place_0 : decode cX5_place 0 = .ok (.aload_n 0, 1) := by decide +kernel
theorem dX5_place_1 : decode cX5_place 1 = .ok (.iload_n 1, 1) := by decide +kernel
theorem dX5_place_2 : decode cX5_place 2 = .ok (.iconst 0, 1) := by decide +kernel
theorem dX5_place_3 : decode cX5_place 3 = .ok (.bipush 50, 2) := by decide +kernel
theorem dX5_place_5 : decode cX5_place 5 = .ok (.invokestatic 86, 3) := by decide +kernel
theorem dX5_place_8 : decode cX5_place 8 = .ok (.ifCond .eq 13, 3) := by decide +kernel
theorem dX5_place_11 : decode cX5_place 11 = .ok (.iload_n 2, 1) := by decide +kernel
theorem dX5_place_12 : decode cX5_place 12 = .ok (.iconst 0, 1) := by decide +kernel
theorem dX5_place_13 : decode cX5_place 13 = .ok (.bipush 50, 2) := by decide +kernel
theorem dX5_place_15 : decode cX5_place 15 = .ok (.invokestatic 86, 3) := by decide +kernel
theorem dX5_place_18 : decode cX5_place 18 = .ok (.ifCond .ne 7, 3) := by decide +kernel
theorem dX5_place_21 : decode cX5_place 21 = .ok (.iconst 1, 1) := by decide +kernel
theorem dX5_place_22 : decode cX5_place 22 = .ok (.goto 17, 3) := by decide +kernel
theorem dX5_place_25 : decode cX5_place 25 = .ok (.aload_n 0, 1) := by decide +kernel
theorem dX5_place_26 : decode cX5_place 26 = .ok (.getfield 90, 3) := by decide +kernel
theorem dX5_place_29 : decode cX5_place 29 = .ok (.bipush 7, 2) := by decide +kernel
theorem dX5_place_31 : decode cX5_place 31 = .ok (.if_icmp .ne 7, 3) := by decide +kernel
theorem dX5_place_34 : decode cX5_place 34 = .ok (.iconst 2, 1) := by decide +kernel
theorem dX5_place_35 : decode cX5_place 35 = .ok (.goto 4, 3) := by decide +kernel
theorem dX5_place_38 : decode cX5_place 38 = .ok (.iconst 0, 1) := by decide +kernel
theorem dX5_place_39 : decode cX5_place 39 = .ok (.putfield 80, 3) := by decide +kernel
theorem dX5_place_42 : decode cX5_place 42 = .ok (.aload_n 0, 1) := by decide +kernel
theorem dX5_place_43 : decode cX5_place 43 = .ok (.getfield 80, 3) := by decide +kernel
theorem dX5_place_46 : decode cX5_place 46 = .ok (.ifCond .le 5, 3) := by decide +kernel
theorem dX5_place_49 : decode cX5_place 49 = .ok (.iconst 0, 1) := by decide +kernel
theorem dX5_place_50 : decode cX5_place 50 = .ok (.ireturn, 1) := by decide +kernel
theorem dX5_place_51 : decode cX5_place 51 = .ok (.aload_n 0, 1) := by decide +kernel
theorem dX5_place_52 : decode cX5_place 52 = .ok (.getfield 22, 3) := by decide +kernel
theorem dX5_place_55 : decode cX5_place 55 = .ok (.aload_n 0, 1) := by decide +kernel
theorem dX5_place_56 : decode cX5_place 56 = .ok (.getfield 90, 3) := by decide +kernel
theorem dX5_place_59 : decode cX5_place 59 = .ok (.iload_n 1, 1) := by decide +kernel
theorem dX5_place_60 : decode cX5_place 60 = .ok (.iastore, 1) := by decide +kernel
theorem dX5_place_61 : decode cX5_place 61 = .ok (.aload_n 0, 1) := by decide +kernel
theorem dX5_place_62 : decode cX5_place 62 = .ok (.getfield 25, 3) := by decide +kernel
theorem dX5_place_65 : decode cX5_place 65 = .ok (.aload_n 0, 1) := by decide +kernel
theorem dX5_place_66 : decode cX5_place 66 = .ok (.getfield 90, 3) := by decide +kernel
theorem dX5_place_69 : decode cX5_place 69 = .ok (.iload_n 2, 1) := by decide +kernel
theorem dX5_place_70 : decode cX5_place 70 = .ok (.iastore, 1) := by decide +kernel
theorem dX5_place_71 : decode cX5_place 71 = .ok (.aload_n 0, 1) := by decide +kernel
theorem dX5_place_72 : decode cX5_place 72 = .ok (.getfield 28, 3) := by decide +kernel
theorem dX5_place_75 : decode cX5_place 75 = .ok (.aload_n 0, 1) := by decide +kernel
theorem dX5_place_76 : decode cX5_place 76 = .ok (.getfield 90, 3) := by decide +kernel
theorem dX5_place_79 : decode cX5_place 79 = .ok (.bipush (-2), 2) := by decide +kernel
theorem dX5_place_81 : decode cX5_place 81 = .ok (.iastore, 1) := by decide +kernel
theorem dX5_place_82 : decode cX5_place 82 = .ok (.aload_n 0, 1) := by decide +kernel
theorem dX5_place_83 : decode cX5_place 83 = .ok (.getfield 31, 3) := by decide +kernel
theorem dX5_place_86 : decode cX5_place 86 = .ok (.aload_n 0, 1) := by decide +kernel
theorem dX5_place_87 : decode cX5_place 87 = .ok (.getfield 90, 3) := by decide +kernel
theorem dX5_place_90 : decode cX5_place 90 = .ok (.iconst (-1), 1) := by decide +kernel
theorem dX5_place_91 : decode cX5_place 91 = .ok (.iastore, 1) := by decide +kernel
theorem dX5_place_92 : decode cX5_place 92 = .ok (.aload_n 0, 1) := by decide +kernel
theorem dX5_place_93 : decode cX5_place 93 = .ok (.dup, 1) := by decide +kernel
theorem dX5_place_94 : decode cX5_place 94 = .ok (.getfield 90, 3) := by decide +kernel
theorem dX5_place_97 : decode cX5_place 97 = .ok (.iconst 1, 1) := by decide +kernel
theorem dX5_place_98 : decode cX5_place 98 = .ok (.iadd, 1) := by decide +kernel
theorem dX5_place_99 : decode cX5_place 99 = .ok (.putfield 90, 3) := by decide +kernel
theorem dX5_place_102 : decode cX5_place 102 = .ok (.aload_n 0, 1) := by decide +kernel
theorem dX5_place_103 : decode cX5_place 103 = .ok (.invokevirtual 101, 3) := by decide +kernel
theorem dX5_place_106 : decode cX5_place 106 = .ok (.aload_n 0, 1) := by decide +kernel
theorem dX5_place_107 : decode cX5_place 107 = .ok (.getfield 90, 3) := by decide +kernel
theorem dX5_place_110 : decode cX5_place 110 = .ok (.iconst 1, 1) := by decide +kernel
theorem dX5_place_111 : decode cX5_place 111 = .ok (.isub, 1) := by decide +kernel
theorem dX5_place_112 : decode cX5_place 112 = .ok (.ireturn, 1) := by decide +kernel
set_option maxRecDepth 20000 in
theorem ggX5_point_X5_isIn : GoodIn wsX5_point wsX5_isIn := goodIn_r _ [10] (by decide +kernel) (by decide +kernel)
set_option maxRecDepth 20000 in
theorem gX5_point_X5_isIn : GoodIn wsX5_point (va_wsS RX5 86 yX5_isIn wsX5_isIn) := goodIn_app (goodIn_of _ (by decide +kernel)) ggX5_point_X5_isIn
set_option maxRecDepth 20000 in
theorem ggX5_point_X5_renew : GoodIn wsX5_point wsX5_renew := goodIn_r _ [14, 15, 16, 17, 18, 19, 20, 21, 22, 23, 24, 25, 26, 27, 28, 29, 30, 31, 32, 33, 34, 35, 36, 37, 38, 39, 40, 41, 42, 43, 44, 45, 46, 47, 48, 49, 50, 51, 52, 53] (by decide +kernel) (by decide +kernel)
set_option maxRecDepth 20000 in
theorem gX5_point_X5_renew : GoodIn wsX5_point (wsV RX5 101 RX5 yX5_renew wsX5_renew) := goodIn_app (goodIn_of _ (by decide +kernel)) ggX5_point_X5_renew
theorem dX5_point_0 : decode cX5_point 0 = .ok (.aload_n 0, 1) := by decide +kernel
theorem dX5_point_1 : decode cX5_point 1 = .ok (.iload_n 1, 1) := by decide +kernel
theorem dX5_point_2 : decode cX5_point 2 = .ok (.iconst 0, 1) := by decide +kernel
theorem dX5_point_3 : decode cX5_point 3 = .ok (.bipush 50, 2) := by decide +kernel
theorem dX5_point_5 : decode cX5_point 5 = .ok (.invokestatic 86, 3) := by decide +kernel
theorem dX5_point_8 : decode cX5_point 8 = .ok (.ifCond .eq 23, 3) := by decide +kernel
theorem dX5_point_11 : decode cX5_point 11 = .ok (.iload_n 2, 1) := by decide +kernel
theorem dX5_point_12 : decode cX5_point 12 = .ok (.iconst 0, 1) := by decide +kernel
theorem dX5_point_13 : decode cX5_point 13 = .ok (.bipush 50, 2) := by decide +kernel
theorem dX5_point_15 : decode cX5_point 15 = .ok (.invokestatic 86, 3) := by decide +kernel
theorem dX5_point_18 : decode cX5_point 18 = .ok (.ifCond .eq 13, 3) := by decide +kernel
theorem dX5_point_21 : decode cX5_point 21 = .ok (.iload_n 3, 1) := by decide +kernel
theorem dX5_point_22 : decode cX5_point 22 = .ok (.iconst 0, 1) := by decide +kernel
theorem dX5_point_23 : decode cX5_point 23 = .ok (.ldc 100, 2) := by decide +kernel
theorem dX5_point_25 : decode cX5_point 25 = .ok (.invokestatic 86, 3) := by decide +kernel
theorem dX5_point_28 : decode cX5_point 28 = .ok (.ifCond .ne 7, 3) := by decide +kernel
theorem dX5_point_31 : decode cX5_point 31 = .ok (.iconst 1, 1) := by decide +kernel
theorem dX5_point_32 : decode cX5_point 32 = .ok (.goto 17, 3) := by decide +kernel
theorem dX5_point_35 : decode cX5_point 35 = .ok (.aload_n 0, 1) := by decide +kernel
theorem dX5_point_36 : decode cX5_point 36 = .ok (.getfield 93, 3) := by decide +kernel
theorem dX5_point_39 : decode cX5_point 39 = .ok (.bipush 16, 2) := by decide +kernel
theorem dX5_point_41 : decode cX5_point 41 = .ok (.if_icmp .ne 7, 3) := by decide +kernel
theorem dX5_point_44 : decode cX5_point 44 = .ok (.iconst 2, 1) := by decide +kernel
theorem dX5_point_45 : decode cX5_point 45 = .ok (.goto 4, 3) := by decide +kernel
theorem dX5_point_48 : decode cX5_point 48 = .ok (.iconst 0, 1) := by decide +kernel
theorem dX5_point_49 : decode cX5_point 49 = .ok (.putfield 80, 3) := by decide +kernel
theorem dX5_point_52 : decode cX5_point 52 = .ok (.aload_n 0, 1) := by decide +kernel
theorem dX5_point_53 : decode cX5_point 53 = .ok (.getfield 80, 3) := by decide +kernel
theorem dX5_point_56 : decode cX5_point 56 = .ok (.ifCond .le 5, 3) := by decide +kernel
theorem dX5_point_59 : decode cX5_point 59 = .ok (.iconst 0, 1) := by decide +kernel
theorem dX5_point_60 : decode cX5_point 60 = .ok (.ireturn, 1) := by decide +kernel
theorem dX5_point_61 : decode cX5_point 61 = .ok (.aload_n 0, 1) := by decide +kernel
theorem dX5_point_62 : decode cX5_point 62 = .ok (.getfield 34, 3) := by decide +kernel
theorem dX5_point_65 : decode cX5_point 65 = .ok (.aload_n 0, 1) := by decide +kernel
theorem dX5_point_66 : decode cX5_point 66 = .ok (.getfield 93, 3) := by decide +kernel
theorem dX5_point_69 : decode cX5_point 69 = .ok (.iload_n 1, 1) := by decide +kernel
theorem dX5_point_70 : decode cX5_point 70 = .ok (.iastore, 1) := by decide +kernel
theorem dX5_point_71 : decode cX5_point 71 = .ok (.aload_n 0, 1) := by decide +kernel
theorem dX5_point_72 : decode cX5_point 72 = .ok (.getfield 37, 3) := by decide +kernel
theorem dX5_point_75 : decode cX5_point 75 = .ok (.aload_n 0, 1) := by decide +kernel
theorem dX5_point_76 : decode cX5_point 76 = .ok (.getfield 93, 3) := by decide +kernel
theorem dX5_point_79 : decode cX5_point 79 = .ok (.iload_n 2, 1) := by decide +kernel
theorem dX5_point_80 : decode cX5_point 80 = .ok (.iastore, 1) := by decide +kernel
theorem dX5_point_81 : decode cX5_point 81 = .ok (.aload_n 0, 1) := by decide +kernel
theorem dX5_point_82 : decode cX5_point 82 = .ok (.getfield 40, 3) := by decide +kernel
theorem dX5_point_85 : decode cX5_point 85 = .ok (.aload_n 0, 1) := by decide +kernel
theorem dX5_point_86 : decode cX5_point 86 = .ok (.getfield 93, 3) := by decide +kernel
theorem dX5_point_89 : decode cX5_point 89 = .ok (.iload_n 3, 1) := by decide +kernel
theorem dX5_point_90 : decode cX5_point 90 = .ok (.iastore, 1) := by decide +kernel
theorem dX5_point_91 : decode cX5_point 91 = .ok (.aload_n 0, 1) := by decide +kernel
theorem dX5_point_92 : decode cX5_point 92 = .ok (.dup, 1) := by decide +kernel
theorem dX5_point_93 : decode cX5_point 93 = .ok (.getfield 93, 3) := by decide +kernel
theorem dX5_point_96 : decode cX5_point 96 = .ok (.iconst 1, 1) := by decide +kernel
theorem dX5_point_97 : decode cX5_point 97 = .ok (.iadd, 1) := by decide +kernel
theorem dX5_point_98 : decode cX5_point 98 = .ok (.putfield 93, 3) := by decide +kernel
theorem dX5_point_101 : decode cX5_point 101 = .ok (.aload_n 0, 1) := by decide +kernel
theorem dX5_point_102 : decode cX5_point 102 = .ok (.invokevirtual 101, 3) := by decide +kernel
theorem dX5_point_105 : decode cX5_point 105 = .ok (.aload_n 0, 1) := by decide +kernel
theorem dX5_point_106 : decode cX5_point 106 = .ok (.getfield 93, 3) := by decide +kernel
theorem dX5_point_109 : decode cX5_point 109 = .ok (.iconst 1, 1) := by decide +kernel
theorem dX5_point_110 : decode cX5_point 110 = .ok (.isub, 1) := by decide +kernel
theorem dX5_point_111 : decode cX5_point 111 = .ok (.ireturn, 1) := by decide +kernel
set_option maxRecDepth 20000 in
theorem ggX5_height_X5_isIn : GoodIn wsX5_height wsX5_isIn := goodIn_r _ [6] (by decide +kernel) (by decide +kernel)
set_option maxRecDepth 20000 in
theorem gX5_height_X5_isIn : GoodIn wsX5_height (va_wsS RX5 86 yX5_isIn wsX5_isIn) := goodIn_app (goodIn_of _ (by decide +kernel)) ggX5_height_X5_isIn
set_option maxRecDepth 20000 in
theorem ggX5_height_X5_renew : GoodIn wsX5_height wsX5_renew := goodIn_r _ [10, 11, 12, 13, 14, 15, 16, 17, 18, 19, 20, 21, 22, 23, 24, 25, 26, 27, 28, 29, 30, 31, 32, 33, 34, 35, 36, 37, 38, 39, 40, 41, 42, 43, 44, 45, 46, 47, 48, 49] (by decide +kernel) (by decide +kernel)
set_option maxRecDepth 20000 in
theorem gX5_height_X5_renew : GoodIn wsX5_height (wsV RX5 101 RX5 yX5_renew wsX5_renew) := goodIn_app (goodIn_of _ (by decide +kernel)) ggX5_height_X5_renew
theorem dX5_height_0 : decode cX5_height 0 = .ok (.aload_n 0, 1) := by decide +kernel
theorem dX5_height_1 : decode cX5_height 1 = .ok (.iload_n 1, 1) := by decide +kernel
theorem dX5_height_2 : decode cX5_height 2 = .ok (.iconst 1, 1) := by decide +kernel
theorem dX5_height_3 : decode cX5_height 3 = .ok (.bipush 50, 2) := by decide +kernel
theorem dX5_height_5 : decode cX5_height 5 = .ok (.invokestatic 86, 3) := by decide +kernel
theorem dX5_height_8 : decode cX5_height 8 = .ok (.ifCond .eq 7, 3) := by decide +kernel
theorem dX5_height_11 : decode cX5_height 11 = .ok (.iconst 0, 1) := by decide +kernel
theorem dX5_height_12 : decode cX5_height 12 = .ok (.goto 4, 3) := by decide +kernel
theorem dX5_height_15 : decode cX5_height 15 = .ok (.iconst 1, 1) := by decide +kernel
theorem dX5_height_16 : decode cX5_height 16 = .ok (.putfield 80, 3) := by decide +kernel
theorem dX5_height_19 : decode cX5_height 19 = .ok (.aload_n 0, 1) := by decide +kernel
theorem dX5_height_20 : decode cX5_height 20 = .ok (.getfield 80, 3) := by decide +kernel
theorem dX5_height_23 : decode cX5_height 23 = .ok (.ifCond .le 5, 3) := by decide +kernel
theorem dX5_height_26 : decode cX5_height 26 = .ok (.iconst 0, 1) := by decide +kernel
theorem dX5_height_27 : decode cX5_height 27 = .ok (.ireturn, 1) := by decide +kernel
theorem dX5_height_28 : decode cX5_height 28 = .ok (.aload_n 0, 1) := by decide +kernel
theorem dX5_height_29 : decode cX5_height 29 = .ok (.getfield 49, 3) := by decide +kernel
theorem dX5_height_32 : decode cX5_height 32 = .ok (.istore_n 2, 1) := by decide +kernel
theorem dX5_height_33 : decode cX5_height 33 = .ok (.aload_n 0, 1) := by decide +kernel
theorem dX5_height_34 : decode cX5_height 34 = .ok (.iload_n 1, 1) := by decide +kernel
theorem dX5_height_35 : decode cX5_height 35 = .ok (.putfield 49, 3) := by decide +kernel
theorem dX5_height_38 : decode cX5_height 38 = .ok (.aload_n 0, 1) := by decide +kernel
theorem dX5_height_39 : decode cX5_height 39 = .ok (.invokevirtual 101, 3) := by decide +kernel
theorem dX5_height_42 : decode cX5_height 42 = .ok (.iload_n 2, 1) := by decide +kernel
theorem dX5_height_43 : decode cX5_height 43 = .ok (.ireturn, 1) := by decide +kernel
set_option maxRecDepth 20000 in
theorem ggX5_hold_X5_isPlace : GoodIn wsX5_hold wsX5_isPlace := goodIn_r _ [7, 8, 9, 10, 6, 11, 24, 25, 26, 27, 28, 29, 30, 31, 32, 33, 34, 35, 36, 37, 38, 39, 40, 41, 42, 43, 44, 45, 46, 47, 48, 49, 50, 51, 52, 53, 54, 55, 56, 57, 58, 59] (by decide +kernel) (by decide +kernel)
set_option maxRecDepth 20000 in
theorem gX5_hold_X5_isPlace : GoodIn wsX5_hold (wsV RX5 104 RX5 yX5_isPlace wsX5_isPlace) := goodIn_app (goodIn_of _ (by decide +kernel)) ggX5_hold_X5_isPlace
set_option maxRecDepth 20000 in
theorem ggX5_hold_X5_isKind : GoodIn wsX5_hold wsX5_isKind := goodIn_r _ [15, 16, 9, 10, 6, 11, 24, 25, 26, 27, 28, 29, 30, 31, 32, 33, 34, 35, 36, 37, 38, 39, 40, 41, 42, 43, 44, 45, 46, 47, 48, 49, 50, 51, 52, 53, 54, 55, 56, 57, 58, 59] (by decide +kernel) (by decide +kernel)
set_option maxRecDepth 20000 in
theorem gX5_hold_X5_isKind : GoodIn wsX5_hold (wsV RX5 108 RX5 yX5_isKind wsX5_isKind) := goodIn_app (goodIn_of _ (by decide +kernel)) ggX5_hold_X5_isKind
set_option maxRecDepth 20000 in
theorem ggX5_hold_X5_renew : GoodIn wsX5_hold wsX5_renew := goodIn_r _ [20, 21, 22, 23, 24, 25, 26, 27, 28, 29, 30, 31, 32, 33, 34, 35, 36, 37, 38, 39, 40, 41, 42, 43, 44, 45, 46, 47, 48, 49, 50, 51, 52, 53, 54, 55, 56, 57, 58, 59] (by decide +kernel) (by decide +kernel)
set_option maxRecDepth 20000 in
theorem gX5_hold_X5_renew : GoodIn wsX5_hold (wsV RX5 101 RX5 yX5_renew wsX5_renew) := goodIn_app (goodIn_of _ (by decide +kernel)) ggX5_hold_X5_renew
theorem dX5_hold_0 : decode cX5_hold 0 = .ok (.aload_n 0, 1) := by decide +kernel
theorem dX5_hold_1 : decode cX5_hold 1 = .ok (.aload_n 0, 1) := by decide +kernel
theorem dX5_hold_2 : decode cX5_hold 2 = .ok (.iload_n 1, 1) := by decide +kernel
theorem dX5_hold_3 : decode cX5_hold 3 = .ok (.invokevirtual 104, 3) := by decide +kernel
theorem dX5_hold_6 : decode cX5_hold 6 = .ok (.ifCond .eq 26, 3) := by decide +kernel
theorem dX5_hold_9 : decode cX5_hold 9 = .ok (.aload_n 0, 1) := by decide +kernel
theorem dX5_hold_10 : decode cX5_hold 10 = .ok (.iload_n 2, 1) := by decide +kernel
theorem dX5_hold_11 : decode cX5_hold 11 = .ok (.invokevirtual 108, 3) := by decide +kernel
theorem dX5_hold_14 : decode cX5_hold 14 = .ok (.ifCond .ne 14, 3) := by decide +kernel
theorem dX5_hold_17 : decode cX5_hold 17 = .ok (.iload_n 2, 1) := by decide +kernel
theorem dX5_hold_18 : decode cX5_hold 18 = .ok (.iconst (-1), 1) := by decide +kernel
theorem dX5_hold_19 : decode cX5_hold 19 = .ok (.if_icmp .eq 9, 3) := by decide +kernel
theorem dX5_hold_22 : decode cX5_hold 22 = .ok (.iload_n 2, 1) := by decide +kernel
theorem dX5_hold_23 : decode cX5_hold 23 = .ok (.bipush (-2), 2) := by decide +kernel
theorem dX5_hold_25 : decode cX5_hold 25 = .ok (.if_icmp .ne 7, 3) := by decide +kernel
theorem dX5_hold_28 : decode cX5_hold 28 = .ok (.iconst 0, 1) := by decide +kernel
theorem dX5_hold_29 : decode cX5_hold 29 = .ok (.goto 4, 3) := by decide +kernel
theorem dX5_hold_32 : decode cX5_hold 32 = .ok (.iconst 1, 1) := by decide +kernel
theorem dX5_hold_33 : decode cX5_hold 33 = .ok (.putfield 80, 3) := by decide +kernel
theorem dX5_hold_36 : decode cX5_hold 36 = .ok (.aload_n 0, 1) := by decide +kernel
theorem dX5_hold_37 : decode cX5_hold 37 = .ok (.getfield 80, 3) := by decide +kernel
theorem dX5_hold_40 : decode cX5_hold 40 = .ok (.ifCond .ne 14, 3) := by decide +kernel
theorem dX5_hold_43 : decode cX5_hold 43 = .ok (.aload_n 0, 1) := by decide +kernel
theorem dX5_hold_44 : decode cX5_hold 44 = .ok (.getfield 28, 3) := by decide +kernel
theorem dX5_hold_47 : decode cX5_hold 47 = .ok (.iload_n 1, 1) := by decide +kernel
theorem dX5_hold_48 : decode cX5_hold 48 = .ok (.iload_n 2, 1) := by decide +kernel
theorem dX5_hold_49 : decode cX5_hold 49 = .ok (.iastore, 1) := by decide +kernel
theorem dX5_hold_50 : decode cX5_hold 50 = .ok (.aload_n 0, 1) := by decide +kernel
theorem dX5_hold_51 : decode cX5_hold 51 = .ok (.invokevirtual 101, 3) := by decide +kernel
theorem dX5_hold_54 : decode cX5_hold 54 = .ok (.return_, 1) := by decide +kernel
theorem dX5_lightOf_0 : decode cX5_lightOf 0 = .ok (.aload_n 0, 1) := by decide +kernel
theorem dX5_lightOf_1 : decode cX5_lightOf 1 = .ok (.getfield 22, 3) := by decide +kernel
theorem dX5_lightOf_4 : decode cX5_lightOf 4 = .ok (.iload_n 2, 1) := by decide +kernel
theorem dX5_lightOf_5 : decode cX5_lightOf 5 = .ok (.iaload, 1) := by decide +kernel
theorem dX5_lightOf_6 : decode cX5_lightOf 6 = .ok (.aload_n 0, 1) := by decide +kernel
theorem dX5_lightOf_7 : decode cX5_lightOf 7 = .ok (.getfield 34, 3) := by decide +kernel
theorem dX5_lightOf_10 : decode cX5_lightOf 10 = .ok (.iload_n 3, 1) := by decide +kernel
theorem dX5_lightOf_11 : decode cX5_lightOf 11 = .ok (.iaload, 1) := by decide +kernel
theorem dX5_lightOf_12 : decode cX5_lightOf 12 = .ok (.isub, 1) := by decide +kernel
theorem dX5_lightOf_13 : decode cX5_lightOf 13 = .ok (.istore 4, 2) := by decide +kernel
theorem dX5_lightOf_15 : decode cX5_lightOf 15 = .ok (.aload_n 0, 1) := by decide +kernel
theorem dX5_lightOf_16 : decode cX5_lightOf 16 = .ok (.getfield 25, 3) := by decide +kernel
theorem dX5_lightOf_19 : decode cX5_lightOf 19 = .ok (.iload_n 2, 1) := by decide +kernel
theorem dX5_lightOf_20 : decode cX5_lightOf 20 = .ok (.iaload, 1) := by decide +kernel
theorem dX5_lightOf_21 : decode cX5_lightOf 21 = .ok (.aload_n 0, 1) := by decide +kernel
theorem dX5_lightOf_22 : decode cX5_lightOf 22 = .ok (.getfield 37, 3) := by decide +kernel
theorem dX5_lightOf_25 : decode cX5_lightOf 25 = .ok (.iload_n 3, 1) := by decide +kernel
theorem dX5_lightOf_26 : decode cX5_lightOf 26 = .ok (.iaload, 1) := by decide +kernel
theorem dX5_lightOf_27 : decode cX5_lightOf 27 = .ok (.isub, 1) := by decide +kernel
theorem dX5_lightOf_28 : decode cX5_lightOf 28 = .ok (.istore 5, 2) := by decide +kernel
theorem dX5_lightOf_30 : decode cX5_lightOf 30 = .ok (.sipush 1000, 3) := by decide +kernel
theorem dX5_lightOf_33 : decode cX5_lightOf 33 = .ok (.aload_n 0, 1) := by decide +kernel
theorem dX5_lightOf_34 : decode cX5_lightOf 34 = .ok (.getfield 7, 3) := by decide +kernel
theorem dX5_lightOf_37 : decode cX5_lightOf 37 = .ok (.iload_n 1, 1) := by decide +kernel
theorem dX5_lightOf_38 : decode cX5_lightOf 38 = .ok (.iaload, 1) := by decide +kernel
theorem dX5_lightOf_39 : decode cX5_lightOf 39 = .ok (.imul, 1) := by decide +kernel
theorem dX5_lightOf_40 : decode cX5_lightOf 40 = .ok (.aload_n 0, 1) := by decide +kernel
theorem dX5_lightOf_41 : decode cX5_lightOf 41 = .ok (.getfield 49, 3) := by decide +kernel
theorem dX5_lightOf_44 : decode cX5_lightOf 44 = .ok (.aload_n 0, 1) := by decide +kernel
theorem dX5_lightOf_45 : decode cX5_lightOf 45 = .ok (.getfield 49, 3) := by decide +kernel
theorem dX5_lightOf_48 : decode cX5_lightOf 48 = .ok (.imul, 1) := by decide +kernel
theorem dX5_lightOf_49 : decode cX5_lightOf 49 = .ok (.iload 4, 2) := by decide +kernel
theorem dX5_lightOf_51 : decode cX5_lightOf 51 = .ok (.iload 4, 2) := by decide +kernel
theorem dX5_lightOf_53 : decode cX5_lightOf 53 = .ok (.imul, 1) := by decide +kernel
theorem dX5_lightOf_54 : decode cX5_lightOf 54 = .ok (.iadd, 1) := by decide +kernel
theorem dX5_lightOf_55 : decode cX5_lightOf 55 = .ok (.iload 5, 2) := by decide +kernel
theorem dX5_lightOf_57 : decode cX5_lightOf 57 = .ok (.iload 5, 2) := by decide +kernel
theorem dX5_lightOf_59 : decode cX5_lightOf 59 = .ok (.imul, 1) := by decide +kernel
theorem dX5_lightOf_60 : decode cX5_lightOf 60 = .ok (.iadd, 1) := by decide +kernel
theorem dX5_lightOf_61 : decode cX5_lightOf 61 = .ok (.idiv, 1) := by decide +kernel
theorem dX5_lightOf_62 : decode cX5_lightOf 62 = .ok (.ireturn, 1) := by decide +kernel
set_option maxRecDepth 20000 in
theorem ggX5_light_X5_isKind : GoodIn wsX5_light wsX5_isKind := goodIn_r _ [6, 7, 8, 9, 5, 10, 31, 32, 33, 34, 35, 36, 37, 38, 39, 40, 41, 42, 43, 44, 45, 46, 47, 48, 49, 50, 51, 52, 53, 54, 55, 56, 57, 58, 59, 60, 61, 62, 63, 64, 65, 66] (by decide +kernel) (by decide +kernel)
set_option maxRecDepth 20000 in
theorem gX5_light_X5_isKind : GoodIn wsX5_light (wsV RX5 108 RX5 yX5_isKind wsX5_isKind) := goodIn_app (goodIn_of _ (by decide +kernel)) ggX5_light_X5_isKind
set_option maxRecDepth 20000 in
theorem ggX5_light_X5_isPlace : GoodIn wsX5_light wsX5_isPlace := goodIn_r _ [14, 15, 8, 9, 5, 10, 31, 32, 33, 34, 35, 36, 37, 38, 39, 40, 41, 42, 43, 44, 45, 46, 47, 48, 49, 50, 51, 52, 53, 54, 55, 56, 57, 58, 59, 60, 61, 62, 63, 64, 65, 66] (by decide +kernel) (by decide +kernel)
set_option maxRecDepth 20000 in
theorem gX5_light_X5_isPlace : GoodIn wsX5_light (wsV RX5 104 RX5 yX5_isPlace wsX5_isPlace) := goodIn_app (goodIn_of _ (by decide +kernel)) ggX5_light_X5_isPlace
set_option maxRecDepth 20000 in
theorem ggX5_light_X5_isPoint : GoodIn wsX5_light wsX5_isPoint := goodIn_r _ [19, 20, 8, 9, 5, 10, 31, 32, 33, 34, 35, 36, 37, 38, 39, 40, 41, 42, 43, 44, 45, 46, 47, 48, 49, 50, 51, 52, 53, 54, 55, 56, 57, 58, 59, 60, 61, 62, 63, 64, 65, 66] (by decide +kernel) (by decide +kernel)
set_option maxRecDepth 20000 in
theorem gX5_light_X5_isPoint : GoodIn wsX5_light (wsV RX5 111 RX5 yX5_isPoint wsX5_isPoint) := goodIn_app (goodIn_of _ (by decide +kernel)) ggX5_light_X5_isPoint
set_option maxRecDepth 20000 in
theorem ggX5_light_X5_lightOf : GoodIn wsX5_light wsX5_lightOf := goodIn_r _ [24, 25, 26, 27, 28, 29, 30, 31, 32, 33, 34, 35, 36, 37, 38, 39, 40, 41, 42, 43, 44, 45, 46, 47, 48, 49, 50, 51, 52, 53, 54, 55, 56, 57, 58, 59, 60, 61, 62, 63, 64, 65, 66] (by decide +kernel) (by decide +kernel)
set_option maxRecDepth 20000 in
theorem gX5_light_X5_lightOf : GoodIn wsX5_light (wsV RX5 114 RX5 yX5_lightOf wsX5_lightOf) := goodIn_app (goodIn_of _ (by decide +kernel)) ggX5_light_X5_lightOf
theorem dX5_light_0 : decode cX5_light 0 = .ok (.aload_n 0, 1) := by decide +kernel
theorem dX5_light_1 : decode cX5_light 1 = .ok (.aload_n 0, 1) := by decide +kernel
theorem dX5_light_2 : decode cX5_light 2 = .ok (.iload_n 1, 1) := by decide +kernel
theorem dX5_light_3 : decode cX5_light 3 = .ok (.invokevirtual 108, 3) := by decide +kernel
theorem dX5_light_6 : decode cX5_light 6 = .ok (.ifCond .eq 23, 3) := by decide +kernel
theorem dX5_light_9 : decode cX5_light 9 = .ok (.aload_n 0, 1) := by decide +kernel
theorem dX5_light_10 : decode cX5_light 10 = .ok (.iload_n 2, 1) := by decide +kernel
theorem dX5_light_11 : decode cX5_light 11 = .ok (.invokevirtual 104, 3) := by decide +kernel
theorem dX5_light_14 : decode cX5_light 14 = .ok (.ifCond .eq 15, 3) := by decide +kernel
theorem dX5_light_17 : decode cX5_light 17 = .ok (.aload_n 0, 1) := by decide +kernel
theorem dX5_light_18 : decode cX5_light 18 = .ok (.iload_n 3, 1) := by decide +kernel
theorem dX5_light_19 : decode cX5_light 19 = .ok (.invokevirtual 111, 3) := by decide +kernel
theorem dX5_light_22 : decode cX5_light 22 = .ok (.ifCond .eq 7, 3) := by decide +kernel
theorem dX5_light_25 : decode cX5_light 25 = .ok (.iconst 0, 1) := by decide +kernel
theorem dX5_light_26 : decode cX5_light 26 = .ok (.goto 4, 3) := by decide +kernel
theorem dX5_light_29 : decode cX5_light 29 = .ok (.iconst 1, 1) := by decide +kernel
theorem dX5_light_30 : decode cX5_light 30 = .ok (.putfield 80, 3) := by decide +kernel
theorem dX5_light_33 : decode cX5_light 33 = .ok (.aload_n 0, 1) := by decide +kernel
theorem dX5_light_34 : decode cX5_light 34 = .ok (.getfield 80, 3) := by decide +kernel
theorem dX5_light_37 : decode cX5_light 37 = .ok (.ifCond .le 7, 3) := by decide +kernel
theorem dX5_light_40 : decode cX5_light 40 = .ok (.iconst 0, 1) := by decide +kernel
theorem dX5_light_41 : decode cX5_light 41 = .ok (.goto 10, 3) := by decide +kernel
theorem dX5_light_44 : decode cX5_light 44 = .ok (.aload_n 0, 1) := by decide +kernel
theorem dX5_light_45 : decode cX5_light 45 = .ok (.iload_n 1, 1) := by decide +kernel
theorem dX5_light_46 : decode cX5_light 46 = .ok (.iload_n 2, 1) := by decide +kernel
theorem dX5_light_47 : decode cX5_light 47 = .ok (.iload_n 3, 1) := by decide +kernel
theorem dX5_light_48 : decode cX5_light 48 = .ok (.invokevirtual 114, 3) := by decide +kernel
theorem dX5_light_51 : decode cX5_light 51 = .ok (.ireturn, 1) := by decide +kernel
theorem dX5_firstOf_0 : decode cX5_firstOf 0 = .ok (.aload_n 0, 1) := by decide +kernel
theorem dX5_firstOf_1 : decode cX5_firstOf 1 = .ok (.getfield 28, 3) := by decide +kernel
theorem dX5_firstOf_4 : decode cX5_firstOf 4 = .ok (.iload_n 1, 1) := by decide +kernel
theorem dX5_firstOf_5 : decode cX5_firstOf 5 = .ok (.iaload, 1) := by decide +kernel
theorem dX5_firstOf_6 : decode cX5_firstOf 6 = .ok (.bipush (-2), 2) := by decide +kernel
theorem dX5_firstOf_8 : decode cX5_firstOf 8 = .ok (.if_icmp .ne 7, 3) := by decide +kernel
theorem dX5_firstOf_11 : decode cX5_firstOf 11 = .ok (.iconst (-1), 1) := by decide +kernel
theorem dX5_firstOf_12 : decode cX5_firstOf 12 = .ok (.goto 9, 3) := by decide +kernel
theorem dX5_firstOf_15 : decode cX5_firstOf 15 = .ok (.aload_n 0, 1) := by decide +kernel
theorem dX5_firstOf_16 : decode cX5_firstOf 16 = .ok (.getfield 28, 3) := by decide +kernel
theorem dX5_firstOf_19 : decode cX5_firstOf 19 = .ok (.iload_n 1, 1) := by decide +kernel
theorem dX5_firstOf_20 : decode cX5_firstOf 20 = .ok (.iaload, 1) := by decide +kernel
theorem dX5_firstOf_21 : decode cX5_firstOf 21 = .ok (.ireturn, 1) := by decide +kernel
theorem dX5_addUp_0 : decode cX5_addUp 0 = .ok (.iload_n 1, 1) := by decide +kernel
theorem dX5_addUp_1 : decode cX5_addUp 1 = .ok (.istore_n 2, 1) := by decide +kernel
theorem dX5_addUp_2 : decode cX5_addUp 2 = .ok (.iload_n 2, 1) := by decide +kernel
theorem dX5_addUp_3 : decode cX5_addUp 3 = .ok (.aload_n 0, 1) := by decide +kernel
theorem dX5_addUp_4 : decode cX5_addUp 4 = .ok (.getfield 90, 3) := by decide +kernel
theorem dX5_addUp_7 : decode cX5_addUp 7 = .ok (.if_icmp .ge 115, 3) := by decide +kernel
theorem dX5_addUp_10 : decode cX5_addUp 10 = .ok (.aload_n 0, 1) := by decide +kernel
theorem dX5_addUp_11 : decode cX5_addUp 11 = .ok (.getfield 59, 3) := by decide +kernel
theorem dX5_addUp_14 : decode cX5_addUp 14 = .ok (.iload_n 2, 1) := by decide +kernel
theorem dX5_addUp_15 : decode cX5_addUp 15 = .ok (.iaload, 1) := by decide +kernel
theorem dX5_addUp_16 : decode cX5_addUp 16 = .ok (.istore_n 3, 1) := by decide +kernel
theorem dX5_addUp_17 : decode cX5_addUp 17 = .ok (.aload_n 0, 1) := by decide +kernel
theorem dX5_addUp_18 : decode cX5_addUp 18 = .ok (.getfield 65, 3) := by decide +kernel
theorem dX5_addUp_21 : decode cX5_addUp 21 = .ok (.iload_n 2, 1) := by decide +kernel
theorem dX5_addUp_22 : decode cX5_addUp 22 = .ok (.iconst 1, 1) := by decide +kernel
theorem dX5_addUp_23 : decode cX5_addUp 23 = .ok (.iadd, 1) := by decide +kernel
theorem dX5_addUp_24 : decode cX5_addUp 24 = .ok (.aload_n 0, 1) := by decide +kernel
theorem dX5_addUp_25 : decode cX5_addUp 25 = .ok (.getfield 65, 3) := by decide +kernel
theorem dX5_addUp_28 : decode cX5_addUp 28 = .ok (.iload_n 2, 1) := by decide +kernel
theorem dX5_addUp_29 : decode cX5_addUp 29 = .ok (.iaload, 1) := by decide +kernel
theorem dX5_addUp_30 : decode cX5_addUp 30 = .ok (.iload_n 3, 1) := by decide +kernel
theorem dX5_addUp_31 : decode cX5_addUp 31 = .ok (.ifCond .ge 7, 3) := by decide +kernel
theorem dX5_addUp_34 : decode cX5_addUp 34 = .ok (.iconst 0, 1) := by decide +kernel
theorem dX5_addUp_35 : decode cX5_addUp 35 = .ok (.goto 9, 3) := by decide +kernel
theorem dX5_addUp_38 : decode cX5_addUp 38 = .ok (.aload_n 0, 1) := by decide +kernel
theorem dX5_addUp_39 : decode cX5_addUp 39 = .ok (.getfield 13, 3) := by decide +kernel
theorem dX5_addUp_42 : decode cX5_addUp 42 = .ok (.iload_n 3, 1) := by decide +kernel
theorem dX5_addUp_43 : decode cX5_addUp 43 = .ok (.iaload, 1) := by decide +kernel
theorem dX5_addUp_44 : decode cX5_addUp 44 = .ok (.iadd, 1) := by decide +kernel
theorem dX5_addUp_45 : decode cX5_addUp 45 = .ok (.iastore, 1) := by decide +kernel
theorem dX5_addUp_46 : decode cX5_addUp 46 = .ok (.iconst 0, 1) := by decide +kernel
theorem dX5_addUp_47 : decode cX5_addUp 47 = .ok (.istore 4, 2) := by decide +kernel
theorem dX5_addUp_49 : decode cX5_addUp 49 = .ok (.iload 4, 2) := by decide +kernel
theorem dX5_addUp_51 : decode cX5_addUp 51 = .ok (.aload_n 0, 1) := by decide +kernel
theorem dX5_addUp_52 : decode cX5_addUp 52 = .ok (.getfield 93, 3) := by decide +kernel
theorem dX5_addUp_55 : decode cX5_addUp 55 = .ok (.if_icmp .ge 61, 3) := by decide +kernel
theorem dX5_addUp_58 : decode cX5_addUp 58 = .ok (.aload_n 0, 1) := by decide +kernel
theorem dX5_addUp_59 : decode cX5_addUp 59 = .ok (.getfield 62, 3) := by decide +kernel
theorem dX5_addUp_62 : decode cX5_addUp 62 = .ok (.bipush 16, 2) := by decide +kernel
theorem dX5_addUp_64 : decode cX5_addUp 64 = .ok (.iload_n 2, 1) := by decide +kernel
theorem dX5_addUp_65 : decode cX5_addUp 65 = .ok (.iconst 1, 1) := by decide +kernel
theorem dX5_addUp_66 : decode cX5_addUp 66 = .ok (.iadd, 1) := by decide +kernel
theorem dX5_addUp_67 : decode cX5_addUp 67 = .ok (.imul, 1) := by decide +kernel
theorem dX5_addUp_68 : decode cX5_addUp 68 = .ok (.iload 4, 2) := by decide +kernel
theorem dX5_addUp_70 : decode cX5_addUp 70 = .ok (.iadd, 1) := by decide +kernel
theorem dX5_addUp_71 : decode cX5_addUp 71 = .ok (.aload_n 0, 1) := by decide +kernel
theorem dX5_addUp_72 : decode cX5_addUp 72 = .ok (.getfield 62, 3) := by decide +kernel
theorem dX5_addUp_75 : decode cX5_addUp 75 = .ok (.bipush 16, 2) := by decide +kernel
theorem dX5_addUp_77 : decode cX5_addUp 77 = .ok (.iload_n 2, 1) := by decide +kernel
theorem dX5_addUp_78 : decode cX5_addUp 78 = .ok (.imul, 1) := by decide +kernel
theorem dX5_addUp_79 : decode cX5_addUp 79 = .ok (.iload 4, 2) := by decide +kernel
theorem dX5_addUp_81 : decode cX5_addUp 81 = .ok (.iadd, 1) := by decide +kernel
theorem dX5_addUp_82 : decode cX5_addUp 82 = .ok (.iaload, 1) := by decide +kernel
theorem dX5_addUp_83 : decode cX5_addUp 83 = .ok (.iload_n 3, 1) := by decide +kernel
theorem dX5_addUp_84 : decode cX5_addUp 84 = .ok (.ifCond .ge 7, 3) := by decide +kernel
theorem dX5_addUp_87 : decode cX5_addUp 87 = .ok (.iconst 0, 1) := by decide +kernel
theorem dX5_addUp_88 : decode cX5_addUp 88 = .ok (.goto 20, 3) := by decide +kernel
theorem dX5_addUp_91 : decode cX5_addUp 91 = .ok (.aload_n 0, 1) := by decide +kernel
theorem dX5_addUp_92 : decode cX5_addUp 92 = .ok (.getfield 68, 3) := by decide +kernel
theorem dX5_addUp_95 : decode cX5_addUp 95 = .ok (.bipush 112, 2) := by decide +kernel
theorem dX5_addUp_97 : decode cX5_addUp 97 = .ok (.iload_n 3, 1) := by decide +kernel
theorem dX5_addUp_98 : decode cX5_addUp 98 = .ok (.imul, 1) := by decide +kernel
theorem dX5_addUp_99 : decode cX5_addUp 99 = .ok (.bipush 16, 2) := by decide +kernel
theorem dX5_addUp_101 : decode cX5_addUp 101 = .ok (.iload_n 2, 1) := by decide +kernel
theorem dX5_addUp_102 : decode cX5_addUp 102 = .ok (.imul, 1) := by decide +kernel
theorem dX5_addUp_103 : decode cX5_addUp 103 = .ok (.iadd, 1) := by decide +kernel
theorem dX5_addUp_104 : decode cX5_addUp 104 = .ok (.iload 4, 2) := by decide +kernel
theorem dX5_addUp_106 : decode cX5_addUp 106 = .ok (.iadd, 1) := by decide +kernel
theorem dX5_addUp_107 : decode cX5_addUp 107 = .ok (.iaload, 1) := by decide +kernel
theorem dX5_addUp_108 : decode cX5_addUp 108 = .ok (.iadd, 1) := by decide +kernel
theorem dX5_addUp_109 : decode cX5_addUp 109 = .ok (.iastore, 1) := by decide +kernel
theorem dX5_addUp_110 : decode cX5_addUp 110 = .ok (.iinc 4 1, 3) := by decide +kernel
theorem dX5_addUp_113 : decode cX5_addUp 113 = .ok (.goto (-64), 3) := by decide +kernel
theorem dX5_addUp_116 : decode cX5_addUp 116 = .ok (.iinc 2 1, 3) := by decide +kernel
theorem dX5_addUp_119 : decode cX5_addUp 119 = .ok (.goto (-117), 3) := by decide +kernel
theorem dX5_addUp_122 : decode cX5_addUp 122 = .ok (.return_, 1) := by decide +kernel
set_option maxRecDepth 20000 in
theorem ggX5_nextChoice_X5_firstOf : GoodIn wsX5_nextChoice wsX5_firstOf := goodIn_r _ [9, 2, 10, 11, 12, 13, 14, 15, 16, 17, 18, 19, 20, 21, 22, 23, 24, 25, 26, 27, 28, 29, 30, 31, 32, 33, 34, 35, 36, 37, 38, 39, 40, 41, 42, 43, 44, 45] (by decide +kernel) (by decide +kernel)
set_option maxRecDepth 20000 in
theorem gX5_nextChoice_X5_firstOf : GoodIn wsX5_nextChoice (wsV RX5 118 RX5 yX5_firstOf wsX5_firstOf) := goodIn_app (goodIn_of _ (by decide +kernel)) ggX5_nextChoice_X5_firstOf
theorem dX5_nextChoice_0 : decode cX5_nextChoice 0 = .ok (.aload_n 0, 1) := by decide +kernel
theorem dX5_nextChoice_1 : decode cX5_nextChoice 1 = .ok (.getfield 90, 3) := by decide +kernel
theorem dX5_nextChoice_4 : decode cX5_nextChoice 4 = .ok (.iconst 1, 1) := by decide +kernel
theorem dX5_nextChoice_5 : decode cX5_nextChoice 5 = .ok (.isub, 1) := by decide +kernel
theorem dX5_nextChoice_6 : decode cX5_nextChoice 6 = .ok (.istore_n 1, 1) := by decide +kernel
theorem dX5_nextChoice_7 : decode cX5_nextChoice 7 = .ok (.iload_n 1, 1) := by decide +kernel
theorem dX5_nextChoice_8 : decode cX5_nextChoice 8 = .ok (.ifCond .lt 58, 3) := by decide +kernel
theorem dX5_nextChoice_11 : decode cX5_nextChoice 11 = .ok (.aload_n 0, 1) := by decide +kernel
theorem dX5_nextChoice_12 : decode cX5_nextChoice 12 = .ok (.getfield 28, 3) := by decide +kernel
theorem dX5_nextChoice_15 : decode cX5_nextChoice 15 = .ok (.iload_n 1, 1) := by decide +kernel
theorem dX5_nextChoice_16 : decode cX5_nextChoice 16 = .ok (.iaload, 1) := by decide +kernel
theorem dX5_nextChoice_17 : decode cX5_nextChoice 17 = .ok (.bipush (-2), 2) := by decide +kernel
theorem dX5_nextChoice_19 : decode cX5_nextChoice 19 = .ok (.if_icmp .ne 30, 3) := by decide +kernel
theorem dX5_nextChoice_22 : decode cX5_nextChoice 22 = .ok (.aload_n 0, 1) := by decide +kernel
theorem dX5_nextChoice_23 : decode cX5_nextChoice 23 = .ok (.getfield 59, 3) := by decide +kernel
theorem dX5_nextChoice_26 : decode cX5_nextChoice 26 = .ok (.iload_n 1, 1) := by decide +kernel
theorem dX5_nextChoice_27 : decode cX5_nextChoice 27 = .ok (.iaload, 1) := by decide +kernel
theorem dX5_nextChoice_28 : decode cX5_nextChoice 28 = .ok (.aload_n 0, 1) := by decide +kernel
theorem dX5_nextChoice_29 : decode cX5_nextChoice 29 = .ok (.getfield 83, 3) := by decide +kernel
theorem dX5_nextChoice_32 : decode cX5_nextChoice 32 = .ok (.iconst 1, 1) := by decide +kernel
theorem dX5_nextChoice_33 : decode cX5_nextChoice 33 = .ok (.isub, 1) := by decide +kernel
theorem dX5_nextChoice_34 : decode cX5_nextChoice 34 = .ok (.if_icmp .ge 15, 3) := by decide +kernel
theorem dX5_nextChoice_37 : decode cX5_nextChoice 37 = .ok (.aload_n 0, 1) := by decide +kernel
theorem dX5_nextChoice_38 : decode cX5_nextChoice 38 = .ok (.getfield 59, 3) := by decide +kernel
theorem dX5_nextChoice_41 : decode cX5_nextChoice 41 = .ok (.iload_n 1, 1) := by decide +kernel
theorem dX5_nextChoice_42 : decode cX5_nextChoice 42 = .ok (.dup2, 1) := by decide +kernel
theorem dX5_nextChoice_43 : decode cX5_nextChoice 43 = .ok (.iaload, 1) := by decide +kernel
theorem dX5_nextChoice_44 : decode cX5_nextChoice 44 = .ok (.iconst 1, 1) := by decide +kernel
theorem dX5_nextChoice_45 : decode cX5_nextChoice 45 = .ok (.iadd, 1) := by decide +kernel
theorem dX5_nextChoice_46 : decode cX5_nextChoice 46 = .ok (.iastore, 1) := by decide +kernel
theorem dX5_nextChoice_47 : decode cX5_nextChoice 47 = .ok (.iload_n 1, 1) := by decide +kernel
theorem dX5_nextChoice_48 : decode cX5_nextChoice 48 = .ok (.ireturn, 1) := by decide +kernel
theorem dX5_nextChoice_49 : decode cX5_nextChoice 49 = .ok (.aload_n 0, 1) := by decide +kernel
theorem dX5_nextChoice_50 : decode cX5_nextChoice 50 = .ok (.getfield 59, 3) := by decide +kernel
theorem dX5_nextChoice_53 : decode cX5_nextChoice 53 = .ok (.iload_n 1, 1) := by decide +kernel
theorem dX5_nextChoice_54 : decode cX5_nextChoice 54 = .ok (.aload_n 0, 1) := by decide +kernel
theorem dX5_nextChoice_55 : decode cX5_nextChoice 55 = .ok (.iload_n 1, 1) := by decide +kernel
theorem dX5_nextChoice_56 : decode cX5_nextChoice 56 = .ok (.invokevirtual 118, 3) := by decide +kernel
theorem dX5_nextChoice_59 : decode cX5_nextChoice 59 = .ok (.iastore, 1) := by decide +kernel
theorem dX5_nextChoice_60 : decode cX5_nextChoice 60 = .ok (.iinc 1 (-1), 3) := by decide +kernel
theorem dX5_nextChoice_63 : decode cX5_nextChoice 63 = .ok (.goto (-56), 3) := by decide +kernel
theorem dX5_nextChoice_66 : decode cX5_nextChoice 66 = .ok (.iconst (-1), 1) := by decide +kernel
theorem dX5_nextChoice_67 : decode cX5_nextChoice 67 = .ok (.ireturn, 1) := by decide +kernel
theorem dX5_look_0 : decode cX5_look 0 = .ok (.aload_n 0, 1) := by decide +kernel
theorem dX5_look_1 : decode cX5_look 1 = .ok (.getfield 65, 3) := by decide +kernel
theorem dX5_look_4 : decode cX5_look 4 = .ok (.aload_n 0, 1) := by decide +kernel
theorem dX5_look_5 : decode cX5_look 5 = .ok (.getfield 90, 3) := by decide +kernel
theorem dX5_look_8 : decode cX5_look 8 = .ok (.iaload, 1) := by decide +kernel
theorem dX5_look_9 : decode cX5_look 9 = .ok (.istore_n 1, 1) := by decide +kernel
theorem dX5_look_10 : decode cX5_look 10 = .ok (.aload_n 0, 1) := by decide +kernel
theorem dX5_look_11 : decode cX5_look 11 = .ok (.getfield 122, 3) := by decide +kernel
theorem dX5_look_14 : decode cX5_look 14 = .ok (.ifCond .eq 12, 3) := by decide +kernel
theorem dX5_look_17 : decode cX5_look 17 = .ok (.iload_n 1, 1) := by decide +kernel
theorem dX5_look_18 : decode cX5_look 18 = .ok (.aload_n 0, 1) := by decide +kernel
theorem dX5_look_19 : decode cX5_look 19 = .ok (.getfield 125, 3) := by decide +kernel
theorem dX5_look_22 : decode cX5_look 22 = .ok (.if_icmp .le 4, 3) := by decide +kernel
theorem dX5_look_25 : decode cX5_look 25 = .ok (.return_, 1) := by decide +kernel
theorem dX5_look_26 : decode cX5_look 26 = .ok (.lconst 0, 1) := by decide +kernel
theorem dX5_look_27 : decode cX5_look 27 = .ok (.lstore_n 2, 1) := by decide +kernel
theorem dX5_look_28 : decode cX5_look 28 = .ok (.lconst 0, 1) := by decide +kernel
theorem dX5_look_29 : decode cX5_look 29 = .ok (.lstore 4, 2) := by decide +kernel
theorem dX5_look_31 : decode cX5_look 31 = .ok (.iconst 0, 1) := by decide +kernel
theorem dX5_look_32 : decode cX5_look 32 = .ok (.istore 6, 2) := by decide +kernel
theorem dX5_look_34 : decode cX5_look 34 = .ok (.iload 6, 2) := by decide +kernel
theorem dX5_look_36 : decode cX5_look 36 = .ok (.aload_n 0, 1) := by decide +kernel
theorem dX5_look_37 : decode cX5_look 37 = .ok (.getfield 93, 3) := by decide +kernel
theorem dX5_look_40 : decode cX5_look 40 = .ok (.if_icmp .ge 68, 3) := by decide +kernel
theorem dX5_look_43 : decode cX5_look 43 = .ok (.aload_n 0, 1) := by decide +kernel
theorem dX5_look_44 : decode cX5_look 44 = .ok (.getfield 62, 3) := by decide +kernel
theorem dX5_look_47 : decode cX5_look 47 = .ok (.bipush 16, 2) := by decide +kernel
theorem dX5_look_49 : decode cX5_look 49 = .ok (.aload_n 0, 1) := by decide +kernel
theorem dX5_look_50 : decode cX5_look 50 = .ok (.getfield 90, 3) := by decide +kernel
theorem dX5_look_53 : decode cX5_look 53 = .ok (.imul, 1) := by decide +kernel
theorem dX5_look_54 : decode cX5_look 54 = .ok (.iload 6, 2) := by decide +kernel
theorem dX5_look_56 : decode cX5_look 56 = .ok (.iadd, 1) := by decide +kernel
theorem dX5_look_57 : decode cX5_look 57 = .ok (.iaload, 1) := by decide +kernel
theorem dX5_look_58 : decode cX5_look 58 = .ok (.istore 7, 2) := by decide +kernel
theorem dX5_look_60 : decode cX5_look 60 = .ok (.iload 7, 2) := by decide +kernel
theorem dX5_look_62 : decode cX5_look 62 = .ok (.aload_n 0, 1) := by decide +kernel
theorem dX5_look_63 : decode cX5_look 63 = .ok (.getfield 40, 3) := by decide +kernel
theorem dX5_look_66 : decode cX5_look 66 = .ok (.iload 6, 2) := by decide +kernel
theorem dX5_look_68 : decode cX5_look 68 = .ok (.iaload, 1) := by decide +kernel
theorem dX5_look_69 : decode cX5_look 69 = .ok (.if_icmp .ge 4, 3) := by decide +kernel
theorem dX5_look_72 : decode cX5_look 72 = .ok (.return_, 1) := by decide +kernel
theorem dX5_look_73 : decode cX5_look 73 = .ok (.iload 6, 2) := by decide +kernel
theorem dX5_look_75 : decode cX5_look 75 = .ok (.ifCond .eq 11, 3) := by decide +kernel
theorem dX5_look_78 : decode cX5_look 78 = .ok (.iload 7, 2) := by decide +kernel
theorem dX5_look_80 : decode cX5_look 80 = .ok (.i2l, 1) := by decide +kernel
theorem dX5_look_81 : decode cX5_look 81 = .ok (.lload_n 2, 1) := by decide +kernel
theorem dX5_look_82 : decode cX5_look 82 = .ok (.lcmp, 1) := by decide +kernel
theorem dX5_look_83 : decode cX5_look 83 = .ok (.ifCond .ge 9, 3) := by decide +kernel
theorem dX5_look_86 : decode cX5_look 86 = .ok (.iload 7, 2) := by decide +kernel
theorem dX5_look_88 : decode cX5_look 88 = .ok (.i2l, 1) := by decide +kernel
theorem dX5_look_89 : decode cX5_look 89 = .ok (.goto 4, 3) := by decide +kernel
theorem dX5_look_92 : decode cX5_look 92 = .ok (.lload_n 2, 1) := by decide +kernel
theorem dX5_look_93 : decode cX5_look 93 = .ok (.lstore_n 2, 1) := by decide +kernel
theorem dX5_look_94 : decode cX5_look 94 = .ok (.lload 4, 2) := by decide +kernel
theorem dX5_look_96 : decode cX5_look 96 = .ok (.iload 7, 2) := by decide +kernel
theorem dX5_look_98 : decode cX5_look 98 = .ok (.i2l, 1) := by decide +kernel
theorem dX5_look_99 : decode cX5_look 99 = .ok (.ladd, 1) := by decide +kernel
theorem dX5_look_100 : decode cX5_look 100 = .ok (.lstore 4, 2) := by decide +kernel
theorem dX5_look_102 : decode cX5_look 102 = .ok (.iinc 6 1, 3) := by decide +kernel
theorem dX5_look_105 : decode cX5_look 105 = .ok (.goto (-71), 3) := by decide +kernel
theorem dX5_look_108 : decode cX5_look 108 = .ok (.lload_n 2, 1) := by decide +kernel
theorem dX5_look_109 : decode cX5_look 109 = .ok (.aload_n 0, 1) := by decide +kernel
theorem dX5_look_110 : decode cX5_look 110 = .ok (.getfield 93, 3) := by decide +kernel
theorem dX5_look_113 : decode cX5_look 113 = .ok (.i2l, 1) := by decide +kernel
theorem dX5_look_114 : decode cX5_look 114 = .ok (.lmul, 1) := by decide +kernel
theorem dX5_look_115 : decode cX5_look 115 = .ok (.lstore_n 2, 1) := by decide +kernel
theorem dX5_look_116 : decode cX5_look 116 = .ok (.lload 4, 2) := by decide +kernel
theorem dX5_look_118 : decode cX5_look 118 = .ok (.lconst 0, 1) := by decide +kernel
theorem dX5_look_119 : decode cX5_look 119 = .ok (.lcmp, 1) := by decide +kernel
theorem dX5_look_120 : decode cX5_look 120 = .ok (.ifCond .ne 7, 3) := by decide +kernel
theorem dX5_look_123 : decode cX5_look 123 = .ok (.lconst 1, 1) := by decide +kernel
theorem dX5_look_124 : decode cX5_look 124 = .ok (.goto 5, 3) := by decide +kernel
theorem dX5_look_127 : decode cX5_look 127 = .ok (.lload 4, 2) := by decide +kernel
theorem dX5_look_129 : decode cX5_look 129 = .ok (.lstore 4, 2) := by decide +kernel
theorem dX5_look_131 : decode cX5_look 131 = .ok (.aload_n 0, 1) := by decide +kernel
theorem dX5_look_132 : decode cX5_look 132 = .ok (.getfield 122, 3) := by decide +kernel
theorem dX5_look_135 : decode cX5_look 135 = .ok (.ifCond .eq 28, 3) := by decide +kernel
theorem dX5_look_138 : decode cX5_look 138 = .ok (.iload_n 1, 1) := by decide +kernel
theorem dX5_look_139 : decode cX5_look 139 = .ok (.aload_n 0, 1) := by decide +kernel
theorem dX5_look_140 : decode cX5_look 140 = .ok (.getfield 125, 3) := by decide +kernel
theorem dX5_look_143 : decode cX5_look 143 = .ok (.if_icmp .lt 20, 3) := by decide +kernel
theorem dX5_look_146 : decode cX5_look 146 = .ok (.lload_n 2, 1) := by decide +kernel
theorem dX5_look_147 : decode cX5_look 147 = .ok (.aload_n 0, 1) := by decide +kernel
theorem dX5_look_148 : decode cX5_look 148 = .ok (.getfield 128, 3) := by decide +kernel
theorem dX5_look_151 : decode cX5_look 151 = .ok (.lmul, 1) := by decide +kernel
theorem dX5_look_152 : decode cX5_look 152 = .ok (.aload_n 0, 1) := by decide +kernel
theorem dX5_look_153 : decode cX5_look 153 = .ok (.getfield 132, 3) := by decide +kernel
theorem dX5_look_156 : decode cX5_look 156 = .ok (.lload 4, 2) := by decide +kernel
theorem dX5_look_158 : decode cX5_look 158 = .ok (.lmul, 1) := by decide +kernel
theorem dX5_look_159 : decode cX5_look 159 = .ok (.lcmp, 1) := by decide +kernel
theorem dX5_look_160 : decode cX5_look 160 = .ok (.ifCond .le 56, 3) := by decide +kernel
theorem dX5_look_163 : decode cX5_look 163 = .ok (.aload_n 0, 1) := by decide +kernel
theorem dX5_look_164 : decode cX5_look 164 = .ok (.iconst 1, 1) := by decide +kernel
theorem dX5_look_165 : decode cX5_look 165 = .ok (.putfield 122, 3) := by decide +kernel
theorem dX5_look_168 : decode cX5_look 168 = .ok (.aload_n 0, 1) := by decide +kernel
theorem dX5_look_169 : decode cX5_look 169 = .ok (.iload_n 1, 1) := by decide +kernel
theorem dX5_look_170 : decode cX5_look 170 = .ok (.putfield 125, 3) := by decide +kernel
theorem dX5_look_173 : decode cX5_look 173 = .ok (.aload_n 0, 1) := by decide +kernel
theorem dX5_look_174 : decode cX5_look 174 = .ok (.lload_n 2, 1) := by decide +kernel
theorem dX5_look_175 : decode cX5_look 175 = .ok (.putfield 132, 3) := by decide +kernel
theorem dX5_look_178 : decode cX5_look 178 = .ok (.aload_n 0, 1) := by decide +kernel
theorem dX5_look_179 : decode cX5_look 179 = .ok (.lload 4, 2) := by decide +kernel
theorem dX5_look_181 : decode cX5_look 181 = .ok (.putfield 128, 3) := by decide +kernel
theorem dX5_look_184 : decode cX5_look 184 = .ok (.iconst 0, 1) := by decide +kernel
theorem dX5_look_185 : decode cX5_look 185 = .ok (.istore 6, 2) := by decide +kernel
theorem dX5_look_187 : decode cX5_look 187 = .ok (.iload 6, 2) := by decide +kernel
theorem dX5_look_189 : decode cX5_look 189 = .ok (.aload_n 0, 1) := by decide +kernel
theorem dX5_look_190 : decode cX5_look 190 = .ok (.getfield 90, 3) := by decide +kernel
theorem dX5_look_193 : decode cX5_look 193 = .ok (.if_icmp .ge 23, 3) := by decide +kernel
theorem dX5_look_196 : decode cX5_look 196 = .ok (.aload_n 0, 1) := by decide +kernel
theorem dX5_look_197 : decode cX5_look 197 = .ok (.getfield 56, 3) := by decide +kernel
theorem dX5_look_200 : decode cX5_look 200 = .ok (.iload 6, 2) := by decide +kernel
theorem dX5_look_202 : decode cX5_look 202 = .ok (.aload_n 0, 1) := by decide +kernel
theorem dX5_look_203 : decode cX5_look 203 = .ok (.getfield 59, 3) := by decide +kernel
theorem dX5_look_206 : decode cX5_look 206 = .ok (.iload 6, 2) := by decide +kernel
theorem dX5_look_208 : decode cX5_look 208 = .ok (.iaload, 1) := by decide +kernel
theorem dX5_look_209 : decode cX5_look 209 = .ok (.iastore, 1) := by decide +kernel
theorem dX5_look_210 : decode cX5_look 210 = .ok (.iinc 6 1, 3) := by decide +kernel
theorem dX5_look_213 : decode cX5_look 213 = .ok (.goto (-26), 3) := by decide +kernel
theorem dX5_look_216 : decode cX5_look 216 = .ok (.return_, 1) := by decide +kernel
set_option maxRecDepth 20000 in
theorem ggX5_findBest_X5_lightOf : GoodIn wsX5_findBest wsX5_lightOf := goodIn_r _ [13, 14, 15, 16, 17, 18, 19, 44, 45, 46, 47, 48, 49, 50, 51, 52, 53, 54, 55, 56, 57, 58, 59, 60, 61, 62, 63, 64, 65, 66, 67, 68, 69, 70, 71, 72, 73, 74, 75, 76, 77, 78, 79] (by decide +kernel) (by decide +kernel)
set_option maxRecDepth 20000 in
theorem gX5_findBest_X5_lightOf : GoodIn wsX5_findBest (wsV RX5 114 RX5 yX5_lightOf wsX5_lightOf) := goodIn_app (goodIn_of _ (by decide +kernel)) ggX5_findBest_X5_lightOf
set_option maxRecDepth 20000 in
theorem ggX5_findBest_X5_firstOf : GoodIn wsX5_findBest wsX5_firstOf := goodIn_r _ [23, 24, 44, 45, 46, 47, 48, 49, 50, 51, 52, 53, 54, 55, 56, 57, 58, 59, 60, 61, 62, 63, 64, 65, 66, 67, 68, 69, 70, 71, 72, 73, 74, 75, 76, 77, 78, 79] (by decide +kernel) (by decide +kernel)
set_option maxRecDepth 20000 in
theorem gX5_findBest_X5_firstOf : GoodIn wsX5_findBest (wsV RX5 118 RX5 yX5_firstOf wsX5_firstOf) := goodIn_app (goodIn_of _ (by decide +kernel)) ggX5_findBest_X5_firstOf
set_option maxRecDepth 20000 in
theorem ggX5_findBest_X5_addUp : GoodIn wsX5_findBest wsX5_addUp := goodIn_r _ [28, 4, 8, 29, 30, 5, 7, 6, 44, 45, 46, 47, 48, 49, 50, 51, 52, 53, 54, 55, 56, 57, 58, 59, 60, 61, 62, 63, 64, 65, 66, 67, 68, 69, 70, 71, 72, 73, 74, 75, 76, 77, 78, 79] (by decide +kernel) (by decide +kernel)
set_option maxRecDepth 20000 in
theorem gX5_findBest_X5_addUp : GoodIn wsX5_findBest (wsV RX5 135 RX5 yX5_addUp wsX5_addUp) := goodIn_app (goodIn_of _ (by decide +kernel)) ggX5_findBest_X5_addUp
set_option maxRecDepth 20000 in
theorem ggX5_findBest_X5_look : GoodIn wsX5_findBest wsX5_look := goodIn_r _ [34, 29, 4, 2, 35, 5, 7, 36, 37, 38, 39, 8, 44, 45, 46, 47, 48, 49, 50, 51, 52, 53, 54, 55, 56, 57, 58, 59, 60, 61, 62, 63, 64, 65, 66, 67, 68, 69, 70, 71, 72, 73, 74, 75, 76, 77, 78, 79] (by decide +kernel) (by decide +kernel)
set_option maxRecDepth 20000 in
theorem gX5_findBest_X5_look : GoodIn wsX5_findBest (wsV RX5 139 RX5 yX5_look wsX5_look) := goodIn_app (goodIn_of _ (by decide +kernel)) ggX5_findBest_X5_look
set_option maxRecDepth 20000 in
theorem ggX5_findBest_X5_nextChoice : GoodIn wsX5_findBest wsX5_nextChoice := goodIn_r _ [43, 4, 24, 8, 3, 20, 21, 22, 12, 23, 44, 45, 46, 47, 48, 49, 50, 51, 52, 53, 54, 55, 56, 57, 58, 59, 60, 61, 62, 63, 64, 65, 66, 67, 68, 69, 70, 71, 72, 73, 74, 75, 76, 77, 78, 79] (by decide +kernel) (by decide +kernel)
set_option maxRecDepth 20000 in
theorem gX5_findBest_X5_nextChoice : GoodIn wsX5_findBest (wsV RX5 142 RX5 yX5_nextChoice wsX5_nextChoice) := goodIn_app (goodIn_of _ (by decide +kernel)) ggX5_findBest_X5_nextChoice
theorem dX5_findBest_0 : decode cX5_findBest 0 = .ok (.aload_n 0, 1) := by decide +kernel
theorem dX5_findBest_1 : decode cX5_findBest 1 = .ok (.getfield 96, 3) := by decide +kernel
theorem dX5_findBest_4 : decode cX5_findBest 4 = .ok (.ifCond .eq 4, 3) := by decide +kernel
theorem dX5_findBest_7 : decode cX5_findBest 7 = .ok (.return_, 1) := by decide +kernel
theorem dX5_findBest_8 : decode cX5_findBest 8 = .ok (.aload_n 0, 1) := by decide +kernel
theorem dX5_findBest_9 : decode cX5_findBest 9 = .ok (.iconst 1, 1) := by decide +kernel
theorem dX5_findBest_10 : decode cX5_findBest 10 = .ok (.putfield 96, 3) := by decide +kernel
theorem dX5_findBest_13 : decode cX5_findBest 13 = .ok (.aload_n 0, 1) := by decide +kernel
theorem dX5_findBest_14 : decode cX5_findBest 14 = .ok (.iconst 0, 1) := by decide +kernel
theorem dX5_findBest_15 : decode cX5_findBest 15 = .ok (.putfield 122, 3) := by decide +kernel
theorem dX5_findBest_18 : decode cX5_findBest 18 = .ok (.iconst 0, 1) := by decide +kernel
theorem dX5_findBest_19 : decode cX5_findBest 19 = .ok (.istore_n 1, 1) := by decide +kernel
theorem dX5_findBest_20 : decode cX5_findBest 20 = .ok (.iload_n 1, 1) := by decide +kernel
theorem dX5_findBest_21 : decode cX5_findBest 21 = .ok (.aload_n 0, 1) := by decide +kernel
theorem dX5_findBest_22 : decode cX5_findBest 22 = .ok (.getfield 83, 3) := by decide +kernel
theorem dX5_findBest_25 : decode cX5_findBest 25 = .ok (.if_icmp .ge 64, 3) := by decide +kernel
theorem dX5_findBest_28 : decode cX5_findBest 28 = .ok (.iconst 0, 1) := by decide +kernel
theorem dX5_findBest_29 : decode cX5_findBest 29 = .ok (.istore_n 2, 1) := by decide +kernel
theorem dX5_findBest_30 : decode cX5_findBest 30 = .ok (.iload_n 2, 1) := by decide +kernel
theorem dX5_findBest_31 : decode cX5_findBest 31 = .ok (.aload_n 0, 1) := by decide +kernel
theorem dX5_findBest_32 : decode cX5_findBest 32 = .ok (.getfield 90, 3) := by decide +kernel
theorem dX5_findBest_35 : decode cX5_findBest 35 = .ok (.if_icmp .ge 48, 3) := by decide +kernel
theorem dX5_findBest_38 : decode cX5_findBest 38 = .ok (.iconst 0, 1) := by decide +kernel
theorem dX5_findBest_39 : decode cX5_findBest 39 = .ok (.istore_n 3, 1) := by decide +kernel
theorem dX5_findBest_40 : decode cX5_findBest 40 = .ok (.iload_n 3, 1) := by decide +kernel
theorem dX5_findBest_41 : decode cX5_findBest 41 = .ok (.aload_n 0, 1) := by decide +kernel
theorem dX5_findBest_42 : decode cX5_findBest 42 = .ok (.getfield 93, 3) := by decide +kernel
theorem dX5_findBest_45 : decode cX5_findBest 45 = .ok (.if_icmp .ge 32, 3) := by decide +kernel
theorem dX5_findBest_48 : decode cX5_findBest 48 = .ok (.aload_n 0, 1) := by decide +kernel
theorem dX5_findBest_49 : decode cX5_findBest 49 = .ok (.getfield 68, 3) := by decide +kernel
theorem dX5_findBest_52 : decode cX5_findBest 52 = .ok (.bipush 112, 2) := by decide +kernel
theorem dX5_findBest_54 : decode cX5_findBest 54 = .ok (.iload_n 1, 1) := by decide +kernel
theorem dX5_findBest_55 : decode cX5_findBest 55 = .ok (.imul, 1) := by decide +kernel
theorem dX5_findBest_56 : decode cX5_findBest 56 = .ok (.bipush 16, 2) := by decide +kernel
theorem dX5_findBest_58 : decode cX5_findBest 58 = .ok (.iload_n 2, 1) := by decide +kernel
theorem dX5_findBest_59 : decode cX5_findBest 59 = .ok (.imul, 1) := by decide +kernel
theorem dX5_findBest_60 : decode cX5_findBest 60 = .ok (.iadd, 1) := by decide +kernel
theorem dX5_findBest_61 : decode cX5_findBest 61 = .ok (.iload_n 3, 1) := by decide +kernel
theorem dX5_findBest_62 : decode cX5_findBest 62 = .ok (.iadd, 1) := by decide +kernel
theorem dX5_findBest_63 : decode cX5_findBest 63 = .ok (.aload_n 0, 1) := by decide +kernel
theorem dX5_findBest_64 : decode cX5_findBest 64 = .ok (.iload_n 1, 1) := by decide +kernel
theorem dX5_findBest_65 : decode cX5_findBest 65 = .ok (.iload_n 2, 1) := by decide +kernel
theorem dX5_findBest_66 : decode cX5_findBest 66 = .ok (.iload_n 3, 1) := by decide +kernel
theorem dX5_findBest_67 : decode cX5_findBest 67 = .ok (.invokevirtual 114, 3) := by decide +kernel
theorem dX5_findBest_70 : decode cX5_findBest 70 = .ok (.iastore, 1) := by decide +kernel
theorem dX5_findBest_71 : decode cX5_findBest 71 = .ok (.iinc 3 1, 3) := by decide +kernel
theorem dX5_findBest_74 : decode cX5_findBest 74 = .ok (.goto (-34), 3) := by decide +kernel
theorem dX5_findBest_77 : decode cX5_findBest 77 = .ok (.iinc 2 1, 3) := by decide +kernel
theorem dX5_findBest_80 : decode cX5_findBest 80 = .ok (.goto (-50), 3) := by decide +kernel
theorem dX5_findBest_83 : decode cX5_findBest 83 = .ok (.iinc 1 1, 3) := by decide +kernel
theorem dX5_findBest_86 : decode cX5_findBest 86 = .ok (.goto (-66), 3) := by decide +kernel
theorem dX5_findBest_89 : decode cX5_findBest 89 = .ok (.iconst 0, 1) := by decide +kernel
theorem dX5_findBest_90 : decode cX5_findBest 90 = .ok (.istore_n 1, 1) := by decide +kernel
theorem dX5_findBest_91 : decode cX5_findBest 91 = .ok (.iload_n 1, 1) := by decide +kernel
theorem dX5_findBest_92 : decode cX5_findBest 92 = .ok (.bipush 16, 2) := by decide +kernel
theorem dX5_findBest_94 : decode cX5_findBest 94 = .ok (.if_icmp .ge 16, 3) := by decide +kernel
theorem dX5_findBest_97 : decode cX5_findBest 97 = .ok (.aload_n 0, 1) := by decide +kernel
theorem dX5_findBest_98 : decode cX5_findBest 98 = .ok (.getfield 62, 3) := by decide +kernel
theorem dX5_findBest_101 : decode cX5_findBest 101 = .ok (.iload_n 1, 1) := by decide +kernel
theorem dX5_findBest_102 : decode cX5_findBest 102 = .ok (.iconst 0, 1) := by decide +kernel
theorem dX5_findBest_103 : decode cX5_findBest 103 = .ok (.iastore, 1) := by decide +kernel
theorem dX5_findBest_104 : decode cX5_findBest 104 = .ok (.iinc 1 1, 3) := by decide +kernel
theorem dX5_findBest_107 : decode cX5_findBest 107 = .ok (.goto (-16), 3) := by decide +kernel
theorem dX5_findBest_110 : decode cX5_findBest 110 = .ok (.iconst 0, 1) := by decide +kernel
theorem dX5_findBest_111 : decode cX5_findBest 111 = .ok (.istore_n 1, 1) := by decide +kernel
theorem dX5_findBest_112 : decode cX5_findBest 112 = .ok (.iload_n 1, 1) := by decide +kernel
theorem dX5_findBest_113 : decode cX5_findBest 113 = .ok (.aload_n 0, 1) := by decide +kernel
theorem dX5_findBest_114 : decode cX5_findBest 114 = .ok (.getfield 90, 3) := by decide +kernel
theorem dX5_findBest_117 : decode cX5_findBest 117 = .ok (.if_icmp .ge 20, 3) := by decide +kernel
theorem dX5_findBest_120 : decode cX5_findBest 120 = .ok (.aload_n 0, 1) := by decide +kernel
theorem dX5_findBest_121 : decode cX5_findBest 121 = .ok (.getfield 59, 3) := by decide +kernel
theorem dX5_findBest_124 : decode cX5_findBest 124 = .ok (.iload_n 1, 1) := by decide +kernel
theorem dX5_findBest_125 : decode cX5_findBest 125 = .ok (.aload_n 0, 1) := by decide +kernel
theorem dX5_findBest_126 : decode cX5_findBest 126 = .ok (.iload_n 1, 1) := by decide +kernel
theorem dX5_findBest_127 : decode cX5_findBest 127 = .ok (.invokevirtual 118, 3) := by decide +kernel
theorem dX5_findBest_130 : decode cX5_findBest 130 = .ok (.iastore, 1) := by decide +kernel
theorem dX5_findBest_131 : decode cX5_findBest 131 = .ok (.iinc 1 1, 3) := by decide +kernel
theorem dX5_findBest_134 : decode cX5_findBest 134 = .ok (.goto (-22), 3) := by decide +kernel
theorem dX5_findBest_137 : decode cX5_findBest 137 = .ok (.iconst 0, 1) := by decide +kernel
theorem dX5_findBest_138 : decode cX5_findBest 138 = .ok (.istore_n 1, 1) := by decide +kernel
theorem dX5_findBest_139 : decode cX5_findBest 139 = .ok (.iload_n 1, 1) := by decide +kernel
theorem dX5_findBest_140 : decode cX5_findBest 140 = .ok (.ifCond .lt 20, 3) := by decide +kernel
theorem dX5_findBest_143 : decode cX5_findBest 143 = .ok (.aload_n 0, 1) := by decide +kernel
theorem dX5_findBest_144 : decode cX5_findBest 144 = .ok (.iload_n 1, 1) := by decide +kernel
theorem dX5_findBest_145 : decode cX5_findBest 145 = .ok (.invokevirtual 135, 3) := by decide +kernel
