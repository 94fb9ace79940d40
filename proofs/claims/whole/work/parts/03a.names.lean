theorem dX0_init_0 : decode cX0_init 0 = .ok (.aload_n 0, 1) := by decide +kernel
theorem dX0_init_1 : decode cX0_init 1 = .ok (.invokespecial 3, 3) := by decide +kernel
theorem dX0_init_4 : decode cX0_init 4 = .ok (.aload_n 0, 1) := by decide +kernel
theorem dX0_init_5 : decode cX0_init 5 = .ok (.sipush 336, 3) := by decide +kernel
theorem dX0_init_8 : decode cX0_init 8 = .ok (.newarray .int, 2) := by decide +kernel
theorem dX0_init_10 : decode cX0_init 10 = .ok (.putfield 9, 3) := by decide +kernel
theorem dX0_init_13 : decode cX0_init 13 = .ok (.aload_n 0, 1) := by decide +kernel
theorem dX0_init_14 : decode cX0_init 14 = .ok (.sipush 128, 3) := by decide +kernel
theorem dX0_init_17 : decode cX0_init 17 = .ok (.newarray .int, 2) := by decide +kernel
theorem dX0_init_19 : decode cX0_init 19 = .ok (.putfield 15, 3) := by decide +kernel
theorem dX0_init_22 : decode cX0_init 22 = .ok (.aload_n 0, 1) := by decide +kernel
theorem dX0_init_23 : decode cX0_init 23 = .ok (.sipush 128, 3) := by decide +kernel
theorem dX0_init_26 : decode cX0_init 26 = .ok (.newarray .int, 2) := by decide +kernel
theorem dX0_init_28 : decode cX0_init 28 = .ok (.putfield 18, 3) := by decide +kernel
theorem dX0_init_31 : decode cX0_init 31 = .ok (.aload_n 0, 1) := by decide +kernel
theorem dX0_init_32 : decode cX0_init 32 = .ok (.bipush 7, 2) := by decide +kernel
theorem dX0_init_34 : decode cX0_init 34 = .ok (.newarray .int, 2) := by decide +kernel
theorem dX0_init_36 : decode cX0_init 36 = .ok (.putfield 21, 3) := by decide +kernel
theorem dX0_init_39 : decode cX0_init 39 = .ok (.aload_n 0, 1) := by decide +kernel
theorem dX0_init_40 : decode cX0_init 40 = .ok (.bipush 7, 2) := by decide +kernel
theorem dX0_init_42 : decode cX0_init 42 = .ok (.newarray .int, 2) := by decide +kernel
theorem dX0_init_44 : decode cX0_init 44 = .ok (.putfield 24, 3) := by decide +kernel
theorem dX0_init_47 : decode cX0_init 47 = .ok (.aload_n 0, 1) := by decide +kernel
theorem dX0_init_48 : decode cX0_init 48 = .ok (.bipush 16, 2) := by decide +kernel
theorem dX0_init_50 : decode cX0_init 50 = .ok (.newarray .int, 2) := by decide +kernel
theorem dX0_init_52 : decode cX0_init 52 = .ok (.putfield 27, 3) := by decide +kernel
theorem dX0_init_55 : decode cX0_init 55 = .ok (.aload_n 0, 1) := by decide +kernel
theorem dX0_init_56 : decode cX0_init 56 = .ok (.aload_n 1, 1) := by decide +kernel
theorem dX0_init_57 : decode cX0_init 57 = .ok (.putfield 30, 3) := by decide +kernel
theorem dX0_init_60 : decode cX0_init 60 = .ok (.return_, 1) := by decide +kernel
set_option maxRecDepth 20000 in
theorem ggX0_settle_J7_fill_53178 : GoodIn wsX0_settle wsJ7_fill_53178 := goodIn_r _ [7] (by decide +kernel) (by decide +kernel)
set_option maxRecDepth 20000 in
theorem gX0_settle_J7_fill_53178 : GoodIn wsX0_settle (va_wsS RX0 41 yJ7_fill_53178 wsJ7_fill_53178) := goodIn_app (goodIn_of _ (by decide +kernel)) ggX0_settle_J7_fill_53178
set_option maxRecDepth 20000 in
theorem ggX0_settle_X0_fillLights : GoodIn wsX0_settle wsX0_fillLights := goodIn_r _ [12, 13, 14, 15, 16, 17, 18, 19, 11, 20, 21, 22, 23, 24, 25, 26, 27, 28, 29, 30, 31, 32, 33, 34, 35, 92, 93, 94, 95, 96, 97, 98, 99, 100, 101, 102, 103, 104, 105, 106, 107, 108, 109, 110, 111, 112, 113, 114, 115, 116, 117] (by decide +kernel) (by decide +kernel)
set_option maxRecDepth 20000 in
theorem gX0_settle_X0_fillLights : GoodIn wsX0_settle (wsV RX0 47 RX0 yX0_fillLights wsX0_fillLights) := goodIn_app (goodIn_of _ (by decide +kernel)) ggX0_settle_X0_fillLights
set_option maxRecDepth 20000 in
theorem ggX0_settle_X0_fillReach : GoodIn wsX0_settle wsX0_fillReach := goodIn_r _ [39, 13, 14, 16, 40, 41, 42, 43, 11, 44, 15, 17, 45, 46, 47, 48, 49, 50, 51, 24, 52, 53, 18, 19, 20, 92, 93, 94, 95, 96, 97, 98, 99, 100, 101, 102, 103, 104, 105, 106, 107, 108, 109, 110, 111, 112, 113, 114, 115, 116, 117] (by decide +kernel) (by decide +kernel)
set_option maxRecDepth 20000 in
theorem gX0_settle_X0_fillReach : GoodIn wsX0_settle (wsV RX0 50 RX0 yX0_fillReach wsX0_fillReach) := goodIn_app (goodIn_of _ (by decide +kernel)) ggX0_settle_X0_fillReach
set_option maxRecDepth 20000 in
theorem ggX0_settle_X0_canBecomeEnough : GoodIn wsX0_settle wsX0_canBecomeEnough := goodIn_r _ [57, 13, 16, 58, 40, 59, 92, 93, 94, 95, 96, 97, 98, 99, 100, 101, 102, 103, 104, 105, 106, 107, 108, 109, 110, 111, 112, 113, 114, 115, 116, 117] (by decide +kernel) (by decide +kernel)
set_option maxRecDepth 20000 in
theorem gX0_settle_X0_canBecomeEnough : GoodIn wsX0_settle (wsV RX0 53 RX0 yX0_canBecomeEnough wsX0_canBecomeEnough) := goodIn_app (goodIn_of _ (by decide +kernel)) ggX0_settle_X0_canBecomeEnough
set_option maxRecDepth 20000 in
theorem ggX0_settle_X0_tryFrom : GoodIn wsX0_settle wsX0_tryFrom := goodIn_r _ [63, 13, 14, 15, 2, 64, 65, 66, 67, 68, 11, 69, 16, 58, 70, 71, 47, 72, 73, 74, 75, 76, 77, 3, 78, 79, 80, 81, 82, 83, 84, 85, 24, 86, 87, 49, 50, 51, 52, 53, 88, 89, 90, 91, 17, 18, 19, 20, 54, 55, 56, 57, 40, 59, 60, 61, 62, 92, 93, 94, 95, 96, 97, 98, 99, 100, 101, 102, 103, 104, 105, 106, 107, 108, 109, 110, 111, 112, 113, 114, 115, 116, 117] (by decide +kernel) (by decide +kernel)
set_option maxRecDepth 20000 in
theorem gX0_settle_X0_tryFrom : GoodIn wsX0_settle (wsV RX0 57 RX0 yX0_tryFrom wsX0_tryFrom) := goodIn_app (goodIn_of _ (by decide +kernel)) ggX0_settle_X0_tryFrom
theorem dX0_settle_0 : decode cX0_settle 0 = .ok (.aload_n 0, 1) := by decide +kernel
theorem dX0_settle_1 : decode cX0_settle 1 = .ok (.getfield 34, 3) := by decide +kernel
theorem dX0_settle_4 : decode cX0_settle 4 = .ok (.ifCond .eq 4, 3) := by decide +kernel
theorem dX0_settle_7 : decode cX0_settle 7 = .ok (.return_, 1) := by decide +kernel
theorem dX0_settle_8 : decode cX0_settle 8 = .ok (.aload_n 0, 1) := by decide +kernel
theorem dX0_settle_9 : decode cX0_settle 9 = .ok (.iconst 1, 1) := by decide +kernel
theorem dX0_settle_10 : decode cX0_settle 10 = .ok (.putfield 34, 3) := by decide +kernel
theorem dX0_settle_13 : decode cX0_settle 13 = .ok (.aload_n 0, 1) := by decide +kernel
theorem dX0_settle_14 : decode cX0_settle 14 = .ok (.iconst 0, 1) := by decide +kernel
theorem dX0_settle_15 : decode cX0_settle 15 = .ok (.putfield 38, 3) := by decide +kernel
theorem dX0_settle_18 : decode cX0_settle 18 = .ok (.aload_n 0, 1) := by decide +kernel
theorem dX0_settle_19 : decode cX0_settle 19 = .ok (.getfield 24, 3) := by decide +kernel
theorem dX0_settle_22 : decode cX0_settle 22 = .ok (.iconst (-1), 1) := by decide +kernel
theorem dX0_settle_23 : decode cX0_settle 23 = .ok (.invokestatic 41, 3) := by decide +kernel
theorem dX0_settle_26 : decode cX0_settle 26 = .ok (.aload_n 0, 1) := by decide +kernel
theorem dX0_settle_27 : decode cX0_settle 27 = .ok (.invokevirtual 47, 3) := by decide +kernel
theorem dX0_settle_30 : decode cX0_settle 30 = .ok (.aload_n 0, 1) := by decide +kernel
theorem dX0_settle_31 : decode cX0_settle 31 = .ok (.invokevirtual 50, 3) := by decide +kernel
theorem dX0_settle_34 : decode cX0_settle 34 = .ok (.aload_n 0, 1) := by decide +kernel
theorem dX0_settle_35 : decode cX0_settle 35 = .ok (.iconst 0, 1) := by decide +kernel
theorem dX0_settle_36 : decode cX0_settle 36 = .ok (.invokevirtual 53, 3) := by decide +kernel
theorem dX0_settle_39 : decode cX0_settle 39 = .ok (.ifCond .eq 9, 3) := by decide +kernel
theorem dX0_settle_42 : decode cX0_settle 42 = .ok (.aload_n 0, 1) := by decide +kernel
theorem dX0_settle_43 : decode cX0_settle 43 = .ok (.iconst 0, 1) := by decide +kernel
theorem dX0_settle_44 : decode cX0_settle 44 = .ok (.iconst 0, 1) := by decide +kernel
theorem dX0_settle_45 : decode cX0_settle 45 = .ok (.invokevirtual 57, 3) := by decide +kernel
theorem dX0_settle_48 : decode cX0_settle 48 = .ok (.return_, 1) := by decide +kernel
set_option maxRecDepth 20000 in
theorem ggX0_lampLight_X0_lightRow : GoodIn wsX0_lampLight wsX0_lightRow := goodIn_r _ [6] (by decide +kernel) (by decide +kernel)
set_option maxRecDepth 20000 in
theorem gX0_lampLight_X0_lightRow : GoodIn wsX0_lampLight (va_wsS RX0 61 yX0_lightRow wsX0_lightRow) := goodIn_app (goodIn_of _ (by decide +kernel)) ggX0_lampLight_X0_lightRow
theorem dX0_lampLight_0 : decode cX0_lampLight 0 = .ok (.aload_n 0, 1) := by decide +kernel
theorem dX0_lampLight_1 : decode cX0_lampLight 1 = .ok (.getfield 24, 3) := by decide +kernel
theorem dX0_lampLight_4 : decode cX0_lampLight 4 = .ok (.iload_n 1, 1) := by decide +kernel
theorem dX0_lampLight_5 : decode cX0_lampLight 5 = .ok (.iaload, 1) := by decide +kernel
theorem dX0_lampLight_6 : decode cX0_lampLight 6 = .ok (.istore_n 3, 1) := by decide +kernel
theorem dX0_lampLight_7 : decode cX0_lampLight 7 = .ok (.iload_n 3, 1) := by decide +kernel
theorem dX0_lampLight_8 : decode cX0_lampLight 8 = .ok (.ifCond .lt 18, 3) := by decide +kernel
theorem dX0_lampLight_11 : decode cX0_lampLight 11 = .ok (.aload_n 0, 1) := by decide +kernel
theorem dX0_lampLight_12 : decode cX0_lampLight 12 = .ok (.getfield 9, 3) := by decide +kernel
theorem dX0_lampLight_15 : decode cX0_lampLight 15 = .ok (.iload_n 1, 1) := by decide +kernel
theorem dX0_lampLight_16 : decode cX0_lampLight 16 = .ok (.iload_n 3, 1) := by decide +kernel
theorem dX0_lampLight_17 : decode cX0_lampLight 17 = .ok (.invokestatic 61, 3) := by decide +kernel
theorem dX0_lampLight_20 : decode cX0_lampLight 20 = .ok (.iload_n 2, 1) := by decide +kernel
theorem dX0_lampLight_21 : decode cX0_lampLight 21 = .ok (.iadd, 1) := by decide +kernel
theorem dX0_lampLight_22 : decode cX0_lampLight 22 = .ok (.iaload, 1) := by decide +kernel
theorem dX0_lampLight_23 : decode cX0_lampLight 23 = .ok (.goto 4, 3) := by decide +kernel
theorem dX0_lampLight_26 : decode cX0_lampLight 26 = .ok (.iconst 0, 1) := by decide +kernel
theorem dX0_lampLight_27 : decode cX0_lampLight 27 = .ok (.ireturn, 1) := by decide +kernel
theorem dX0_hasLamps_0 : decode cX0_hasLamps 0 = .ok (.iconst 0, 1) := by decide +kernel
theorem dX0_hasLamps_1 : decode cX0_hasLamps 1 = .ok (.istore_n 1, 1) := by decide +kernel
theorem dX0_hasLamps_2 : decode cX0_hasLamps 2 = .ok (.iload_n 1, 1) := by decide +kernel
theorem dX0_hasLamps_3 : decode cX0_hasLamps 3 = .ok (.aload_n 0, 1) := by decide +kernel
theorem dX0_hasLamps_4 : decode cX0_hasLamps 4 = .ok (.getfield 30, 3) := by decide +kernel
theorem dX0_hasLamps_7 : decode cX0_hasLamps 7 = .ok (.getfield 65, 3) := by decide +kernel
theorem dX0_hasLamps_10 : decode cX0_hasLamps 10 = .ok (.if_icmp .ge 21, 3) := by decide +kernel
theorem dX0_hasLamps_13 : decode cX0_hasLamps 13 = .ok (.aload_n 0, 1) := by decide +kernel
theorem dX0_hasLamps_14 : decode cX0_hasLamps 14 = .ok (.getfield 24, 3) := by decide +kernel
theorem dX0_hasLamps_17 : decode cX0_hasLamps 17 = .ok (.iload_n 1, 1) := by decide +kernel
theorem dX0_hasLamps_18 : decode cX0_hasLamps 18 = .ok (.iaload, 1) := by decide +kernel
theorem dX0_hasLamps_19 : decode cX0_hasLamps 19 = .ok (.iconst (-1), 1) := by decide +kernel
theorem dX0_hasLamps_20 : decode cX0_hasLamps 20 = .ok (.if_icmp .eq 5, 3) := by decide +kernel
theorem dX0_hasLamps_23 : decode cX0_hasLamps 23 = .ok (.iconst 1, 1) := by decide +kernel
theorem dX0_hasLamps_24 : decode cX0_hasLamps 24 = .ok (.ireturn, 1) := by decide +kernel
theorem dX0_hasLamps_25 : decode cX0_hasLamps 25 = .ok (.iinc 1 1, 3) := by decide +kernel
theorem dX0_hasLamps_28 : decode cX0_hasLamps 28 = .ok (.goto (-26), 3) := by decide +kernel
theorem dX0_hasLamps_31 : decode cX0_hasLamps 31 = .ok (.iconst 0, 1) := by decide +kernel
theorem dX0_hasLamps_32 : decode cX0_hasLamps 32 = .ok (.ireturn, 1) := by decide +kernel
set_option maxRecDepth 20000 in
theorem ggX0_evennessAbove_X0_commonDivisor : GoodIn wsX0_evennessAbove wsX0_commonDivisor := goodIn_r _ [8] (by decide +kernel) (by decide +kernel)
set_option maxRecDepth 20000 in
theorem gX0_evennessAbove_X0_commonDivisor : GoodIn wsX0_evennessAbove (va_wsS RX0 81 yX0_commonDivisor wsX0_commonDivisor) := goodIn_app (goodIn_of _ (by decide +kernel)) ggX0_evennessAbove_X0_commonDivisor
set_option maxRecDepth 20000 in
theorem ggX0_evennessAbove_X4_quotient : GoodIn wsX0_evennessAbove wsX4_quotient := goodIn_r _ [11] (by decide +kernel) (by decide +kernel)
set_option maxRecDepth 20000 in
theorem gX0_evennessAbove_X4_quotient_n85 : GoodIn wsX0_evennessAbove (wsX4_quotient) := ggX0_evennessAbove_X4_quotient
theorem dX0_evennessAbove_0 : decode cX0_evennessAbove 0 = .ok (.aload_n 0, 1) := by decide +kernel
theorem dX0_evennessAbove_1 : decode cX0_evennessAbove 1 = .ok (.getfield 71, 3) := by decide +kernel
theorem dX0_evennessAbove_4 : decode cX0_evennessAbove 4 = .ok (.aload_n 0, 1) := by decide +kernel
theorem dX0_evennessAbove_5 : decode cX0_evennessAbove 5 = .ok (.getfield 30, 3) := by decide +kernel
theorem dX0_evennessAbove_8 : decode cX0_evennessAbove 8 = .ok (.getfield 75, 3) := by decide +kernel
theorem dX0_evennessAbove_11 : decode cX0_evennessAbove 11 = .ok (.i2l, 1) := by decide +kernel
theorem dX0_evennessAbove_12 : decode cX0_evennessAbove 12 = .ok (.lmul, 1) := by decide +kernel
theorem dX0_evennessAbove_13 : decode cX0_evennessAbove 13 = .ok (.lstore_n 1, 1) := by decide +kernel
theorem dX0_evennessAbove_14 : decode cX0_evennessAbove 14 = .ok (.lload_n 1, 1) := by decide +kernel
theorem dX0_evennessAbove_15 : decode cX0_evennessAbove 15 = .ok (.lload_n 1, 1) := by decide +kernel
theorem dX0_evennessAbove_16 : decode cX0_evennessAbove 16 = .ok (.aload_n 0, 1) := by decide +kernel
theorem dX0_evennessAbove_17 : decode cX0_evennessAbove 17 = .ok (.getfield 78, 3) := by decide +kernel
theorem dX0_evennessAbove_20 : decode cX0_evennessAbove 20 = .ok (.invokestatic 81, 3) := by decide +kernel
theorem dX0_evennessAbove_23 : decode cX0_evennessAbove 23 = .ok (.invokestatic 85, 3) := by decide +kernel
theorem dX0_evennessAbove_26 : decode cX0_evennessAbove 26 = .ok (.lreturn, 1) := by decide +kernel
set_option maxRecDepth 20000 in
theorem ggX0_evennessBelow_X0_commonDivisor : GoodIn wsX0_evennessBelow wsX0_commonDivisor := goodIn_r _ [8] (by decide +kernel) (by decide +kernel)
set_option maxRecDepth 20000 in
theorem gX0_evennessBelow_X0_commonDivisor : GoodIn wsX0_evennessBelow (va_wsS RX0 81 yX0_commonDivisor wsX0_commonDivisor) := goodIn_app (goodIn_of _ (by decide +kernel)) ggX0_evennessBelow_X0_commonDivisor
set_option maxRecDepth 20000 in
theorem ggX0_evennessBelow_X4_quotient : GoodIn wsX0_evennessBelow wsX4_quotient := goodIn_r _ [11] (by decide +kernel) (by decide +kernel)
set_option maxRecDepth 20000 in
theorem gX0_evennessBelow_X4_quotient_n85 : GoodIn wsX0_evennessBelow (wsX4_quotient) := ggX0_evennessBelow_X4_quotient
theorem dX0_evennessBelow_0 : decode cX0_evennessBelow 0 = .ok (.aload_n 0, 1) := by decide +kernel
theorem dX0_evennessBelow_1 : decode cX0_evennessBelow 1 = .ok (.getfield 78, 3) := by decide +kernel
theorem dX0_evennessBelow_4 : decode cX0_evennessBelow 4 = .ok (.aload_n 0, 1) := by decide +kernel
theorem dX0_evennessBelow_5 : decode cX0_evennessBelow 5 = .ok (.getfield 71, 3) := by decide +kernel
theorem dX0_evennessBelow_8 : decode cX0_evennessBelow 8 = .ok (.aload_n 0, 1) := by decide +kernel
theorem dX0_evennessBelow_9 : decode cX0_evennessBelow 9 = .ok (.getfield 30, 3) := by decide +kernel
theorem dX0_evennessBelow_12 : decode cX0_evennessBelow 12 = .ok (.getfield 75, 3) := by decide +kernel
theorem dX0_evennessBelow_15 : decode cX0_evennessBelow 15 = .ok (.i2l, 1) := by decide +kernel
theorem dX0_evennessBelow_16 : decode cX0_evennessBelow 16 = .ok (.lmul, 1) := by decide +kernel
theorem dX0_evennessBelow_17 : decode cX0_evennessBelow 17 = .ok (.aload_n 0, 1) := by decide +kernel
theorem dX0_evennessBelow_18 : decode cX0_evennessBelow 18 = .ok (.getfield 78, 3) := by decide +kernel
theorem dX0_evennessBelow_21 : decode cX0_evennessBelow 21 = .ok (.invokestatic 81, 3) := by decide +kernel
theorem dX0_evennessBelow_24 : decode cX0_evennessBelow 24 = .ok (.invokestatic 85, 3) := by decide +kernel
theorem dX0_evennessBelow_27 : decode cX0_evennessBelow 27 = .ok (.lreturn, 1) := by decide +kernel
theorem dX0_commonDivisor_0 : decode cX0_commonDivisor 0 = .ok (.lload_n 0, 1) := by decide +kernel
theorem dX0_commonDivisor_1 : decode cX0_commonDivisor 1 = .ok (.lstore 4, 2) := by decide +kernel
theorem dX0_commonDivisor_3 : decode cX0_commonDivisor 3 = .ok (.lload_n 2, 1) := by decide +kernel
theorem dX0_commonDivisor_4 : decode cX0_commonDivisor 4 = .ok (.lstore 6, 2) := by decide +kernel
theorem dX0_commonDivisor_6 : decode cX0_commonDivisor 6 = .ok (.iconst 0, 1) := by decide +kernel
theorem dX0_commonDivisor_7 : decode cX0_commonDivisor 7 = .ok (.istore 8, 2) := by decide +kernel
theorem dX0_commonDivisor_9 : decode cX0_commonDivisor 9 = .ok (.iload 8, 2) := by decide +kernel
theorem dX0_commonDivisor_11 : decode cX0_commonDivisor 11 = .ok (.bipush 100, 2) := by decide +kernel
theorem dX0_commonDivisor_13 : decode cX0_commonDivisor 13 = .ok (.if_icmp .ge 31, 3) := by decide +kernel
theorem dX0_commonDivisor_16 : decode cX0_commonDivisor 16 = .ok (.lload 6, 2) := by decide +kernel
theorem dX0_commonDivisor_18 : decode cX0_commonDivisor 18 = .ok (.lconst 0, 1) := by decide +kernel
theorem dX0_commonDivisor_19 : decode cX0_commonDivisor 19 = .ok (.lcmp, 1) := by decide +kernel
theorem dX0_commonDivisor_20 : decode cX0_commonDivisor 20 = .ok (.ifCond .le 24, 3) := by decide +kernel
theorem dX0_commonDivisor_23 : decode cX0_commonDivisor 23 = .ok (.lload 4, 2) := by decide +kernel
theorem dX0_commonDivisor_25 : decode cX0_commonDivisor 25 = .ok (.lload 6, 2) := by decide +kernel
theorem dX0_commonDivisor_27 : decode cX0_commonDivisor 27 = .ok (.lrem, 1) := by decide +kernel
theorem dX0_commonDivisor_28 : decode cX0_commonDivisor 28 = .ok (.lstore 9, 2) := by decide +kernel
theorem dX0_commonDivisor_30 : decode cX0_commonDivisor 30 = .ok (.lload 6, 2) := by decide +kernel
theorem dX0_commonDivisor_32 : decode cX0_commonDivisor 32 = .ok (.lstore 4, 2) := by decide +kernel
theorem dX0_commonDivisor_34 : decode cX0_commonDivisor 34 = .ok (.lload 9, 2) := by decide +kernel
theorem dX0_commonDivisor_36 : decode cX0_commonDivisor 36 = .ok (.lstore 6, 2) := by decide +kernel
theorem dX0_commonDivisor_38 : decode cX0_commonDivisor 38 = .ok (.iinc 8 1, 3) := by decide +kernel
theorem dX0_commonDivisor_41 : decode cX0_commonDivisor 41 = .ok (.goto (-32), 3) := by decide +kernel
theorem dX0_commonDivisor_44 : decode cX0_commonDivisor 44 = .ok (.lload 4, 2) := by decide +kernel
theorem dX0_commonDivisor_46 : decode cX0_commonDivisor 46 = .ok (.lreturn, 1) := by decide +kernel
theorem dX0_lightRow_0 : decode cX0_lightRow 0 = .ok (.iload_n 0, 1) := by decide +kernel
theorem dX0_lightRow_1 : decode cX0_lightRow 1 = .ok (.iconst 3, 1) := by decide +kernel
theorem dX0_lightRow_2 : decode cX0_lightRow 2 = .ok (.imul, 1) := by decide +kernel
theorem dX0_lightRow_3 : decode cX0_lightRow 3 = .ok (.iload_n 1, 1) := by decide +kernel
theorem dX0_lightRow_4 : decode cX0_lightRow 4 = .ok (.iadd, 1) := by decide +kernel
theorem dX0_lightRow_5 : decode cX0_lightRow 5 = .ok (.bipush 16, 2) := by decide +kernel
theorem dX0_lightRow_7 : decode cX0_lightRow 7 = .ok (.imul, 1) := by decide +kernel
theorem dX0_lightRow_8 : decode cX0_lightRow 8 = .ok (.ireturn, 1) := by decide +kernel
set_option maxRecDepth 20000 in
theorem ggX0_fillLights_X0_lightRow : GoodIn wsX0_fillLights wsX0_lightRow := goodIn_r _ [9] (by decide +kernel) (by decide +kernel)
set_option maxRecDepth 20000 in
theorem gX0_fillLights_X0_lightRow : GoodIn wsX0_fillLights (va_wsS RX0 61 yX0_lightRow wsX0_lightRow) := goodIn_app (goodIn_of _ (by decide +kernel)) ggX0_fillLights_X0_lightRow
set_option maxRecDepth 20000 in
theorem ggX0_fillLights_X2_lightOf : GoodIn wsX0_fillLights wsX2_lightOf := goodIn_r _ [14, 15, 16, 17, 18, 19, 20, 21, 22, 23, 24, 37, 38, 39, 40, 41, 42, 43, 44, 45, 46, 47, 48, 49, 50] (by decide +kernel) (by decide +kernel)
set_option maxRecDepth 20000 in
theorem gX0_fillLights_X2_lightOf : GoodIn wsX0_fillLights (wsV RX0 91 RX2 yX2_lightOf wsX2_lightOf) := goodIn_app (goodIn_of _ (by decide +kernel)) ggX0_fillLights_X2_lightOf
theorem dX0_fillLights_0 : decode cX0_fillLights 0 = .ok (.iconst 0, 1) := by decide +kernel
theorem dX0_fillLights_1 : decode cX0_fillLights 1 = .ok (.istore_n 1, 1) := by decide +kernel
theorem dX0_fillLights_2 : decode cX0_fillLights 2 = .ok (.iload_n 1, 1) := by decide +kernel
theorem dX0_fillLights_3 : decode cX0_fillLights 3 = .ok (.aload_n 0, 1) := by decide +kernel
theorem dX0_fillLights_4 : decode cX0_fillLights 4 = .ok (.getfield 30, 3) := by decide +kernel
theorem dX0_fillLights_7 : decode cX0_fillLights 7 = .ok (.getfield 65, 3) := by decide +kernel
theorem dX0_fillLights_10 : decode cX0_fillLights 10 = .ok (.if_icmp .ge 75, 3) := by decide +kernel
theorem dX0_fillLights_13 : decode cX0_fillLights 13 = .ok (.iconst 0, 1) := by decide +kernel
theorem dX0_fillLights_14 : decode cX0_fillLights 14 = .ok (.istore_n 2, 1) := by decide +kernel
theorem dX0_fillLights_15 : decode cX0_fillLights 15 = .ok (.iload_n 2, 1) := by decide +kernel
theorem dX0_fillLights_16 : decode cX0_fillLights 16 = .ok (.aload_n 0, 1) := by decide +kernel
theorem dX0_fillLights_17 : decode cX0_fillLights 17 = .ok (.getfield 30, 3) := by decide +kernel
theorem dX0_fillLights_20 : decode cX0_fillLights 20 = .ok (.getfield 88, 3) := by decide +kernel
theorem dX0_fillLights_23 : decode cX0_fillLights 23 = .ok (.if_icmp .ge 56, 3) := by decide +kernel
theorem dX0_fillLights_26 : decode cX0_fillLights 26 = .ok (.iload_n 1, 1) := by decide +kernel
theorem dX0_fillLights_27 : decode cX0_fillLights 27 = .ok (.iload_n 2, 1) := by decide +kernel
theorem dX0_fillLights_28 : decode cX0_fillLights 28 = .ok (.invokestatic 61, 3) := by decide +kernel
theorem dX0_fillLights_31 : decode cX0_fillLights 31 = .ok (.istore_n 3, 1) := by decide +kernel
theorem dX0_fillLights_32 : decode cX0_fillLights 32 = .ok (.iconst 0, 1) := by decide +kernel
theorem dX0_fillLights_33 : decode cX0_fillLights 33 = .ok (.istore 4, 2) := by decide +kernel
theorem dX0_fillLights_35 : decode cX0_fillLights 35 = .ok (.iload 4, 2) := by decide +kernel
theorem dX0_fillLights_37 : decode cX0_fillLights 37 = .ok (.aload_n 0, 1) := by decide +kernel
theorem dX0_fillLights_38 : decode cX0_fillLights 38 = .ok (.getfield 30, 3) := by decide +kernel
theorem dX0_fillLights_41 : decode cX0_fillLights 41 = .ok (.getfield 75, 3) := by decide +kernel
theorem dX0_fillLights_44 : decode cX0_fillLights 44 = .ok (.if_icmp .ge 29, 3) := by decide +kernel
theorem dX0_fillLights_47 : decode cX0_fillLights 47 = .ok (.aload_n 0, 1) := by decide +kernel
theorem dX0_fillLights_48 : decode cX0_fillLights 48 = .ok (.getfield 9, 3) := by decide +kernel
theorem dX0_fillLights_51 : decode cX0_fillLights 51 = .ok (.iload_n 3, 1) := by decide +kernel
theorem dX0_fillLights_52 : decode cX0_fillLights 52 = .ok (.iload 4, 2) := by decide +kernel
theorem dX0_fillLights_54 : decode cX0_fillLights 54 = .ok (.iadd, 1) := by decide +kernel
theorem dX0_fillLights_55 : decode cX0_fillLights 55 = .ok (.aload_n 0, 1) := by decide +kernel
theorem dX0_fillLights_56 : decode cX0_fillLights 56 = .ok (.getfield 30, 3) := by decide +kernel
theorem dX0_fillLights_59 : decode cX0_fillLights 59 = .ok (.iload_n 2, 1) := by decide +kernel
theorem dX0_fillLights_60 : decode cX0_fillLights 60 = .ok (.iload_n 1, 1) := by decide +kernel
theorem dX0_fillLights_61 : decode cX0_fillLights 61 = .ok (.iload 4, 2) := by decide +kernel
theorem dX0_fillLights_63 : decode cX0_fillLights 63 = .ok (.invokevirtual 91, 3) := by decide +kernel
theorem dX0_fillLights_66 : decode cX0_fillLights 66 = .ok (.iastore, 1) := by decide +kernel
theorem dX0_fillLights_67 : decode cX0_fillLights 67 = .ok (.iinc 4 1, 3) := by decide +kernel
theorem dX0_fillLights_70 : decode cX0_fillLights 70 = .ok (.goto (-35), 3) := by decide +kernel
theorem dX0_fillLights_73 : decode cX0_fillLights 73 = .ok (.iinc 2 1, 3) := by decide +kernel
theorem dX0_fillLights_76 : decode cX0_fillLights 76 = .ok (.goto (-61), 3) := by decide +kernel
theorem dX0_fillLights_79 : decode cX0_fillLights 79 = .ok (.iinc 1 1, 3) := by decide +kernel
theorem dX0_fillLights_82 : decode cX0_fillLights 82 = .ok (.goto (-80), 3) := by decide +kernel
theorem dX0_fillLights_85 : decode cX0_fillLights 85 = .ok (.return_, 1) := by decide +kernel
set_option maxRecDepth 20000 in
theorem ggX0_fillReach_X0_mostLight : GoodIn wsX0_fillReach wsX0_mostLight := goodIn_r _ [9, 1, 10, 11, 12, 13, 14, 15, 16, 17, 18, 19, 20, 21, 22, 23, 8, 24, 25, 26, 27, 28, 29, 30, 31, 32, 33, 34, 35, 36, 37, 38, 39, 40, 41, 42, 43, 44, 45, 46, 47, 48, 49, 50] (by decide +kernel) (by decide +kernel)
set_option maxRecDepth 20000 in
theorem gX0_fillReach_X0_mostLight : GoodIn wsX0_fillReach (wsV RX0 95 RX0 yX0_mostLight wsX0_mostLight) := goodIn_app (goodIn_of _ (by decide +kernel)) ggX0_fillReach_X0_mostLight
theorem dX0_fillReach_0 : decode cX0_fillReach 0 = .ok (.aload_n 0, 1) := by decide +kernel
theorem dX0_fillReach_1 : decode cX0_fillReach 1 = .ok (.getfield 30, 3) := by decide +kernel
theorem dX0_fillReach_4 : decode cX0_fillReach 4 = .ok (.getfield 65, 3) := by decide +kernel
theorem dX0_fillReach_7 : decode cX0_fillReach 7 = .ok (.iconst 1, 1) := by decide +kernel
theorem dX0_fillReach_8 : decode cX0_fillReach 8 = .ok (.isub, 1) := by decide +kernel
theorem dX0_fillReach_9 : decode cX0_fillReach 9 = .ok (.istore_n 1, 1) := by decide +kernel
theorem dX0_fillReach_10 : decode cX0_fillReach 10 = .ok (.iload_n 1, 1) := by decide +kernel
theorem dX0_fillReach_11 : decode cX0_fillReach 11 = .ok (.ifCond .lt 57, 3) := by decide +kernel
theorem dX0_fillReach_14 : decode cX0_fillReach 14 = .ok (.iconst 0, 1) := by decide +kernel
theorem dX0_fillReach_15 : decode cX0_fillReach 15 = .ok (.istore_n 2, 1) := by decide +kernel
theorem dX0_fillReach_16 : decode cX0_fillReach 16 = .ok (.iload_n 2, 1) := by decide +kernel
theorem dX0_fillReach_17 : decode cX0_fillReach 17 = .ok (.aload_n 0, 1) := by decide +kernel
theorem dX0_fillReach_18 : decode cX0_fillReach 18 = .ok (.getfield 30, 3) := by decide +kernel
theorem dX0_fillReach_21 : decode cX0_fillReach 21 = .ok (.getfield 75, 3) := by decide +kernel
theorem dX0_fillReach_24 : decode cX0_fillReach 24 = .ok (.if_icmp .ge 38, 3) := by decide +kernel
theorem dX0_fillReach_27 : decode cX0_fillReach 27 = .ok (.iload_n 1, 1) := by decide +kernel
theorem dX0_fillReach_28 : decode cX0_fillReach 28 = .ok (.bipush 16, 2) := by decide +kernel
theorem dX0_fillReach_30 : decode cX0_fillReach 30 = .ok (.imul, 1) := by decide +kernel
theorem dX0_fillReach_31 : decode cX0_fillReach 31 = .ok (.iload_n 2, 1) := by decide +kernel
theorem dX0_fillReach_32 : decode cX0_fillReach 32 = .ok (.iadd, 1) := by decide +kernel
theorem dX0_fillReach_33 : decode cX0_fillReach 33 = .ok (.istore_n 3, 1) := by decide +kernel
theorem dX0_fillReach_34 : decode cX0_fillReach 34 = .ok (.aload_n 0, 1) := by decide +kernel
theorem dX0_fillReach_35 : decode cX0_fillReach 35 = .ok (.getfield 15, 3) := by decide +kernel
theorem dX0_fillReach_38 : decode cX0_fillReach 38 = .ok (.iload_n 3, 1) := by decide +kernel
theorem dX0_fillReach_39 : decode cX0_fillReach 39 = .ok (.aload_n 0, 1) := by decide +kernel
theorem dX0_fillReach_40 : decode cX0_fillReach 40 = .ok (.getfield 15, 3) := by decide +kernel
theorem dX0_fillReach_43 : decode cX0_fillReach 43 = .ok (.iload_n 3, 1) := by decide +kernel
theorem dX0_fillReach_44 : decode cX0_fillReach 44 = .ok (.bipush 16, 2) := by decide +kernel
theorem dX0_fillReach_46 : decode cX0_fillReach 46 = .ok (.iadd, 1) := by decide +kernel
theorem dX0_fillReach_47 : decode cX0_fillReach 47 = .ok (.iaload, 1) := by decide +kernel
theorem dX0_fillReach_48 : decode cX0_fillReach 48 = .ok (.aload_n 0, 1) := by decide +kernel
theorem dX0_fillReach_49 : decode cX0_fillReach 49 = .ok (.iload_n 1, 1) := by decide +kernel
theorem dX0_fillReach_50 : decode cX0_fillReach 50 = .ok (.iload_n 2, 1) := by decide +kernel
theorem dX0_fillReach_51 : decode cX0_fillReach 51 = .ok (.invokevirtual 95, 3) := by decide +kernel
theorem dX0_fillReach_54 : decode cX0_fillReach 54 = .ok (.iadd, 1) := by decide +kernel
theorem dX0_fillReach_55 : decode cX0_fillReach 55 = .ok (.iastore, 1) := by decide +kernel
theorem dX0_fillReach_56 : decode cX0_fillReach 56 = .ok (.iinc 2 1, 3) := by decide +kernel
theorem dX0_fillReach_59 : decode cX0_fillReach 59 = .ok (.goto (-43), 3) := by decide +kernel
theorem dX0_fillReach_62 : decode cX0_fillReach 62 = .ok (.iinc 1 (-1), 3) := by decide +kernel
theorem dX0_fillReach_65 : decode cX0_fillReach 65 = .ok (.goto (-55), 3) := by decide +kernel
theorem dX0_fillReach_68 : decode cX0_fillReach 68 = .ok (.return_, 1) := by decide +kernel
set_option maxRecDepth 20000 in
theorem ggX0_mostLight_X2_mayHave : GoodIn wsX0_mostLight wsX2_mayHave := goodIn_r _ [12, 13, 30, 31, 32, 33, 34, 35, 36, 37, 38, 39, 40, 41, 42, 43] (by decide +kernel) (by decide +kernel)
set_option maxRecDepth 20000 in
theorem gX0_mostLight_X2_mayHave : GoodIn wsX0_mostLight (wsV RX0 98 RX2 yX2_mayHave wsX2_mayHave) := goodIn_app (goodIn_of _ (by decide +kernel)) ggX0_mostLight_X2_mayHave
set_option maxRecDepth 20000 in
theorem ggX0_mostLight_X0_lightRow : GoodIn wsX0_mostLight wsX0_lightRow := goodIn_r _ [17] (by decide +kernel) (by decide +kernel)
set_option maxRecDepth 20000 in
theorem gX0_mostLight_X0_lightRow : GoodIn wsX0_mostLight (va_wsS RX0 61 yX0_lightRow wsX0_lightRow) := goodIn_app (goodIn_of _ (by decide +kernel)) ggX0_mostLight_X0_lightRow
theorem dX0_mostLight_0 : decode cX0_mostLight 0 = .ok (.iconst 0, 1) := by decide +kernel
theorem dX0_mostLight_1 : decode cX0_mostLight 1 = .ok (.istore_n 3, 1) := by decide +kernel
theorem dX0_mostLight_2 : decode cX0_mostLight 2 = .ok (.iconst 0, 1) := by decide +kernel
theorem dX0_mostLight_3 : decode cX0_mostLight 3 = .ok (.istore 4, 2) := by decide +kernel
theorem dX0_mostLight_5 : decode cX0_mostLight 5 = .ok (.iload 4, 2) := by decide +kernel
theorem dX0_mostLight_7 : decode cX0_mostLight 7 = .ok (.aload_n 0, 1) := by decide +kernel
theorem dX0_mostLight_8 : decode cX0_mostLight 8 = .ok (.getfield 30, 3) := by decide +kernel
theorem dX0_mostLight_11 : decode cX0_mostLight 11 = .ok (.getfield 88, 3) := by decide +kernel
theorem dX0_mostLight_14 : decode cX0_mostLight 14 = .ok (.if_icmp .ge 40, 3) := by decide +kernel
theorem dX0_mostLight_17 : decode cX0_mostLight 17 = .ok (.aload_n 0, 1) := by decide +kernel
theorem dX0_mostLight_18 : decode cX0_mostLight 18 = .ok (.getfield 30, 3) := by decide +kernel
theorem dX0_mostLight_21 : decode cX0_mostLight 21 = .ok (.iload_n 1, 1) := by decide +kernel
theorem dX0_mostLight_22 : decode cX0_mostLight 22 = .ok (.iload 4, 2) := by decide +kernel
theorem dX0_mostLight_24 : decode cX0_mostLight 24 = .ok (.invokevirtual 98, 3) := by decide +kernel
theorem dX0_mostLight_27 : decode cX0_mostLight 27 = .ok (.ifCond .eq 21, 3) := by decide +kernel
theorem dX0_mostLight_30 : decode cX0_mostLight 30 = .ok (.iload_n 3, 1) := by decide +kernel
theorem dX0_mostLight_31 : decode cX0_mostLight 31 = .ok (.aload_n 0, 1) := by decide +kernel
theorem dX0_mostLight_32 : decode cX0_mostLight 32 = .ok (.getfield 9, 3) := by decide +kernel
theorem dX0_mostLight_35 : decode cX0_mostLight 35 = .ok (.iload_n 1, 1) := by decide +kernel
theorem dX0_mostLight_36 : decode cX0_mostLight 36 = .ok (.iload 4, 2) := by decide +kernel
theorem dX0_mostLight_38 : decode cX0_mostLight 38 = .ok (.invokestatic 61, 3) := by decide +kernel
theorem dX0_mostLight_41 : decode cX0_mostLight 41 = .ok (.iload_n 2, 1) := by decide +kernel
theorem dX0_mostLight_42 : decode cX0_mostLight 42 = .ok (.iadd, 1) := by decide +kernel
theorem dX0_mostLight_43 : decode cX0_mostLight 43 = .ok (.iaload, 1) := by decide +kernel
theorem dX0_mostLight_44 : decode cX0_mostLight 44 = .ok (.invokestatic 102, 3) := by decide +kernel
theorem dX0_mostLight_47 : decode cX0_mostLight 47 = .ok (.istore_n 3, 1) := by decide +kernel
theorem dX0_mostLight_48 : decode cX0_mostLight 48 = .ok (.iinc 4 1, 3) := by decide +kernel
theorem dX0_mostLight_51 : decode cX0_mostLight 51 = .ok (.goto (-46), 3) := by decide +kernel
theorem dX0_mostLight_54 : decode cX0_mostLight 54 = .ok (.iload_n 3, 1) := by decide +kernel
theorem dX0_mostLight_55 : decode cX0_mostLight 55 = .ok (.ireturn, 1) := by decide +kernel
set_option maxRecDepth 20000 in
theorem ggX0_tryFrom_X0_weigh : GoodIn wsX0_tryFrom wsX0_weigh := goodIn_r _ [11, 1, 2, 12, 13, 14, 15, 16, 17, 18, 19, 20, 4, 5, 21, 22, 6, 23, 24, 25, 26, 27, 28, 57, 58, 59, 60, 61, 62, 63, 64, 65, 66, 67, 68, 69, 70, 71, 72, 73, 74, 75, 76, 77, 78, 79, 80, 81, 82] (by decide +kernel) (by decide +kernel)
set_option maxRecDepth 20000 in
theorem gX0_tryFrom_X0_weigh : GoodIn wsX0_tryFrom (wsV RX0 107 RX0 yX0_weigh wsX0_weigh) := goodIn_app (goodIn_of _ (by decide +kernel)) ggX0_tryFrom_X0_weigh
set_option maxRecDepth 20000 in
theorem ggX0_tryFrom_X2_wattsOf : GoodIn wsX0_tryFrom wsX2_wattsOf := goodIn_r _ [33, 34, 69, 70, 71, 72, 73, 74, 75, 76, 77, 78, 79, 80, 81, 82] (by decide +kernel) (by decide +kernel)
set_option maxRecDepth 20000 in
theorem gX0_tryFrom_X2_wattsOf : GoodIn wsX0_tryFrom (wsV RX0 111 RX2 yX2_wattsOf wsX2_wattsOf) := goodIn_app (goodIn_of _ (by decide +kernel)) ggX0_tryFrom_X2_wattsOf
set_option maxRecDepth 20000 in
theorem ggX0_tryFrom_X2_mayHave : GoodIn wsX0_tryFrom wsX2_mayHave := goodIn_r _ [38, 39, 69, 70, 71, 72, 73, 74, 75, 76, 77, 78, 79, 80, 81, 82] (by decide +kernel) (by decide +kernel)
set_option maxRecDepth 20000 in
theorem gX0_tryFrom_X2_mayHave : GoodIn wsX0_tryFrom (wsV RX0 98 RX2 yX2_mayHave wsX2_mayHave) := goodIn_app (goodIn_of _ (by decide +kernel)) ggX0_tryFrom_X2_mayHave
set_option maxRecDepth 20000 in
theorem ggX0_tryFrom_X0_gather : GoodIn wsX0_tryFrom wsX0_gather := goodIn_r _ [43, 13, 1, 12, 24, 25, 26, 27, 44, 45, 46, 10, 47, 57, 58, 59, 60, 61, 62, 63, 64, 65, 66, 67, 68, 69, 70, 71, 72, 73, 74, 75, 76, 77, 78, 79, 80, 81, 82] (by decide +kernel) (by decide +kernel)
set_option maxRecDepth 20000 in
theorem gX0_tryFrom_X0_gather : GoodIn wsX0_tryFrom (wsV RX0 118 RX0 yX0_gather wsX0_gather) := goodIn_app (goodIn_of _ (by decide +kernel)) ggX0_tryFrom_X0_gather
set_option maxRecDepth 20000 in
theorem ggX0_tryFrom_X0_canBecomeEnough : GoodIn wsX0_tryFrom wsX0_canBecomeEnough := goodIn_r _ [51, 1, 12, 13, 52, 53, 57, 58, 59, 60, 61, 62, 63, 64, 65, 66, 67, 68, 69, 70, 71, 72, 73, 74, 75, 76, 77, 78, 79, 80, 81, 82] (by decide +kernel) (by decide +kernel)
set_option maxRecDepth 20000 in
theorem gX0_tryFrom_X0_canBecomeEnough : GoodIn wsX0_tryFrom (wsV RX0 53 RX0 yX0_canBecomeEnough wsX0_canBecomeEnough) := goodIn_app (goodIn_of _ (by decide +kernel)) ggX0_tryFrom_X0_canBecomeEnough
set_option maxRecDepth 20000 in
theorem ggX0_tryFrom_X0_tryFrom : GoodIn wsX0_tryFrom wsX0_tryFrom := goodIn_r _ [0, 1, 2, 3, 4, 5, 6, 7, 8, 9, 10, 11, 12, 13, 14, 15, 16, 17, 18, 19, 20, 21, 22, 23, 24, 25, 26, 27, 28, 29, 30, 31, 32, 33, 34, 35, 36, 37, 38, 39, 40, 41, 42, 43, 44, 45, 46, 47, 48, 49, 50, 51, 52, 53, 54, 55, 56, 57, 58, 59, 60, 61, 62, 63, 64, 65, 66, 67, 68, 69, 70, 71, 72, 73, 74, 75, 76, 77, 78, 79, 80, 81, 82] (by decide +kernel) (by decide +kernel)
set_option maxRecDepth 20000 in
theorem gX0_tryFrom_X0_tryFrom : GoodIn wsX0_tryFrom (wsV RX0 57 RX0 yX0_tryFrom wsX0_tryFrom) := goodIn_app (goodIn_of _ (by decide +kernel)) ggX0_tryFrom_X0_tryFrom
theorem dX0_tryFrom_0 : decode cX0_tryFrom 0 = .ok (.iload_n 1, 1) := by decide +kernel
theorem dX0_tryFrom_1 : decode cX0_tryFrom 1 = .ok (.aload_n 0, 1) := by decide +kernel
theorem dX0_tryFrom_2 : decode cX0_tryFrom 2 = .ok (.getfield 30, 3) := by decide +kernel
theorem dX0_tryFrom_5 : decode cX0_tryFrom 5 = .ok (.getfield 65, 3) := by decide +kernel
theorem dX0_tryFrom_8 : decode cX0_tryFrom 8 = .ok (.if_icmp .lt 9, 3) := by decide +kernel
theorem dX0_tryFrom_11 : decode cX0_tryFrom 11 = .ok (.aload_n 0, 1) := by decide +kernel
theorem dX0_tryFrom_12 : decode cX0_tryFrom 12 = .ok (.iload_n 2, 1) := by decide +kernel
theorem dX0_tryFrom_13 : decode cX0_tryFrom 13 = .ok (.invokevirtual 107, 3) := by decide +kernel
theorem dX0_tryFrom_16 : decode cX0_tryFrom 16 = .ok (.return_, 1) := by decide +kernel
theorem dX0_tryFrom_17 : decode cX0_tryFrom 17 = .ok (.iconst (-1), 1) := by decide +kernel
theorem dX0_tryFrom_18 : decode cX0_tryFrom 18 = .ok (.istore_n 3, 1) := by decide +kernel
theorem dX0_tryFrom_19 : decode cX0_tryFrom 19 = .ok (.iload_n 3, 1) := by decide +kernel
theorem dX0_tryFrom_20 : decode cX0_tryFrom 20 = .ok (.aload_n 0, 1) := by decide +kernel
theorem dX0_tryFrom_21 : decode cX0_tryFrom 21 = .ok (.getfield 30, 3) := by decide +kernel
theorem dX0_tryFrom_24 : decode cX0_tryFrom 24 = .ok (.getfield 88, 3) := by decide +kernel
theorem dX0_tryFrom_27 : decode cX0_tryFrom 27 = .ok (.if_icmp .ge 81, 3) := by decide +kernel
theorem dX0_tryFrom_30 : decode cX0_tryFrom 30 = .ok (.iload_n 2, 1) := by decide +kernel
theorem dX0_tryFrom_31 : decode cX0_tryFrom 31 = .ok (.aload_n 0, 1) := by decide +kernel
theorem dX0_tryFrom_32 : decode cX0_tryFrom 32 = .ok (.getfield 30, 3) := by decide +kernel
theorem dX0_tryFrom_35 : decode cX0_tryFrom 35 = .ok (.iload_n 3, 1) := by decide +kernel
theorem dX0_tryFrom_36 : decode cX0_tryFrom 36 = .ok (.invokevirtual 111, 3) := by decide +kernel
theorem dX0_tryFrom_39 : decode cX0_tryFrom 39 = .ok (.iadd, 1) := by decide +kernel
theorem dX0_tryFrom_40 : decode cX0_tryFrom 40 = .ok (.istore 4, 2) := by decide +kernel
theorem dX0_tryFrom_42 : decode cX0_tryFrom 42 = .ok (.aload_n 0, 1) := by decide +kernel
theorem dX0_tryFrom_43 : decode cX0_tryFrom 43 = .ok (.getfield 30, 3) := by decide +kernel
theorem dX0_tryFrom_46 : decode cX0_tryFrom 46 = .ok (.iload_n 1, 1) := by decide +kernel
theorem dX0_tryFrom_47 : decode cX0_tryFrom 47 = .ok (.iload_n 3, 1) := by decide +kernel
theorem dX0_tryFrom_48 : decode cX0_tryFrom 48 = .ok (.invokevirtual 98, 3) := by decide +kernel
theorem dX0_tryFrom_51 : decode cX0_tryFrom 51 = .ok (.ifCond .eq 51, 3) := by decide +kernel
theorem dX0_tryFrom_54 : decode cX0_tryFrom 54 = .ok (.aload_n 0, 1) := by decide +kernel
theorem dX0_tryFrom_55 : decode cX0_tryFrom 55 = .ok (.getfield 38, 3) := by decide +kernel
theorem dX0_tryFrom_58 : decode cX0_tryFrom 58 = .ok (.ifCond .eq 12, 3) := by decide +kernel
theorem dX0_tryFrom_61 : decode cX0_tryFrom 61 = .ok (.iload 4, 2) := by decide +kernel
theorem dX0_tryFrom_63 : decode cX0_tryFrom 63 = .ok (.aload_n 0, 1) := by decide +kernel
theorem dX0_tryFrom_64 : decode cX0_tryFrom 64 = .ok (.getfield 115, 3) := by decide +kernel
theorem dX0_tryFrom_67 : decode cX0_tryFrom 67 = .ok (.if_icmp .gt 35, 3) := by decide +kernel
theorem dX0_tryFrom_70 : decode cX0_tryFrom 70 = .ok (.aload_n 0, 1) := by decide +kernel
theorem dX0_tryFrom_71 : decode cX0_tryFrom 71 = .ok (.getfield 21, 3) := by decide +kernel
theorem dX0_tryFrom_74 : decode cX0_tryFrom 74 = .ok (.iload_n 1, 1) := by decide +kernel
theorem dX0_tryFrom_75 : decode cX0_tryFrom 75 = .ok (.iload_n 3, 1) := by decide +kernel
theorem dX0_tryFrom_76 : decode cX0_tryFrom 76 = .ok (.iastore, 1) := by decide +kernel
theorem dX0_tryFrom_77 : decode cX0_tryFrom 77 = .ok (.aload_n 0, 1) := by decide +kernel
theorem dX0_tryFrom_78 : decode cX0_tryFrom 78 = .ok (.iload_n 1, 1) := by decide +kernel
theorem dX0_tryFrom_79 : decode cX0_tryFrom 79 = .ok (.iload_n 3, 1) := by decide +kernel
theorem dX0_tryFrom_80 : decode cX0_tryFrom 80 = .ok (.invokevirtual 118, 3) := by decide +kernel
theorem dX0_tryFrom_83 : decode cX0_tryFrom 83 = .ok (.aload_n 0, 1) := by decide +kernel
theorem dX0_tryFrom_84 : decode cX0_tryFrom 84 = .ok (.iload_n 1, 1) := by decide +kernel
theorem dX0_tryFrom_85 : decode cX0_tryFrom 85 = .ok (.iconst 1, 1) := by decide +kernel
theorem dX0_tryFrom_86 : decode cX0_tryFrom 86 = .ok (.iadd, 1) := by decide +kernel
theorem dX0_tryFrom_87 : decode cX0_tryFrom 87 = .ok (.invokevirtual 53, 3) := by decide +kernel
theorem dX0_tryFrom_90 : decode cX0_tryFrom 90 = .ok (.ifCond .eq 12, 3) := by decide +kernel
theorem dX0_tryFrom_93 : decode cX0_tryFrom 93 = .ok (.aload_n 0, 1) := by decide +kernel
theorem dX0_tryFrom_94 : decode cX0_tryFrom 94 = .ok (.iload_n 1, 1) := by decide +kernel
theorem dX0_tryFrom_95 : decode cX0_tryFrom 95 = .ok (.iconst 1, 1) := by decide +kernel
theorem dX0_tryFrom_96 : decode cX0_tryFrom 96 = .ok (.iadd, 1) := by decide +kernel
theorem dX0_tryFrom_97 : decode cX0_tryFrom 97 = .ok (.iload 4, 2) := by decide +kernel
theorem dX0_tryFrom_99 : decode cX0_tryFrom 99 = .ok (.invokevirtual 57, 3) := by decide +kernel
theorem dX0_tryFrom_102 : decode cX0_tryFrom 102 = .ok (.iinc 3 1, 3) := by decide +kernel
theorem dX0_tryFrom_105 : decode cX0_tryFrom 105 = .ok (.goto (-86), 3) := by decide +kernel
theorem dX0_tryFrom_108 : decode cX0_tryFrom 108 = .ok (.return_, 1) := by decide +kernel
set_option maxRecDepth 20000 in
theorem ggX0_gather_X0_lightRow : GoodIn wsX0_gather wsX0_lightRow := goodIn_r _ [12] (by decide +kernel) (by decide +kernel)
set_option maxRecDepth 20000 in
theorem gX0_gather_X0_lightRow : GoodIn wsX0_gather (va_wsS RX0 61 yX0_lightRow wsX0_lightRow) := goodIn_app (goodIn_of _ (by decide +kernel)) ggX0_gather_X0_lightRow
theorem dX0_gather_0 : decode cX0_gather 0 = .ok (.iload_n 1, 1) := by decide +kernel
theorem dX0_gather_1 : decode cX0_gather 1 = .ok (.bipush 16, 2) := by decide +kernel
theorem dX0_gather_3 : decode cX0_gather 3 = .ok (.imul, 1) := by decide +kernel
theorem dX0_gather_4 : decode cX0_gather 4 = .ok (.istore_n 3, 1) := by decide +kernel
theorem dX0_gather_5 : decode cX0_gather 5 = .ok (.iload_n 3, 1) := by decide +kernel
theorem dX0_gather_6 : decode cX0_gather 6 = .ok (.bipush 16, 2) := by decide +kernel
theorem dX0_gather_8 : decode cX0_gather 8 = .ok (.iadd, 1) := by decide +kernel
theorem dX0_gather_9 : decode cX0_gather 9 = .ok (.istore 4, 2) := by decide +kernel
theorem dX0_gather_11 : decode cX0_gather 11 = .ok (.iload_n 2, 1) := by decide +kernel
theorem dX0_gather_12 : decode cX0_gather 12 = .ok (.ifCond .ge 25, 3) := by decide +kernel
theorem dX0_gather_15 : decode cX0_gather 15 = .ok (.aload_n 0, 1) := by decide +kernel
theorem dX0_gather_16 : decode cX0_gather 16 = .ok (.getfield 18, 3) := by decide +kernel
theorem dX0_gather_19 : decode cX0_gather 19 = .ok (.iload_n 3, 1) := by decide +kernel
theorem dX0_gather_20 : decode cX0_gather 20 = .ok (.aload_n 0, 1) := by decide +kernel
theorem dX0_gather_21 : decode cX0_gather 21 = .ok (.getfield 18, 3) := by decide +kernel
theorem dX0_gather_24 : decode cX0_gather 24 = .ok (.iload 4, 2) := by decide +kernel
theorem dX0_gather_26 : decode cX0_gather 26 = .ok (.aload_n 0, 1) := by decide +kernel
theorem dX0_gather_27 : decode cX0_gather 27 = .ok (.getfield 30, 3) := by decide +kernel
theorem dX0_gather_30 : decode cX0_gather 30 = .ok (.getfield 75, 3) := by decide +kernel
theorem dX0_gather_33 : decode cX0_gather 33 = .ok (.invokestatic 121, 3) := by decide +kernel
theorem dX0_gather_36 : decode cX0_gather 36 = .ok (.return_, 1) := by decide +kernel
theorem dX0_gather_37 : decode cX0_gather 37 = .ok (.iload_n 1, 1) := by decide +kernel
theorem dX0_gather_38 : decode cX0_gather 38 = .ok (.iload_n 2, 1) := by decide +kernel
theorem dX0_gather_39 : decode cX0_gather 39 = .ok (.invokestatic 61, 3) := by decide +kernel
theorem dX0_gather_42 : decode cX0_gather 42 = .ok (.istore 5, 2) := by decide +kernel
theorem dX0_gather_44 : decode cX0_gather 44 = .ok (.iconst 0, 1) := by decide +kernel
theorem dX0_gather_45 : decode cX0_gather 45 = .ok (.istore 6, 2) := by decide +kernel
theorem dX0_gather_47 : decode cX0_gather 47 = .ok (.iload 6, 2) := by decide +kernel
theorem dX0_gather_49 : decode cX0_gather 49 = .ok (.aload_n 0, 1) := by decide +kernel
theorem dX0_gather_50 : decode cX0_gather 50 = .ok (.getfield 30, 3) := by decide +kernel
theorem dX0_gather_53 : decode cX0_gather 53 = .ok (.getfield 75, 3) := by decide +kernel
theorem dX0_gather_56 : decode cX0_gather 56 = .ok (.if_icmp .ge 39, 3) := by decide +kernel
theorem dX0_gather_59 : decode cX0_gather 59 = .ok (.aload_n 0, 1) := by decide +kernel
theorem dX0_gather_60 : decode cX0_gather 60 = .ok (.getfield 18, 3) := by decide +kernel
theorem dX0_gather_63 : decode cX0_gather 63 = .ok (.iload 4, 2) := by decide +kernel
theorem dX0_gather_65 : decode cX0_gather 65 = .ok (.iload 6, 2) := by decide +kernel
theorem dX0_gather_67 : decode cX0_gather 67 = .ok (.iadd, 1) := by decide +kernel
theorem dX0_gather_68 : decode cX0_gather 68 = .ok (.aload_n 0, 1) := by decide +kernel
theorem dX0_gather_69 : decode cX0_gather 69 = .ok (.getfield 18, 3) := by decide +kernel
theorem dX0_gather_72 : decode cX0_gather 72 = .ok (.iload_n 3, 1) := by decide +kernel
theorem dX0_gather_73 : decode cX0_gather 73 = .ok (.iload 6, 2) := by decide +kernel
theorem dX0_gather_75 : decode cX0_gather 75 = .ok (.iadd, 1) := by decide +kernel
theorem dX0_gather_76 : decode cX0_gather 76 = .ok (.iaload, 1) := by decide +kernel
theorem dX0_gather_77 : decode cX0_gather 77 = .ok (.aload_n 0, 1) := by decide +kernel
theorem dX0_gather_78 : decode cX0_gather 78 = .ok (.getfield 9, 3) := by decide +kernel
theorem dX0_gather_81 : decode cX0_gather 81 = .ok (.iload 5, 2) := by decide +kernel
theorem dX0_gather_83 : decode cX0_gather 83 = .ok (.iload 6, 2) := by decide +kernel
theorem dX0_gather_85 : decode cX0_gather 85 = .ok (.iadd, 1) := by decide +kernel
theorem dX0_gather_86 : decode cX0_gather 86 = .ok (.iaload, 1) := by decide +kernel
theorem dX0_gather_87 : decode cX0_gather 87 = .ok (.iadd, 1) := by decide +kernel
theorem dX0_gather_88 : decode cX0_gather 88 = .ok (.iastore, 1) := by decide +kernel
theorem dX0_gather_89 : decode cX0_gather 89 = .ok (.iinc 6 1, 3) := by decide +kernel
theorem dX0_gather_92 : decode cX0_gather 92 = .ok (.goto (-45), 3) := by decide +kernel
theorem dX0_gather_95 : decode cX0_gather 95 = .ok (.return_, 1) := by decide +kernel
theorem dX0_canBecomeEnough_0 : decode cX0_canBecomeEnough 0 = .ok (.iload_n 1, 1) := by decide +kernel
theorem dX0_canBecomeEnough_1 : decode cX0_canBecomeEnough 1 = .ok (.bipush 16, 2) := by decide +kernel
theorem dX0_canBecomeEnough_3 : decode cX0_canBecomeEnough 3 = .ok (.imul, 1) := by decide +kernel
theorem dX0_canBecomeEnough_4 : decode cX0_canBecomeEnough 4 = .ok (.istore_n 2, 1) := by decide +kernel
theorem dX0_canBecomeEnough_5 : decode cX0_canBecomeEnough 5 = .ok (.iconst 0, 1) := by decide +kernel
theorem dX0_canBecomeEnough_6 : decode cX0_canBecomeEnough 6 = .ok (.istore_n 3, 1) := by decide +kernel
theorem dX0_canBecomeEnough_7 : decode cX0_canBecomeEnough 7 = .ok (.iload_n 3, 1) := by decide +kernel
theorem dX0_canBecomeEnough_8 : decode cX0_canBecomeEnough 8 = .ok (.aload_n 0, 1) := by decide +kernel
theorem dX0_canBecomeEnough_9 : decode cX0_canBecomeEnough 9 = .ok (.getfield 30, 3) := by decide +kernel
theorem dX0_canBecomeEnough_12 : decode cX0_canBecomeEnough 12 = .ok (.getfield 75, 3) := by decide +kernel
theorem dX0_canBecomeEnough_15 : decode cX0_canBecomeEnough 15 = .ok (.if_icmp .ge 40, 3) := by decide +kernel
theorem dX0_canBecomeEnough_18 : decode cX0_canBecomeEnough 18 = .ok (.aload_n 0, 1) := by decide +kernel
theorem dX0_canBecomeEnough_19 : decode cX0_canBecomeEnough 19 = .ok (.getfield 18, 3) := by decide +kernel
theorem dX0_canBecomeEnough_22 : decode cX0_canBecomeEnough 22 = .ok (.iload_n 2, 1) := by decide +kernel
theorem dX0_canBecomeEnough_23 : decode cX0_canBecomeEnough 23 = .ok (.iload_n 3, 1) := by decide +kernel
theorem dX0_canBecomeEnough_24 : decode cX0_canBecomeEnough 24 = .ok (.iadd, 1) := by decide +kernel
theorem dX0_canBecomeEnough_25 : decode cX0_canBecomeEnough 25 = .ok (.iaload, 1) := by decide +kernel
theorem dX0_canBecomeEnough_26 : decode cX0_canBecomeEnough 26 = .ok (.aload_n 0, 1) := by decide +kernel
theorem dX0_canBecomeEnough_27 : decode cX0_canBecomeEnough 27 = .ok (.getfield 15, 3) := by decide +kernel
theorem dX0_canBecomeEnough_30 : decode cX0_canBecomeEnough 30 = .ok (.iload_n 2, 1) := by decide +kernel
theorem dX0_canBecomeEnough_31 : decode cX0_canBecomeEnough 31 = .ok (.iload_n 3, 1) := by decide +kernel
theorem dX0_canBecomeEnough_32 : decode cX0_canBecomeEnough 32 = .ok (.iadd, 1) := by decide +kernel
theorem dX0_canBecomeEnough_33 : decode cX0_canBecomeEnough 33 = .ok (.iaload, 1) := by decide +kernel
theorem dX0_canBecomeEnough_34 : decode cX0_canBecomeEnough 34 = .ok (.iadd, 1) := by decide +kernel
theorem dX0_canBecomeEnough_35 : decode cX0_canBecomeEnough 35 = .ok (.aload_n 0, 1) := by decide +kernel
theorem dX0_canBecomeEnough_36 : decode cX0_canBecomeEnough 36 = .ok (.getfield 30, 3) := by decide +kernel
theorem dX0_canBecomeEnough_39 : decode cX0_canBecomeEnough 39 = .ok (.getfield 127, 3) := by decide +kernel
theorem dX0_canBecomeEnough_42 : decode cX0_canBecomeEnough 42 = .ok (.iload_n 3, 1) := by decide +kernel
theorem dX0_canBecomeEnough_43 : decode cX0_canBecomeEnough 43 = .ok (.iaload, 1) := by decide +kernel
theorem dX0_canBecomeEnough_44 : decode cX0_canBecomeEnough 44 = .ok (.if_icmp .ge 5, 3) := by decide +kernel
theorem dX0_canBecomeEnough_47 : decode cX0_canBecomeEnough 47 = .ok (.iconst 0, 1) := by decide +kernel
theorem dX0_canBecomeEnough_48 : decode cX0_canBecomeEnough 48 = .ok (.ireturn, 1) := by decide +kernel
theorem dX0_canBecomeEnough_49 : decode cX0_canBecomeEnough 49 = .ok (.iinc 3 1, 3) := by decide +kernel
theorem dX0_canBecomeEnough_52 : decode cX0_canBecomeEnough 52 = .ok (.goto (-45), 3) := by decide +kernel
theorem dX0_canBecomeEnough_55 : decode cX0_canBecomeEnough 55 = .ok (.iconst 1, 1) := by decide +kernel
theorem dX0_canBecomeEnough_56 : decode cX0_canBecomeEnough 56 = .ok (.ireturn, 1) := by decide +kernel
theorem dX0_weigh_0 : decode cX0_weigh 0 = .ok (.aload_n 0, 1) := by decide +kernel
theorem dX0_weigh_1 : decode cX0_weigh 1 = .ok (.getfield 30, 3) := by decide +kernel
theorem dX0_weigh_4 : decode cX0_weigh 4 = .ok (.getfield 65, 3) := by decide +kernel
theorem dX0_weigh_7 : decode cX0_weigh 7 = .ok (.bipush 16, 2) := by decide +kernel
theorem dX0_weigh_9 : decode cX0_weigh 9 = .ok (.imul, 1) := by decide +kernel
theorem dX0_weigh_10 : decode cX0_weigh 10 = .ok (.istore_n 2, 1) := by decide +kernel
theorem dX0_weigh_11 : decode cX0_weigh 11 = .ok (.aload_n 0, 1) := by decide +kernel
theorem dX0_weigh_12 : decode cX0_weigh 12 = .ok (.getfield 30, 3) := by decide +kernel
theorem dX0_weigh_15 : decode cX0_weigh 15 = .ok (.getfield 75, 3) := by decide +kernel
theorem dX0_weigh_18 : decode cX0_weigh 18 = .ok (.ifCond .le 13, 3) := by decide +kernel
theorem dX0_weigh_21 : decode cX0_weigh 21 = .ok (.aload_n 0, 1) := by decide +kernel
theorem dX0_weigh_22 : decode cX0_weigh 22 = .ok (.getfield 18, 3) := by decide +kernel
theorem dX0_weigh_25 : decode cX0_weigh 25 = .ok (.iload_n 2, 1) := by decide +kernel
theorem dX0_weigh_26 : decode cX0_weigh 26 = .ok (.iaload, 1) := by decide +kernel
theorem dX0_weigh_27 : decode cX0_weigh 27 = .ok (.i2l, 1) := by decide +kernel
theorem dX0_weigh_28 : decode cX0_weigh 28 = .ok (.goto 4, 3) := by decide +kernel
theorem dX0_weigh_31 : decode cX0_weigh 31 = .ok (.lconst 0, 1) := by decide +kernel
theorem dX0_weigh_32 : decode cX0_weigh 32 = .ok (.lstore_n 3, 1) := by decide +kernel
theorem dX0_weigh_33 : decode cX0_weigh 33 = .ok (.lconst 0, 1) := by decide +kernel
theorem dX0_weigh_34 : decode cX0_weigh 34 = .ok (.lstore 5, 2) := by decide +kernel
theorem dX0_weigh_36 : decode cX0_weigh 36 = .ok (.iconst 0, 1) := by decide +kernel
theorem dX0_weigh_37 : decode cX0_weigh 37 = .ok (.istore 7, 2) := by decide +kernel
theorem dX0_weigh_39 : decode cX0_weigh 39 = .ok (.iload 7, 2) := by decide +kernel
theorem dX0_weigh_41 : decode cX0_weigh 41 = .ok (.aload_n 0, 1) := by decide +kernel
theorem dX0_weigh_42 : decode cX0_weigh 42 = .ok (.getfield 30, 3) := by decide +kernel
theorem dX0_weigh_45 : decode cX0_weigh 45 = .ok (.getfield 75, 3) := by decide +kernel
theorem dX0_weigh_48 : decode cX0_weigh 48 = .ok (.if_icmp .ge 39, 3) := by decide +kernel
theorem dX0_weigh_51 : decode cX0_weigh 51 = .ok (.lload_n 3, 1) := by decide +kernel
theorem dX0_weigh_52 : decode cX0_weigh 52 = .ok (.aload_n 0, 1) := by decide +kernel
theorem dX0_weigh_53 : decode cX0_weigh 53 = .ok (.getfield 18, 3) := by decide +kernel
theorem dX0_weigh_56 : decode cX0_weigh 56 = .ok (.iload_n 2, 1) := by decide +kernel
theorem dX0_weigh_57 : decode cX0_weigh 57 = .ok (.iload 7, 2) := by decide +kernel
theorem dX0_weigh_59 : decode cX0_weigh 59 = .ok (.iadd, 1) := by decide +kernel
theorem dX0_weigh_60 : decode cX0_weigh 60 = .ok (.iaload, 1) := by decide +kernel
theorem dX0_weigh_61 : decode cX0_weigh 61 = .ok (.i2l, 1) := by decide +kernel
theorem dX0_weigh_62 : decode cX0_weigh 62 = .ok (.invokestatic 130, 3) := by decide +kernel
theorem dX0_weigh_65 : decode cX0_weigh 65 = .ok (.lstore_n 3, 1) := by decide +kernel
theorem dX0_weigh_66 : decode cX0_weigh 66 = .ok (.lload 5, 2) := by decide +kernel
theorem dX0_weigh_68 : decode cX0_weigh 68 = .ok (.aload_n 0, 1) := by decide +kernel
theorem dX0_weigh_69 : decode cX0_weigh 69 = .ok (.getfield 18, 3) := by decide +kernel
theorem dX0_weigh_72 : decode cX0_weigh 72 = .ok (.iload_n 2, 1) := by decide +kernel
theorem dX0_weigh_73 : decode cX0_weigh 73 = .ok (.iload 7, 2) := by decide +kernel
theorem dX0_weigh_75 : decode cX0_weigh 75 = .ok (.iadd, 1) := by decide +kernel
theorem dX0_weigh_76 : decode cX0_weigh 76 = .ok (.iaload, 1) := by decide +kernel
theorem dX0_weigh_77 : decode cX0_weigh 77 = .ok (.i2l, 1) := by decide +kernel
theorem dX0_weigh_78 : decode cX0_weigh 78 = .ok (.ladd, 1) := by decide +kernel
theorem dX0_weigh_79 : decode cX0_weigh 79 = .ok (.lstore 5, 2) := by decide +kernel
theorem dX0_weigh_81 : decode cX0_weigh 81 = .ok (.iinc 7 1, 3) := by decide +kernel
theorem dX0_weigh_84 : decode cX0_weigh 84 = .ok (.goto (-45), 3) := by decide +kernel
theorem dX0_weigh_87 : decode cX0_weigh 87 = .ok (.lload 5, 2) := by decide +kernel
theorem dX0_weigh_89 : decode cX0_weigh 89 = .ok (.lconst 1, 1) := by decide +kernel
theorem dX0_weigh_90 : decode cX0_weigh 90 = .ok (.invokestatic 133, 3) := by decide +kernel
theorem dX0_weigh_93 : decode cX0_weigh 93 = .ok (.lstore 5, 2) := by decide +kernel
theorem dX0_weigh_95 : decode cX0_weigh 95 = .ok (.aload_n 0, 1) := by decide +kernel
theorem dX0_weigh_96 : decode cX0_weigh 96 = .ok (.getfield 38, 3) := by decide +kernel
theorem dX0_weigh_99 : decode cX0_weigh 99 = .ok (.ifCond .eq 36, 3) := by decide +kernel
theorem dX0_weigh_102 : decode cX0_weigh 102 = .ok (.iload_n 1, 1) := by decide +kernel
theorem dX0_weigh_103 : decode cX0_weigh 103 = .ok (.aload_n 0, 1) := by decide +kernel
theorem dX0_weigh_104 : decode cX0_weigh 104 = .ok (.getfield 115, 3) := by decide +kernel
theorem dX0_weigh_107 : decode cX0_weigh 107 = .ok (.if_icmp .lt 28, 3) := by decide +kernel
theorem dX0_weigh_110 : decode cX0_weigh 110 = .ok (.iload_n 1, 1) := by decide +kernel
theorem dX0_weigh_111 : decode cX0_weigh 111 = .ok (.aload_n 0, 1) := by decide +kernel
theorem dX0_weigh_112 : decode cX0_weigh 112 = .ok (.getfield 115, 3) := by decide +kernel
theorem dX0_weigh_115 : decode cX0_weigh 115 = .ok (.if_icmp .ne 81, 3) := by decide +kernel
theorem dX0_weigh_118 : decode cX0_weigh 118 = .ok (.lload_n 3, 1) := by decide +kernel
theorem dX0_weigh_119 : decode cX0_weigh 119 = .ok (.aload_n 0, 1) := by decide +kernel
theorem dX0_weigh_120 : decode cX0_weigh 120 = .ok (.getfield 78, 3) := by decide +kernel
theorem dX0_weigh_123 : decode cX0_weigh 123 = .ok (.lmul, 1) := by decide +kernel
theorem dX0_weigh_124 : decode cX0_weigh 124 = .ok (.aload_n 0, 1) := by decide +kernel
theorem dX0_weigh_125 : decode cX0_weigh 125 = .ok (.getfield 71, 3) := by decide +kernel
theorem dX0_weigh_128 : decode cX0_weigh 128 = .ok (.lload 5, 2) := by decide +kernel
theorem dX0_weigh_130 : decode cX0_weigh 130 = .ok (.lmul, 1) := by decide +kernel
theorem dX0_weigh_131 : decode cX0_weigh 131 = .ok (.lcmp, 1) := by decide +kernel
theorem dX0_weigh_132 : decode cX0_weigh 132 = .ok (.ifCond .le 64, 3) := by decide +kernel
theorem dX0_weigh_135 : decode cX0_weigh 135 = .ok (.aload_n 0, 1) := by decide +kernel
theorem dX0_weigh_136 : decode cX0_weigh 136 = .ok (.iconst 1, 1) := by decide +kernel
theorem dX0_weigh_137 : decode cX0_weigh 137 = .ok (.putfield 38, 3) := by decide +kernel
theorem dX0_weigh_140 : decode cX0_weigh 140 = .ok (.aload_n 0, 1) := by decide +kernel
theorem dX0_weigh_141 : decode cX0_weigh 141 = .ok (.iload_n 1, 1) := by decide +kernel
theorem dX0_weigh_142 : decode cX0_weigh 142 = .ok (.putfield 115, 3) := by decide +kernel
theorem dX0_weigh_145 : decode cX0_weigh 145 = .ok (.aload_n 0, 1) := by decide +kernel
theorem dX0_weigh_146 : decode cX0_weigh 146 = .ok (.lload_n 3, 1) := by decide +kernel
theorem dX0_weigh_147 : decode cX0_weigh 147 = .ok (.putfield 71, 3) := by decide +kernel
theorem dX0_weigh_150 : decode cX0_weigh 150 = .ok (.aload_n 0, 1) := by decide +kernel
theorem dX0_weigh_151 : decode cX0_weigh 151 = .ok (.lload 5, 2) := by decide +kernel
theorem dX0_weigh_153 : decode cX0_weigh 153 = .ok (.putfield 78, 3) := by decide +kernel
theorem dX0_weigh_156 : decode cX0_weigh 156 = .ok (.aload_n 0, 1) := by decide +kernel
theorem dX0_weigh_157 : decode cX0_weigh 157 = .ok (.getfield 21, 3) := by decide +kernel
theorem dX0_weigh_160 : decode cX0_weigh 160 = .ok (.iconst 0, 1) := by decide +kernel
theorem dX0_weigh_161 : decode cX0_weigh 161 = .ok (.aload_n 0, 1) := by decide +kernel
theorem dX0_weigh_162 : decode cX0_weigh 162 = .ok (.getfield 24, 3) := by decide +kernel
theorem dX0_weigh_165 : decode cX0_weigh 165 = .ok (.iconst 0, 1) := by decide +kernel
theorem dX0_weigh_166 : decode cX0_weigh 166 = .ok (.aload_n 0, 1) := by decide +kernel
theorem dX0_weigh_167 : decode cX0_weigh 167 = .ok (.getfield 30, 3) := by decide +kernel
theorem dX0_weigh_170 : decode cX0_weigh 170 = .ok (.getfield 65, 3) := by decide +kernel
theorem dX0_weigh_173 : decode cX0_weigh 173 = .ok (.invokestatic 121, 3) := by decide +kernel
theorem dX0_weigh_176 : decode cX0_weigh 176 = .ok (.aload_n 0, 1) := by decide +kernel
theorem dX0_weigh_177 : decode cX0_weigh 177 = .ok (.getfield 18, 3) := by decide +kernel
theorem dX0_weigh_180 : decode cX0_weigh 180 = .ok (.iload_n 2, 1) := by decide +kernel
theorem dX0_weigh_181 : decode cX0_weigh 181 = .ok (.aload_n 0, 1) := by decide +kernel
theorem dX0_weigh_182 : decode cX0_weigh 182 = .ok (.getfield 27, 3) := by decide +kernel
theorem dX0_weigh_185 : decode cX0_weigh 185 = .ok (.iconst 0, 1) := by decide +kernel
theorem dX0_weigh_186 : decode cX0_weigh 186 = .ok (.aload_n 0, 1) := by decide +kernel
theorem dX0_weigh_187 : decode cX0_weigh 187 = .ok (.getfield 30, 3) := by decide +kernel
theorem dX0_weigh_190 : decode cX0_weigh 190 = .ok (.getfield 75, 3) := by decide +kernel
theorem dX0_weigh_193 : decode cX0_weigh 193 = .ok (.invokestatic 121, 3) := by decide +kernel
theorem dX0_weigh_196 : decode cX0_weigh 196 = .ok (.return_, 1) := by decide +kernel
theorem dX1_init_0 : decode cX1_init 0 = .ok (.aload_n 0, 1) := by decide +kernel
theorem dX1_init_1 : decode cX1_init 1 = .ok (.invokespecial 3, 3) := by decide +kernel
theorem dX1_init_4 : decode cX1_init 4 = .ok (.aload_n 0, 1) := by decide +kernel
theorem dX1_init_5 : decode cX1_init 5 = .ok (.bipush 7, 2) := by decide +kernel
theorem dX1_init_7 : decode cX1_init 7 = .ok (.newarray .int, 2) := by decide +kernel
theorem dX1_init_9 : decode cX1_init 9 = .ok (.putfield 9, 3) := by decide +kernel
theorem dX1_init_12 : decode cX1_init 12 = .ok (.aload_n 0, 1) := by decide +kernel
theorem dX1_init_13 : decode cX1_init 13 = .ok (.bipush 16, 2) := by decide +kernel
theorem dX1_init_15 : decode cX1_init 15 = .ok (.newarray .int, 2) := by decide +kernel
theorem dX1_init_17 : decode cX1_init 17 = .ok (.putfield 15, 3) := by decide +kernel
theorem dX1_init_20 : decode cX1_init 20 = .ok (.aload_n 0, 1) := by decide +kernel
theorem dX1_init_21 : decode cX1_init 21 = .ok (.bipush 7, 2) := by decide +kernel
theorem dX1_init_23 : decode cX1_init 23 = .ok (.newarray .int, 2) := by decide +kernel
theorem dX1_init_25 : decode cX1_init 25 = .ok (.putfield 18, 3) := by decide +kernel
theorem dX1_init_28 : decode cX1_init 28 = .ok (.aload_n 0, 1) := by decide +kernel
theorem dX1_init_29 : decode cX1_init 29 = .ok (.bipush 7, 2) := by decide +kernel
theorem dX1_init_31 : decode cX1_init 31 = .ok (.newarray .int, 2) := by decide +kernel
theorem dX1_init_33 : decode cX1_init 33 = .ok (.putfield 21, 3) := by decide +kernel
theorem dX1_init_36 : decode cX1_init 36 = .ok (.aload_n 0, 1) := by decide +kernel
theorem dX1_init_37 : decode cX1_init 37 = .ok (.bipush 10, 2) := by decide +kernel
theorem dX1_init_39 : decode cX1_init 39 = .ok (.putfield 24, 3) := by decide +kernel
theorem dX1_init_42 : decode cX1_init 42 = .ok (.aload_n 0, 1) := by decide +kernel
theorem dX1_init_43 : decode cX1_init 43 = .ok (.aload_n 1, 1) := by decide +kernel
theorem dX1_init_44 : decode cX1_init 44 = .ok (.putfield 28, 3) := by decide +kernel
theorem dX1_init_47 : decode cX1_init 47 = .ok (.aload_n 0, 1) := by decide +kernel
theorem dX1_init_48 : decode cX1_init 48 = .ok (.aload_n 2, 1) := by decide +kernel
theorem dX1_init_49 : decode cX1_init 49 = .ok (.putfield 32, 3) := by decide +kernel
theorem dX1_init_52 : decode cX1_init 52 = .ok (.iconst 0, 1) := by decide +kernel
theorem dX1_init_53 : decode cX1_init 53 = .ok (.istore_n 3, 1) := by decide +kernel
theorem dX1_init_54 : decode cX1_init 54 = .ok (.iload_n 3, 1) := by decide +kernel
theorem dX1_init_55 : decode cX1_init 55 = .ok (.bipush 7, 2) := by decide +kernel
theorem dX1_init_57 : decode cX1_init 57 = .ok (.if_icmp .ge 16, 3) := by decide +kernel
theorem dX1_init_60 : decode cX1_init 60 = .ok (.aload_n 0, 1) := by decide +kernel
theorem dX1_init_61 : decode cX1_init 61 = .ok (.getfield 9, 3) := by decide +kernel
theorem dX1_init_64 : decode cX1_init 64 = .ok (.iload_n 3, 1) := by decide +kernel
theorem dX1_init_65 : decode cX1_init 65 = .ok (.iconst (-1), 1) := by decide +kernel
theorem dX1_init_66 : decode cX1_init 66 = .ok (.iastore, 1) := by decide +kernel
theorem dX1_init_67 : decode cX1_init 67 = .ok (.iinc 3 1, 3) := by decide +kernel
theorem dX1_init_70 : decode cX1_init 70 = .ok (.goto (-16), 3) := by decide +kernel
theorem dX1_init_73 : decode cX1_init 73 = .ok (.return_, 1) := by decide +kernel
set_option maxRecDepth 20000 in
theorem ggX1_startAnew_J7_fill_53178 : GoodIn wsX1_startAnew wsJ7_fill_53178 := goodIn_r _ [6] (by decide +kernel) (by decide +kernel)
set_option maxRecDepth 20000 in
theorem gX1_startAnew_J7_fill_53178 : GoodIn wsX1_startAnew (va_wsS RX1 36 yJ7_fill_53178 wsJ7_fill_53178) := goodIn_app (goodIn_of _ (by decide +kernel)) ggX1_startAnew_J7_fill_53178
theorem dX1_startAnew_0 : decode cX1_startAnew 0 = .ok (.aload_n 0, 1) := by decide +kernel
theorem dX1_startAnew_1 : decode cX1_startAnew 1 = .ok (.getfield 18, 3) := by decide +kernel
theorem dX1_startAnew_4 : decode cX1_startAnew 4 = .ok (.iconst 0, 1) := by decide +kernel
theorem dX1_startAnew_5 : decode cX1_startAnew 5 = .ok (.invokestatic 36, 3) := by decide +kernel
theorem dX1_startAnew_8 : decode cX1_startAnew 8 = .ok (.aload_n 0, 1) := by decide +kernel
theorem dX1_startAnew_9 : decode cX1_startAnew 9 = .ok (.getfield 21, 3) := by decide +kernel
theorem dX1_startAnew_12 : decode cX1_startAnew 12 = .ok (.iconst 0, 1) := by decide +kernel
theorem dX1_startAnew_13 : decode cX1_startAnew 13 = .ok (.invokestatic 36, 3) := by decide +kernel
theorem dX1_startAnew_16 : decode cX1_startAnew 16 = .ok (.return_, 1) := by decide +kernel
set_option maxRecDepth 20000 in
theorem ggX1_pass_X1_follow : GoodIn wsX1_pass wsX1_follow := goodIn_r _ [10, 11, 12, 13, 14, 9, 15, 16, 1, 17, 18, 3, 19, 20, 21, 22, 23, 24, 25, 26, 27, 28, 29, 30, 31, 32, 33, 34, 35, 36, 37, 38, 39, 40, 41, 42, 43, 44, 45, 46, 47, 48, 49, 50, 51, 4, 52, 53, 54, 55, 56, 57, 58, 59, 60, 61, 62, 63, 64, 65, 66, 67, 68, 69, 70, 71, 72, 73, 74, 75, 76, 77, 78, 79, 80, 81, 82, 83, 84, 85, 86, 87, 88, 89, 90, 91, 92, 93, 94, 95] (by decide +kernel) (by decide +kernel)
set_option maxRecDepth 20000 in
theorem gX1_pass_X1_follow : GoodIn wsX1_pass (wsV RX1 52 RX1 yX1_follow wsX1_follow) := goodIn_app (goodIn_of _ (by decide +kernel)) ggX1_pass_X1_follow
theorem dX1_pass_0 : decode cX1_pass 0 = .ok (.iconst 0, 1) := by decide +kernel
theorem dX1_pass_1 : decode cX1_pass 1 = .ok (.istore_n 2, 1) := by decide +kernel
theorem dX1_pass_2 : decode cX1_pass 2 = .ok (.iload_n 2, 1) := by decide +kernel
theorem dX1_pass_3 : decode cX1_pass 3 = .ok (.aload_n 0, 1) := by decide +kernel
theorem dX1_pass_4 : decode cX1_pass 4 = .ok (.getfield 28, 3) := by decide +kernel
theorem dX1_pass_7 : decode cX1_pass 7 = .ok (.getfield 42, 3) := by decide +kernel
theorem dX1_pass_10 : decode cX1_pass 10 = .ok (.if_icmp .ge 28, 3) := by decide +kernel
theorem dX1_pass_13 : decode cX1_pass 13 = .ok (.aload_n 0, 1) := by decide +kernel
theorem dX1_pass_14 : decode cX1_pass 14 = .ok (.getfield 32, 3) := by decide +kernel
theorem dX1_pass_17 : decode cX1_pass 17 = .ok (.getfield 47, 3) := by decide +kernel
theorem dX1_pass_20 : decode cX1_pass 20 = .ok (.iload_n 2, 1) := by decide +kernel
theorem dX1_pass_21 : decode cX1_pass 21 = .ok (.iaload, 1) := by decide +kernel
theorem dX1_pass_22 : decode cX1_pass 22 = .ok (.iconst (-1), 1) := by decide +kernel
theorem dX1_pass_23 : decode cX1_pass 23 = .ok (.if_icmp .eq 9, 3) := by decide +kernel
theorem dX1_pass_26 : decode cX1_pass 26 = .ok (.aload_n 0, 1) := by decide +kernel
theorem dX1_pass_27 : decode cX1_pass 27 = .ok (.iload_n 2, 1) := by decide +kernel
theorem dX1_pass_28 : decode cX1_pass 28 = .ok (.iload_n 1, 1) := by decide +kernel
theorem dX1_pass_29 : decode cX1_pass 29 = .ok (.invokevirtual 52, 3) := by decide +kernel
theorem dX1_pass_32 : decode cX1_pass 32 = .ok (.iinc 2 1, 3) := by decide +kernel
theorem dX1_pass_35 : decode cX1_pass 35 = .ok (.goto (-33), 3) := by decide +kernel
theorem dX1_pass_38 : decode cX1_pass 38 = .ok (.aload_n 0, 1) := by decide +kernel
theorem dX1_pass_39 : decode cX1_pass 39 = .ok (.dup, 1) := by decide +kernel
theorem dX1_pass_40 : decode cX1_pass 40 = .ok (.getfield 56, 3) := by decide +kernel
theorem dX1_pass_43 : decode cX1_pass 43 = .ok (.iload_n 1, 1) := by decide +kernel
theorem dX1_pass_44 : decode cX1_pass 44 = .ok (.iadd, 1) := by decide +kernel
theorem dX1_pass_45 : decode cX1_pass 45 = .ok (.putfield 56, 3) := by decide +kernel
theorem dX1_pass_48 : decode cX1_pass 48 = .ok (.return_, 1) := by decide +kernel
set_option maxRecDepth 20000 in
theorem ggX1_follow_X1_needOf : GoodIn wsX1_follow wsX1_needOf := goodIn_r _ [6, 7, 8, 9, 10, 11, 12, 13, 14, 15, 16, 17, 18, 19, 20, 21, 22, 23, 24, 25, 26, 27, 28, 29, 53, 54, 55, 56, 57, 58, 59, 60, 61, 62, 63, 64, 65, 66, 67, 68, 69, 70, 71, 72, 73, 74, 75, 76, 77, 78, 79, 80, 81, 82, 83, 84, 85, 86, 87, 88, 89] (by decide +kernel) (by decide +kernel)
set_option maxRecDepth 20000 in
theorem gX1_follow_X1_needOf : GoodIn wsX1_follow (wsV RX1 59 RX1 yX1_needOf wsX1_needOf) := goodIn_app (goodIn_of _ (by decide +kernel)) ggX1_follow_X1_needOf
set_option maxRecDepth 20000 in
theorem ggX1_follow_X1_stepTowards : GoodIn wsX1_follow wsX1_stepTowards := goodIn_r _ [33, 34, 35, 36, 15, 37, 38, 39, 40, 53, 54, 55, 56, 57, 58, 59, 60, 61, 62, 63] (by decide +kernel) (by decide +kernel)
set_option maxRecDepth 20000 in
theorem gX1_follow_X1_stepTowards : GoodIn wsX1_follow (wsV RX1 63 RX1 yX1_stepTowards wsX1_stepTowards) := goodIn_app (goodIn_of _ (by decide +kernel)) ggX1_follow_X1_stepTowards
set_option maxRecDepth 20000 in
theorem ggX1_follow_X1_shine : GoodIn wsX1_follow wsX1_shine := goodIn_r _ [44, 11, 45, 1, 46, 8, 47, 48, 49, 50, 51, 52, 27, 28, 29, 53, 54, 55, 56, 57, 58, 59, 60, 61, 62, 63, 78, 79, 80, 81, 82, 83, 84, 85, 86, 87, 88, 89, 64, 65, 66, 67, 68, 69, 70, 71, 72, 73, 74, 75, 76, 77] (by decide +kernel) (by decide +kernel)
set_option maxRecDepth 20000 in
theorem gX1_follow_X1_shine : GoodIn wsX1_follow (wsV RX1 67 RX1 yX1_shine wsX1_shine) := goodIn_app (goodIn_of _ (by decide +kernel)) ggX1_follow_X1_shine
theorem dX1_follow_0 : decode cX1_follow 0 = .ok (.aload_n 0, 1) := by decide +kernel
theorem dX1_follow_1 : decode cX1_follow 1 = .ok (.iload_n 1, 1) := by decide +kernel
theorem dX1_follow_2 : decode cX1_follow 2 = .ok (.invokevirtual 59, 3) := by decide +kernel
theorem dX1_follow_5 : decode cX1_follow 5 = .ok (.istore_n 3, 1) := by decide +kernel
theorem dX1_follow_6 : decode cX1_follow 6 = .ok (.iload_n 2, 1) := by decide +kernel
theorem dX1_follow_7 : decode cX1_follow 7 = .ok (.istore 4, 2) := by decide +kernel
theorem dX1_follow_9 : decode cX1_follow 9 = .ok (.iload 4, 2) := by decide +kernel
theorem dX1_follow_11 : decode cX1_follow 11 = .ok (.ifCond .le 42, 3) := by decide +kernel
theorem dX1_follow_14 : decode cX1_follow 14 = .ok (.aload_n 0, 1) := by decide +kernel
theorem dX1_follow_15 : decode cX1_follow 15 = .ok (.getfield 18, 3) := by decide +kernel
theorem dX1_follow_18 : decode cX1_follow 18 = .ok (.iload_n 1, 1) := by decide +kernel
theorem dX1_follow_19 : decode cX1_follow 19 = .ok (.iaload, 1) := by decide +kernel
theorem dX1_follow_20 : decode cX1_follow 20 = .ok (.iload_n 3, 1) := by decide +kernel
theorem dX1_follow_21 : decode cX1_follow 21 = .ok (.if_icmp .eq 32, 3) := by decide +kernel
theorem dX1_follow_24 : decode cX1_follow 24 = .ok (.aload_n 0, 1) := by decide +kernel
theorem dX1_follow_25 : decode cX1_follow 25 = .ok (.getfield 18, 3) := by decide +kernel
theorem dX1_follow_28 : decode cX1_follow 28 = .ok (.iload_n 1, 1) := by decide +kernel
theorem dX1_follow_29 : decode cX1_follow 29 = .ok (.aload_n 0, 1) := by decide +kernel
theorem dX1_follow_30 : decode cX1_follow 30 = .ok (.aload_n 0, 1) := by decide +kernel
theorem dX1_follow_31 : decode cX1_follow 31 = .ok (.getfield 18, 3) := by decide +kernel
theorem dX1_follow_34 : decode cX1_follow 34 = .ok (.iload_n 1, 1) := by decide +kernel
theorem dX1_follow_35 : decode cX1_follow 35 = .ok (.iaload, 1) := by decide +kernel
theorem dX1_follow_36 : decode cX1_follow 36 = .ok (.iload_n 3, 1) := by decide +kernel
theorem dX1_follow_37 : decode cX1_follow 37 = .ok (.invokevirtual 63, 3) := by decide +kernel
theorem dX1_follow_40 : decode cX1_follow 40 = .ok (.iastore, 1) := by decide +kernel
theorem dX1_follow_41 : decode cX1_follow 41 = .ok (.aload_n 0, 1) := by decide +kernel
theorem dX1_follow_42 : decode cX1_follow 42 = .ok (.iload_n 1, 1) := by decide +kernel
theorem dX1_follow_43 : decode cX1_follow 43 = .ok (.iconst 1, 1) := by decide +kernel
theorem dX1_follow_44 : decode cX1_follow 44 = .ok (.invokevirtual 67, 3) := by decide +kernel
theorem dX1_follow_47 : decode cX1_follow 47 = .ok (.iinc 4 (-1), 3) := by decide +kernel
theorem dX1_follow_50 : decode cX1_follow 50 = .ok (.goto (-41), 3) := by decide +kernel
theorem dX1_follow_53 : decode cX1_follow 53 = .ok (.aload_n 0, 1) := by decide +kernel
theorem dX1_follow_54 : decode cX1_follow 54 = .ok (.iload_n 1, 1) := by decide +kernel
theorem dX1_follow_55 : decode cX1_follow 55 = .ok (.iload 4, 2) := by decide +kernel
theorem dX1_follow_57 : decode cX1_follow 57 = .ok (.invokevirtual 67, 3) := by decide +kernel
theorem dX1_follow_60 : decode cX1_follow 60 = .ok (.return_, 1) := by decide +kernel
theorem dX1_stepTowards_0 : decode cX1_stepTowards 0 = .ok (.iload_n 1, 1) := by decide +kernel
theorem dX1_stepTowards_1 : decode cX1_stepTowards 1 = .ok (.aload_n 0, 1) := by decide +kernel
theorem dX1_stepTowards_2 : decode cX1_stepTowards 2 = .ok (.getfield 24, 3) := by decide +kernel
theorem dX1_stepTowards_5 : decode cX1_stepTowards 5 = .ok (.isub, 1) := by decide +kernel
theorem dX1_stepTowards_6 : decode cX1_stepTowards 6 = .ok (.iload_n 1, 1) := by decide +kernel
theorem dX1_stepTowards_7 : decode cX1_stepTowards 7 = .ok (.aload_n 0, 1) := by decide +kernel
