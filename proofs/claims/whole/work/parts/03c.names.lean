set_option maxRecDepth 20000 in
theorem ggX4_place_X4_checkCount : GoodIn wsX4_place wsX4_checkCount := goodIn_ca (goodIn_r _ [11, 12, 13] (by decide +kernel) (by decide +kernel)) (goodIn_sub (fun _ h => List.mem_cons_of_mem _ (List.mem_append_right _ h)) (by decide +kernel))
set_option maxRecDepth 20000 in
theorem gX4_place_X4_checkCount : GoodIn wsX4_place (va_wsS RX4 50 yX4_checkCount wsX4_checkCount) := goodIn_app (goodIn_of _ (by decide +kernel)) ggX4_place_X4_checkCount
set_option maxRecDepth 20000 in
theorem ggX4_place_X2_addPlace : GoodIn wsX4_place wsX2_addPlace := goodIn_r _ [18, 19, 20, 21, 46, 47, 48, 49, 50, 51, 52, 53, 54, 55, 56, 57, 58, 59] (by decide +kernel) (by decide +kernel)
set_option maxRecDepth 20000 in
theorem gX4_place_X2_addPlace : GoodIn wsX4_place (wsV RX4 64 RX2 yX2_addPlace wsX2_addPlace) := goodIn_app (goodIn_of _ (by decide +kernel)) ggX4_place_X2_addPlace
set_option maxRecDepth 20000 in
theorem ggX4_place_X4_lampsGo : GoodIn wsX4_place wsX4_lampsGo := goodIn_r _ [25, 26, 27, 28, 29, 30, 31, 32, 33, 34, 35, 36, 37, 38, 39, 40, 41, 42, 43, 44, 45, 60, 61, 62, 63, 64, 65, 66, 67, 68, 69, 70, 71, 72, 73, 74, 75, 76, 77, 78, 79, 80, 81, 82, 83, 84, 85, 86, 87, 88, 89] (by decide +kernel) (by decide +kernel)
set_option maxRecDepth 20000 in
theorem gX4_place_X4_lampsGo : GoodIn wsX4_place (wsV RX4 58 RX4 yX4_lampsGo wsX4_lampsGo) := goodIn_app (goodIn_of _ (by decide +kernel)) ggX4_place_X4_lampsGo
theorem dX4_place_0 : decode cX4_place 0 = .ok (.iload_n 1, 1) := by decide +kernel
theorem dX4_place_1 : decode cX4_place 1 = .ok (.iconst 0, 1) := by decide +kernel
theorem dX4_place_2 : decode cX4_place 2 = .ok (.bipush 50, 2) := by decide +kernel
theorem dX4_place_4 : decode cX4_place 4 = .ok (.invokestatic 41, 3) := by decide +kernel
theorem dX4_place_7 : decode cX4_place 7 = .ok (.iload_n 2, 1) := by decide +kernel
theorem dX4_place_8 : decode cX4_place 8 = .ok (.iconst 0, 1) := by decide +kernel
theorem dX4_place_9 : decode cX4_place 9 = .ok (.bipush 50, 2) := by decide +kernel
theorem dX4_place_11 : decode cX4_place 11 = .ok (.invokestatic 41, 3) := by decide +kernel
theorem dX4_place_14 : decode cX4_place 14 = .ok (.aload_n 0, 1) := by decide +kernel
theorem dX4_place_15 : decode cX4_place 15 = .ok (.getfield 15, 3) := by decide +kernel
theorem dX4_place_18 : decode cX4_place 18 = .ok (.getfield 61, 3) := by decide +kernel
theorem dX4_place_21 : decode cX4_place 21 = .ok (.bipush 7, 2) := by decide +kernel
theorem dX4_place_23 : decode cX4_place 23 = .ok (.invokestatic 50, 3) := by decide +kernel
theorem dX4_place_26 : decode cX4_place 26 = .ok (.aload_n 0, 1) := by decide +kernel
theorem dX4_place_27 : decode cX4_place 27 = .ok (.getfield 15, 3) := by decide +kernel
theorem dX4_place_30 : decode cX4_place 30 = .ok (.iload_n 1, 1) := by decide +kernel
theorem dX4_place_31 : decode cX4_place 31 = .ok (.iload_n 2, 1) := by decide +kernel
theorem dX4_place_32 : decode cX4_place 32 = .ok (.invokevirtual 64, 3) := by decide +kernel
theorem dX4_place_35 : decode cX4_place 35 = .ok (.istore_n 3, 1) := by decide +kernel
theorem dX4_place_36 : decode cX4_place 36 = .ok (.aload_n 0, 1) := by decide +kernel
theorem dX4_place_37 : decode cX4_place 37 = .ok (.invokevirtual 58, 3) := by decide +kernel
theorem dX4_place_40 : decode cX4_place 40 = .ok (.iload_n 3, 1) := by decide +kernel
theorem dX4_place_41 : decode cX4_place 41 = .ok (.ireturn, 1) := by decide +kernel
set_option maxRecDepth 20000 in
theorem ggX4_point_X4_checkBounds : GoodIn wsX4_point wsX4_checkBounds := goodIn_ca (goodIn_r _ [7, 8, 9] (by decide +kernel) (by decide +kernel)) (goodIn_sub (fun _ h => List.mem_cons_of_mem _ (List.mem_append_left _ (List.mem_append_right _ h))) (by decide +kernel))
set_option maxRecDepth 20000 in
theorem gX4_point_X4_checkBounds : GoodIn wsX4_point (va_wsS RX4 41 yX4_checkBounds wsX4_checkBounds) := goodIn_app (goodIn_of _ (by decide +kernel)) ggX4_point_X4_checkBounds
set_option maxRecDepth 20000 in
theorem ggX4_point_X4_checkCount : GoodIn wsX4_point wsX4_checkCount := goodIn_ca (goodIn_r _ [12, 13, 14] (by decide +kernel) (by decide +kernel)) (goodIn_sub (fun _ h => List.mem_cons_of_mem _ (List.mem_append_right _ h)) (by decide +kernel))
set_option maxRecDepth 20000 in
theorem gX4_point_X4_checkCount : GoodIn wsX4_point (va_wsS RX4 50 yX4_checkCount wsX4_checkCount) := goodIn_app (goodIn_of _ (by decide +kernel)) ggX4_point_X4_checkCount
set_option maxRecDepth 20000 in
theorem ggX4_point_X2_addPoint : GoodIn wsX4_point wsX2_addPoint := goodIn_r _ [19, 20, 21, 22, 23, 48, 49, 50, 51, 52, 53, 54, 55, 56, 57, 58, 59, 60, 61] (by decide +kernel) (by decide +kernel)
set_option maxRecDepth 20000 in
theorem gX4_point_X2_addPoint : GoodIn wsX4_point (wsV RX4 71 RX2 yX2_addPoint wsX2_addPoint) := goodIn_app (goodIn_of _ (by decide +kernel)) ggX4_point_X2_addPoint
set_option maxRecDepth 20000 in
theorem ggX4_point_X4_lampsGo : GoodIn wsX4_point wsX4_lampsGo := goodIn_r _ [27, 28, 29, 30, 31, 32, 33, 34, 35, 36, 37, 38, 39, 40, 41, 42, 43, 44, 45, 46, 47, 62, 63, 64, 65, 66, 67, 68, 69, 70, 71, 72, 73, 74, 75, 76, 77, 78, 79, 80, 81, 82, 83, 84, 85, 86, 87, 88, 89, 90, 91] (by decide +kernel) (by decide +kernel)
set_option maxRecDepth 20000 in
theorem gX4_point_X4_lampsGo : GoodIn wsX4_point (wsV RX4 58 RX4 yX4_lampsGo wsX4_lampsGo) := goodIn_app (goodIn_of _ (by decide +kernel)) ggX4_point_X4_lampsGo
theorem dX4_point_0 : decode cX4_point 0 = .ok (.iload_n 1, 1) := by decide +kernel
theorem dX4_point_1 : decode cX4_point 1 = .ok (.iconst 0, 1) := by decide +kernel
theorem dX4_point_2 : decode cX4_point 2 = .ok (.bipush 50, 2) := by decide +kernel
theorem dX4_point_4 : decode cX4_point 4 = .ok (.invokestatic 41, 3) := by decide +kernel
theorem dX4_point_7 : decode cX4_point 7 = .ok (.iload_n 2, 1) := by decide +kernel
theorem dX4_point_8 : decode cX4_point 8 = .ok (.iconst 0, 1) := by decide +kernel
theorem dX4_point_9 : decode cX4_point 9 = .ok (.bipush 50, 2) := by decide +kernel
theorem dX4_point_11 : decode cX4_point 11 = .ok (.invokestatic 41, 3) := by decide +kernel
theorem dX4_point_14 : decode cX4_point 14 = .ok (.iload_n 3, 1) := by decide +kernel
theorem dX4_point_15 : decode cX4_point 15 = .ok (.iconst 0, 1) := by decide +kernel
theorem dX4_point_16 : decode cX4_point 16 = .ok (.ldc 45, 2) := by decide +kernel
theorem dX4_point_18 : decode cX4_point 18 = .ok (.invokestatic 41, 3) := by decide +kernel
theorem dX4_point_21 : decode cX4_point 21 = .ok (.aload_n 0, 1) := by decide +kernel
theorem dX4_point_22 : decode cX4_point 22 = .ok (.getfield 15, 3) := by decide +kernel
theorem dX4_point_25 : decode cX4_point 25 = .ok (.getfield 68, 3) := by decide +kernel
theorem dX4_point_28 : decode cX4_point 28 = .ok (.bipush 16, 2) := by decide +kernel
theorem dX4_point_30 : decode cX4_point 30 = .ok (.invokestatic 50, 3) := by decide +kernel
theorem dX4_point_33 : decode cX4_point 33 = .ok (.aload_n 0, 1) := by decide +kernel
theorem dX4_point_34 : decode cX4_point 34 = .ok (.getfield 15, 3) := by decide +kernel
theorem dX4_point_37 : decode cX4_point 37 = .ok (.iload_n 1, 1) := by decide +kernel
theorem dX4_point_38 : decode cX4_point 38 = .ok (.iload_n 2, 1) := by decide +kernel
theorem dX4_point_39 : decode cX4_point 39 = .ok (.iload_n 3, 1) := by decide +kernel
theorem dX4_point_40 : decode cX4_point 40 = .ok (.invokevirtual 71, 3) := by decide +kernel
theorem dX4_point_43 : decode cX4_point 43 = .ok (.istore 4, 2) := by decide +kernel
theorem dX4_point_45 : decode cX4_point 45 = .ok (.aload_n 0, 1) := by decide +kernel
theorem dX4_point_46 : decode cX4_point 46 = .ok (.invokevirtual 58, 3) := by decide +kernel
theorem dX4_point_49 : decode cX4_point 49 = .ok (.iload 4, 2) := by decide +kernel
theorem dX4_point_51 : decode cX4_point 51 = .ok (.ireturn, 1) := by decide +kernel
set_option maxRecDepth 20000 in
theorem ggX4_height_X4_checkBounds : GoodIn wsX4_height wsX4_checkBounds := goodIn_ca (goodIn_r _ [6, 7, 8] (by decide +kernel) (by decide +kernel)) (goodIn_sub (fun _ h => List.mem_cons_of_mem _ (List.mem_append_right _ h)) (by decide +kernel))
set_option maxRecDepth 20000 in
theorem gX4_height_X4_checkBounds : GoodIn wsX4_height (va_wsS RX4 41 yX4_checkBounds wsX4_checkBounds) := goodIn_app (goodIn_of _ (by decide +kernel)) ggX4_height_X4_checkBounds
set_option maxRecDepth 20000 in
theorem ggX4_height_X4_lampsGo : GoodIn wsX4_height wsX4_lampsGo := goodIn_r _ [12, 13, 14, 15, 16, 17, 18, 19, 20, 21, 22, 23, 24, 25, 26, 27, 28, 29, 30, 31, 32, 47, 48, 49, 50, 51, 52, 53, 54, 55, 56, 57, 58, 59, 60, 61, 62, 63, 64, 65, 66, 67, 68, 69, 70, 71, 72, 73, 74, 75, 76] (by decide +kernel) (by decide +kernel)
set_option maxRecDepth 20000 in
theorem gX4_height_X4_lampsGo : GoodIn wsX4_height (wsV RX4 58 RX4 yX4_lampsGo wsX4_lampsGo) := goodIn_app (goodIn_of _ (by decide +kernel)) ggX4_height_X4_lampsGo
theorem dX4_height_0 : decode cX4_height 0 = .ok (.iload_n 1, 1) := by decide +kernel
theorem dX4_height_1 : decode cX4_height 1 = .ok (.iconst 1, 1) := by decide +kernel
theorem dX4_height_2 : decode cX4_height 2 = .ok (.bipush 50, 2) := by decide +kernel
theorem dX4_height_4 : decode cX4_height 4 = .ok (.invokestatic 41, 3) := by decide +kernel
theorem dX4_height_7 : decode cX4_height 7 = .ok (.aload_n 0, 1) := by decide +kernel
theorem dX4_height_8 : decode cX4_height 8 = .ok (.getfield 15, 3) := by decide +kernel
theorem dX4_height_11 : decode cX4_height 11 = .ok (.getfield 75, 3) := by decide +kernel
theorem dX4_height_14 : decode cX4_height 14 = .ok (.istore_n 2, 1) := by decide +kernel
theorem dX4_height_15 : decode cX4_height 15 = .ok (.aload_n 0, 1) := by decide +kernel
theorem dX4_height_16 : decode cX4_height 16 = .ok (.getfield 15, 3) := by decide +kernel
theorem dX4_height_19 : decode cX4_height 19 = .ok (.iload_n 1, 1) := by decide +kernel
theorem dX4_height_20 : decode cX4_height 20 = .ok (.putfield 75, 3) := by decide +kernel
theorem dX4_height_23 : decode cX4_height 23 = .ok (.aload_n 0, 1) := by decide +kernel
theorem dX4_height_24 : decode cX4_height 24 = .ok (.invokevirtual 58, 3) := by decide +kernel
theorem dX4_height_27 : decode cX4_height 27 = .ok (.iload_n 2, 1) := by decide +kernel
theorem dX4_height_28 : decode cX4_height 28 = .ok (.ireturn, 1) := by decide +kernel
set_option maxRecDepth 20000 in
theorem ggX4_hold_X4_checkPlace : GoodIn wsX4_hold wsX4_checkPlace := goodIn_ca (goodIn_r _ [8, 1, 9, 10, 11, 7, 12, 13, 14, 35, 36, 37, 38, 39, 40, 41, 42, 43, 44, 45, 46, 47, 48, 49, 50, 51, 52] (by decide +kernel) (by decide +kernel)) (goodIn_sub (fun _ h => List.mem_cons_of_mem _ (List.mem_append_right _ h)) (by decide +kernel))
set_option maxRecDepth 20000 in
theorem gX4_hold_X4_checkPlace : GoodIn wsX4_hold (wsV RX4 78 RX4 yX4_checkPlace wsX4_checkPlace) := goodIn_app (goodIn_of _ (by decide +kernel)) ggX4_hold_X4_checkPlace
set_option maxRecDepth 20000 in
theorem ggX4_hold_X4_checkBounds : GoodIn wsX4_hold wsX4_checkBounds := goodIn_ca (goodIn_r _ [12, 13, 14] (by decide +kernel) (by decide +kernel)) (goodIn_sub (fun _ h => List.mem_cons_of_mem _ (List.mem_append_right _ h)) (by decide +kernel))
set_option maxRecDepth 20000 in
theorem gX4_hold_X4_checkBounds : GoodIn wsX4_hold (va_wsS RX4 41 yX4_checkBounds wsX4_checkBounds) := goodIn_app (goodIn_of _ (by decide +kernel)) ggX4_hold_X4_checkBounds
set_option maxRecDepth 20000 in
theorem ggX4_hold_X4_lampsGo : GoodIn wsX4_hold wsX4_lampsGo := goodIn_r _ [18, 19, 20, 21, 22, 23, 24, 25, 26, 27, 28, 29, 30, 31, 32, 33, 34, 35, 36, 37, 38, 53, 54, 55, 56, 57, 58, 59, 60, 61, 62, 63, 64, 65, 66, 67, 68, 69, 70, 71, 72, 73, 74, 75, 76, 77, 78, 79, 80, 81, 82] (by decide +kernel) (by decide +kernel)
set_option maxRecDepth 20000 in
theorem gX4_hold_X4_lampsGo : GoodIn wsX4_hold (wsV RX4 58 RX4 yX4_lampsGo wsX4_lampsGo) := goodIn_app (goodIn_of _ (by decide +kernel)) ggX4_hold_X4_lampsGo
theorem dX4_hold_0 : decode cX4_hold 0 = .ok (.aload_n 0, 1) := by decide +kernel
theorem dX4_hold_1 : decode cX4_hold 1 = .ok (.iload_n 1, 1) := by decide +kernel
theorem dX4_hold_2 : decode cX4_hold 2 = .ok (.invokevirtual 78, 3) := by decide +kernel
theorem dX4_hold_5 : decode cX4_hold 5 = .ok (.iload_n 2, 1) := by decide +kernel
theorem dX4_hold_6 : decode cX4_hold 6 = .ok (.bipush (-2), 2) := by decide +kernel
theorem dX4_hold_8 : decode cX4_hold 8 = .ok (.aload_n 0, 1) := by decide +kernel
theorem dX4_hold_9 : decode cX4_hold 9 = .ok (.getfield 15, 3) := by decide +kernel
theorem dX4_hold_12 : decode cX4_hold 12 = .ok (.getfield 46, 3) := by decide +kernel
theorem dX4_hold_15 : decode cX4_hold 15 = .ok (.iconst 1, 1) := by decide +kernel
theorem dX4_hold_16 : decode cX4_hold 16 = .ok (.isub, 1) := by decide +kernel
theorem dX4_hold_17 : decode cX4_hold 17 = .ok (.invokestatic 41, 3) := by decide +kernel
theorem dX4_hold_20 : decode cX4_hold 20 = .ok (.aload_n 0, 1) := by decide +kernel
theorem dX4_hold_21 : decode cX4_hold 21 = .ok (.getfield 15, 3) := by decide +kernel
theorem dX4_hold_24 : decode cX4_hold 24 = .ok (.getfield 82, 3) := by decide +kernel
theorem dX4_hold_27 : decode cX4_hold 27 = .ok (.iload_n 1, 1) := by decide +kernel
theorem dX4_hold_28 : decode cX4_hold 28 = .ok (.iload_n 2, 1) := by decide +kernel
theorem dX4_hold_29 : decode cX4_hold 29 = .ok (.iastore, 1) := by decide +kernel
theorem dX4_hold_30 : decode cX4_hold 30 = .ok (.aload_n 0, 1) := by decide +kernel
theorem dX4_hold_31 : decode cX4_hold 31 = .ok (.invokevirtual 58, 3) := by decide +kernel
theorem dX4_hold_34 : decode cX4_hold 34 = .ok (.return_, 1) := by decide +kernel
set_option maxRecDepth 20000 in
theorem ggX4_light_X4_checkBounds : GoodIn wsX4_light wsX4_checkBounds := goodIn_ca (goodIn_r _ [6, 7, 8] (by decide +kernel) (by decide +kernel)) (goodIn_sub (fun _ h => List.mem_cons_of_mem _ (List.mem_append_right _ h)) (by decide +kernel))
set_option maxRecDepth 20000 in
theorem gX4_light_X4_checkBounds : GoodIn wsX4_light (va_wsS RX4 41 yX4_checkBounds wsX4_checkBounds) := goodIn_app (goodIn_of _ (by decide +kernel)) ggX4_light_X4_checkBounds
set_option maxRecDepth 20000 in
theorem ggX4_light_X4_checkPlace : GoodIn wsX4_light wsX4_checkPlace := goodIn_ca (goodIn_r _ [12, 1, 13, 3, 4, 5, 6, 7, 8, 33, 34, 35, 36, 37, 38, 39, 40, 41, 42, 43, 44, 45, 46, 47, 48, 49, 50] (by decide +kernel) (by decide +kernel)) (goodIn_sub (fun _ h => List.mem_cons_of_mem _ (List.mem_append_right _ h)) (by decide +kernel))
set_option maxRecDepth 20000 in
theorem gX4_light_X4_checkPlace : GoodIn wsX4_light (wsV RX4 78 RX4 yX4_checkPlace wsX4_checkPlace) := goodIn_app (goodIn_of _ (by decide +kernel)) ggX4_light_X4_checkPlace
set_option maxRecDepth 20000 in
theorem ggX4_light_X4_checkPoint : GoodIn wsX4_light wsX4_checkPoint := goodIn_ca (goodIn_r _ [17, 1, 18, 3, 4, 5, 6, 7, 8, 33, 34, 35, 36, 37, 38, 39, 40, 41, 42, 43, 44, 45, 46, 47, 48, 49, 50] (by decide +kernel) (by decide +kernel)) (goodIn_sub (fun _ h => List.mem_cons_of_mem _ (List.mem_append_right _ h)) (by decide +kernel))
set_option maxRecDepth 20000 in
theorem gX4_light_X4_checkPoint : GoodIn wsX4_light (wsV RX4 86 RX4 yX4_checkPoint wsX4_checkPoint) := goodIn_app (goodIn_of _ (by decide +kernel)) ggX4_light_X4_checkPoint
set_option maxRecDepth 20000 in
theorem ggX4_light_X2_lightOf : GoodIn wsX4_light wsX2_lightOf := goodIn_r _ [23, 24, 25, 26, 27, 28, 29, 30, 31, 5, 32, 37, 38, 39, 40, 41, 42, 43, 44, 45, 46, 47, 48, 49, 50] (by decide +kernel) (by decide +kernel)
set_option maxRecDepth 20000 in
theorem gX4_light_X2_lightOf : GoodIn wsX4_light (wsV RX4 89 RX2 yX2_lightOf wsX2_lightOf) := goodIn_app (goodIn_of _ (by decide +kernel)) ggX4_light_X2_lightOf
theorem dX4_light_0 : decode cX4_light 0 = .ok (.iload_n 1, 1) := by decide +kernel
theorem dX4_light_1 : decode cX4_light 1 = .ok (.iconst 0, 1) := by decide +kernel
theorem dX4_light_2 : decode cX4_light 2 = .ok (.aload_n 0, 1) := by decide +kernel
theorem dX4_light_3 : decode cX4_light 3 = .ok (.getfield 15, 3) := by decide +kernel
theorem dX4_light_6 : decode cX4_light 6 = .ok (.getfield 46, 3) := by decide +kernel
theorem dX4_light_9 : decode cX4_light 9 = .ok (.iconst 1, 1) := by decide +kernel
theorem dX4_light_10 : decode cX4_light 10 = .ok (.isub, 1) := by decide +kernel
theorem dX4_light_11 : decode cX4_light 11 = .ok (.invokestatic 41, 3) := by decide +kernel
theorem dX4_light_14 : decode cX4_light 14 = .ok (.aload_n 0, 1) := by decide +kernel
theorem dX4_light_15 : decode cX4_light 15 = .ok (.iload_n 2, 1) := by decide +kernel
theorem dX4_light_16 : decode cX4_light 16 = .ok (.invokevirtual 78, 3) := by decide +kernel
theorem dX4_light_19 : decode cX4_light 19 = .ok (.aload_n 0, 1) := by decide +kernel
theorem dX4_light_20 : decode cX4_light 20 = .ok (.iload_n 3, 1) := by decide +kernel
theorem dX4_light_21 : decode cX4_light 21 = .ok (.invokevirtual 86, 3) := by decide +kernel
theorem dX4_light_24 : decode cX4_light 24 = .ok (.aload_n 0, 1) := by decide +kernel
theorem dX4_light_25 : decode cX4_light 25 = .ok (.getfield 15, 3) := by decide +kernel
theorem dX4_light_28 : decode cX4_light 28 = .ok (.iload_n 1, 1) := by decide +kernel
theorem dX4_light_29 : decode cX4_light 29 = .ok (.iload_n 2, 1) := by decide +kernel
theorem dX4_light_30 : decode cX4_light 30 = .ok (.iload_n 3, 1) := by decide +kernel
theorem dX4_light_31 : decode cX4_light 31 = .ok (.invokevirtual 89, 3) := by decide +kernel
theorem dX4_light_34 : decode cX4_light 34 = .ok (.ireturn, 1) := by decide +kernel
set_option maxRecDepth 20000 in
theorem ggX4_best_X0_settle : GoodIn wsX4_best wsX0_settle := goodIn_r _ [8, 9, 10, 11, 12, 13, 14, 15, 16, 17, 18, 7, 19, 20, 21, 22, 23, 24, 25, 26, 27, 28, 29, 30, 31, 32, 33, 34, 35, 36, 37, 38, 39, 40, 41, 42, 43, 44, 45, 46, 47, 48, 49, 50, 51, 52, 53, 54, 55, 56, 57, 58, 59, 60, 61, 62, 63, 64, 65, 66, 67, 68, 69, 70, 71, 72, 73, 74, 75, 76, 77, 78, 79, 80, 81, 82, 83, 84, 85, 86, 87, 88, 89, 90, 91, 92, 93, 94, 95, 96, 97, 98, 103, 104, 105, 106, 107, 108, 109, 110, 111, 112, 113, 114, 115, 116, 117, 118, 119, 120, 121, 122, 123, 124, 125, 126, 127, 128] (by decide +kernel) (by decide +kernel)
set_option maxRecDepth 20000 in
theorem gX4_best_X0_settle : GoodIn wsX4_best (wsV RX4 92 RX0 yX0_settle wsX0_settle) := goodIn_app (goodIn_of _ (by decide +kernel)) ggX4_best_X0_settle
theorem dX4_best_0 : decode cX4_best 0 = .ok (.aload_n 0, 1) := by decide +kernel
theorem dX4_best_1 : decode cX4_best 1 = .ok (.getfield 21, 3) := by decide +kernel
theorem dX4_best_4 : decode cX4_best 4 = .ok (.invokevirtual 92, 3) := by decide +kernel
theorem dX4_best_7 : decode cX4_best 7 = .ok (.aload_n 0, 1) := by decide +kernel
theorem dX4_best_8 : decode cX4_best 8 = .ok (.getfield 21, 3) := by decide +kernel
theorem dX4_best_11 : decode cX4_best 11 = .ok (.getfield 95, 3) := by decide +kernel
theorem dX4_best_14 : decode cX4_best 14 = .ok (.ifCond .eq 13, 3) := by decide +kernel
theorem dX4_best_17 : decode cX4_best 17 = .ok (.aload_n 0, 1) := by decide +kernel
theorem dX4_best_18 : decode cX4_best 18 = .ok (.getfield 21, 3) := by decide +kernel
theorem dX4_best_21 : decode cX4_best 21 = .ok (.getfield 99, 3) := by decide +kernel
theorem dX4_best_24 : decode cX4_best 24 = .ok (.goto 5, 3) := by decide +kernel
theorem dX4_best_27 : decode cX4_best 27 = .ok (.bipush (-2), 2) := by decide +kernel
theorem dX4_best_29 : decode cX4_best 29 = .ok (.ireturn, 1) := by decide +kernel
set_option maxRecDepth 20000 in
theorem ggX4_lamp_X4_checkPlace : GoodIn wsX4_lamp wsX4_checkPlace := goodIn_ca (goodIn_r _ [8, 9, 10, 11, 12, 7, 13, 14, 15, 110, 111, 112, 113, 126, 127, 128, 129, 130, 131, 132, 133, 134, 135, 136, 137, 138, 139] (by decide +kernel) (by decide +kernel)) (goodIn_sub (fun _ h => List.mem_cons_of_mem _ (List.mem_append_right _ h)) (by decide +kernel))
set_option maxRecDepth 20000 in
theorem gX4_lamp_X4_checkPlace : GoodIn wsX4_lamp (wsV RX4 78 RX4 yX4_checkPlace wsX4_checkPlace) := goodIn_app (goodIn_of _ (by decide +kernel)) ggX4_lamp_X4_checkPlace
set_option maxRecDepth 20000 in
theorem ggX4_lamp_X0_settle : GoodIn wsX4_lamp wsX0_settle := goodIn_r _ [20, 21, 22, 23, 24, 25, 26, 27, 28, 29, 30, 19, 31, 32, 33, 34, 35, 36, 37, 38, 39, 40, 41, 42, 43, 44, 45, 46, 47, 48, 49, 50, 51, 52, 7, 53, 54, 55, 56, 57, 58, 59, 60, 61, 62, 63, 64, 65, 66, 67, 68, 69, 70, 71, 72, 73, 74, 75, 76, 77, 78, 79, 80, 81, 82, 83, 84, 85, 86, 87, 88, 89, 90, 91, 92, 93, 94, 95, 96, 97, 98, 99, 100, 101, 102, 103, 104, 105, 106, 107, 108, 109, 114, 115, 116, 117, 118, 119, 120, 121, 122, 123, 124, 125, 126, 127, 128, 129, 130, 131, 132, 133, 134, 135, 136, 137, 138, 139] (by decide +kernel) (by decide +kernel)
set_option maxRecDepth 20000 in
theorem gX4_lamp_X0_settle : GoodIn wsX4_lamp (wsV RX4 92 RX0 yX0_settle wsX0_settle) := goodIn_app (goodIn_of _ (by decide +kernel)) ggX4_lamp_X0_settle
theorem dX4_lamp_0 : decode cX4_lamp 0 = .ok (.aload_n 0, 1) := by decide +kernel
theorem dX4_lamp_1 : decode cX4_lamp 1 = .ok (.iload_n 1, 1) := by decide +kernel
theorem dX4_lamp_2 : decode cX4_lamp 2 = .ok (.invokevirtual 78, 3) := by decide +kernel
theorem dX4_lamp_5 : decode cX4_lamp 5 = .ok (.aload_n 0, 1) := by decide +kernel
theorem dX4_lamp_6 : decode cX4_lamp 6 = .ok (.getfield 21, 3) := by decide +kernel
theorem dX4_lamp_9 : decode cX4_lamp 9 = .ok (.invokevirtual 92, 3) := by decide +kernel
theorem dX4_lamp_12 : decode cX4_lamp 12 = .ok (.aload_n 0, 1) := by decide +kernel
theorem dX4_lamp_13 : decode cX4_lamp 13 = .ok (.getfield 21, 3) := by decide +kernel
theorem dX4_lamp_16 : decode cX4_lamp 16 = .ok (.getfield 95, 3) := by decide +kernel
theorem dX4_lamp_19 : decode cX4_lamp 19 = .ok (.ifCond .eq 15, 3) := by decide +kernel
theorem dX4_lamp_22 : decode cX4_lamp 22 = .ok (.aload_n 0, 1) := by decide +kernel
theorem dX4_lamp_23 : decode cX4_lamp 23 = .ok (.getfield 21, 3) := by decide +kernel
theorem dX4_lamp_26 : decode cX4_lamp 26 = .ok (.getfield 102, 3) := by decide +kernel
theorem dX4_lamp_29 : decode cX4_lamp 29 = .ok (.iload_n 1, 1) := by decide +kernel
theorem dX4_lamp_30 : decode cX4_lamp 30 = .ok (.iaload, 1) := by decide +kernel
theorem dX4_lamp_31 : decode cX4_lamp 31 = .ok (.goto 5, 3) := by decide +kernel
theorem dX4_lamp_34 : decode cX4_lamp 34 = .ok (.bipush (-2), 2) := by decide +kernel
theorem dX4_lamp_36 : decode cX4_lamp 36 = .ok (.ireturn, 1) := by decide +kernel
set_option maxRecDepth 20000 in
theorem ggX4_level_X4_checkPoint : GoodIn wsX4_level wsX4_checkPoint := goodIn_ca (goodIn_r _ [8, 9, 10, 11, 12, 7, 13, 14, 15, 110, 111, 112, 113, 126, 127, 128, 129, 130, 131, 132, 133, 134, 135, 136, 137, 138, 139] (by decide +kernel) (by decide +kernel)) (goodIn_sub (fun _ h => List.mem_cons_of_mem _ (List.mem_append_right _ h)) (by decide +kernel))
set_option maxRecDepth 20000 in
theorem gX4_level_X4_checkPoint : GoodIn wsX4_level (wsV RX4 86 RX4 yX4_checkPoint wsX4_checkPoint) := goodIn_app (goodIn_of _ (by decide +kernel)) ggX4_level_X4_checkPoint
set_option maxRecDepth 20000 in
theorem ggX4_level_X0_settle : GoodIn wsX4_level wsX0_settle := goodIn_r _ [20, 21, 22, 23, 24, 25, 26, 27, 28, 29, 30, 19, 31, 32, 33, 34, 35, 36, 37, 38, 39, 40, 41, 42, 43, 44, 45, 46, 47, 48, 49, 50, 51, 52, 7, 53, 54, 55, 56, 57, 58, 59, 60, 61, 62, 63, 64, 65, 66, 67, 68, 69, 70, 71, 72, 73, 74, 75, 76, 77, 78, 79, 80, 81, 82, 83, 84, 85, 86, 87, 88, 89, 90, 91, 92, 93, 94, 95, 96, 97, 98, 99, 100, 101, 102, 103, 104, 105, 106, 107, 108, 109, 114, 115, 116, 117, 118, 119, 120, 121, 122, 123, 124, 125, 126, 127, 128, 129, 130, 131, 132, 133, 134, 135, 136, 137, 138, 139] (by decide +kernel) (by decide +kernel)
set_option maxRecDepth 20000 in
theorem gX4_level_X0_settle : GoodIn wsX4_level (wsV RX4 92 RX0 yX0_settle wsX0_settle) := goodIn_app (goodIn_of _ (by decide +kernel)) ggX4_level_X0_settle
theorem dX4_level_0 : decode cX4_level 0 = .ok (.aload_n 0, 1) := by decide +kernel
theorem dX4_level_1 : decode cX4_level 1 = .ok (.iload_n 1, 1) := by decide +kernel
theorem dX4_level_2 : decode cX4_level 2 = .ok (.invokevirtual 86, 3) := by decide +kernel
theorem dX4_level_5 : decode cX4_level 5 = .ok (.aload_n 0, 1) := by decide +kernel
theorem dX4_level_6 : decode cX4_level 6 = .ok (.getfield 21, 3) := by decide +kernel
theorem dX4_level_9 : decode cX4_level 9 = .ok (.invokevirtual 92, 3) := by decide +kernel
theorem dX4_level_12 : decode cX4_level 12 = .ok (.aload_n 0, 1) := by decide +kernel
theorem dX4_level_13 : decode cX4_level 13 = .ok (.getfield 21, 3) := by decide +kernel
theorem dX4_level_16 : decode cX4_level 16 = .ok (.getfield 95, 3) := by decide +kernel
theorem dX4_level_19 : decode cX4_level 19 = .ok (.ifCond .eq 15, 3) := by decide +kernel
theorem dX4_level_22 : decode cX4_level 22 = .ok (.aload_n 0, 1) := by decide +kernel
theorem dX4_level_23 : decode cX4_level 23 = .ok (.getfield 21, 3) := by decide +kernel
theorem dX4_level_26 : decode cX4_level 26 = .ok (.getfield 105, 3) := by decide +kernel
theorem dX4_level_29 : decode cX4_level 29 = .ok (.iload_n 1, 1) := by decide +kernel
theorem dX4_level_30 : decode cX4_level 30 = .ok (.iaload, 1) := by decide +kernel
theorem dX4_level_31 : decode cX4_level 31 = .ok (.goto 5, 3) := by decide +kernel
theorem dX4_level_34 : decode cX4_level 34 = .ok (.bipush (-2), 2) := by decide +kernel
theorem dX4_level_36 : decode cX4_level 36 = .ok (.ireturn, 1) := by decide +kernel
set_option maxRecDepth 20000 in
theorem ggX4_even_X4_checkBounds : GoodIn wsX4_even wsX4_checkBounds := goodIn_ca (goodIn_r _ [7, 8, 9] (by decide +kernel) (by decide +kernel)) (goodIn_sub (fun _ h => List.mem_cons_of_mem _ (List.mem_append_right _ h)) (by decide +kernel))
set_option maxRecDepth 20000 in
theorem gX4_even_X4_checkBounds : GoodIn wsX4_even (va_wsS RX4 41 yX4_checkBounds wsX4_checkBounds) := goodIn_app (goodIn_of _ (by decide +kernel)) ggX4_even_X4_checkBounds
set_option maxRecDepth 20000 in
theorem ggX4_even_X0_settle : GoodIn wsX4_even wsX0_settle := goodIn_r _ [14, 15, 16, 17, 18, 19, 20, 21, 22, 23, 24, 13, 25, 26, 27, 28, 29, 30, 31, 32, 33, 34, 35, 36, 37, 38, 39, 40, 41, 42, 43, 44, 45, 46, 6, 47, 48, 49, 50, 51, 52, 53, 54, 55, 56, 57, 58, 59, 60, 61, 62, 63, 64, 65, 66, 67, 68, 69, 70, 71, 72, 73, 74, 75, 76, 77, 78, 79, 80, 81, 82, 83, 84, 85, 86, 87, 88, 89, 90, 91, 92, 93, 94, 95, 96, 97, 98, 99, 100, 101, 102, 103, 119, 120, 121, 122, 123, 124, 125, 126, 127, 128, 129, 130, 131, 132, 133, 134, 135, 136, 137, 138, 139, 140, 141, 142, 143, 144] (by decide +kernel) (by decide +kernel)
set_option maxRecDepth 20000 in
theorem gX4_even_X0_settle : GoodIn wsX4_even (wsV RX4 92 RX0 yX0_settle wsX0_settle) := goodIn_app (goodIn_of _ (by decide +kernel)) ggX4_even_X0_settle
set_option maxRecDepth 20000 in
theorem ggX4_even_X0_evennessAbove : GoodIn wsX4_even wsX0_evennessAbove := goodIn_r _ [107, 89, 26, 29, 88, 108, 109, 13, 110, 46, 6, 47, 119, 120, 121, 122, 123, 124, 125, 126, 127, 128, 129, 130, 131, 132, 133, 134, 135, 136, 137, 138, 139, 140, 141, 142, 143, 144] (by decide +kernel) (by decide +kernel)
set_option maxRecDepth 20000 in
theorem gX4_even_X0_evennessAbove : GoodIn wsX4_even (wsV RX4 110 RX0 yX0_evennessAbove wsX0_evennessAbove) := goodIn_app (goodIn_of _ (by decide +kernel)) ggX4_even_X0_evennessAbove
set_option maxRecDepth 20000 in
theorem ggX4_even_X0_evennessBelow : GoodIn wsX4_even wsX0_evennessBelow := goodIn_r _ [114, 88, 89, 26, 29, 108, 109, 13, 110, 46, 6, 47, 119, 120, 121, 122, 123, 124, 125, 126, 127, 128, 129, 130, 131, 132, 133, 134, 135, 136, 137, 138, 139, 140, 141, 142, 143, 144] (by decide +kernel) (by decide +kernel)
set_option maxRecDepth 20000 in
theorem gX4_even_X0_evennessBelow : GoodIn wsX4_even (wsV RX4 114 RX0 yX0_evennessBelow wsX0_evennessBelow) := goodIn_app (goodIn_of _ (by decide +kernel)) ggX4_even_X0_evennessBelow
theorem dX4_even_0 : decode cX4_even 0 = .ok (.iload_n 1, 1) := by decide +kernel
theorem dX4_even_1 : decode cX4_even 1 = .ok (.iconst 0, 1) := by decide +kernel
theorem dX4_even_2 : decode cX4_even 2 = .ok (.iconst 1, 1) := by decide +kernel
theorem dX4_even_3 : decode cX4_even 3 = .ok (.invokestatic 41, 3) := by decide +kernel
theorem dX4_even_6 : decode cX4_even 6 = .ok (.aload_n 0, 1) := by decide +kernel
theorem dX4_even_7 : decode cX4_even 7 = .ok (.getfield 21, 3) := by decide +kernel
theorem dX4_even_10 : decode cX4_even 10 = .ok (.invokevirtual 92, 3) := by decide +kernel
theorem dX4_even_13 : decode cX4_even 13 = .ok (.aload_n 0, 1) := by decide +kernel
theorem dX4_even_14 : decode cX4_even 14 = .ok (.getfield 21, 3) := by decide +kernel
theorem dX4_even_17 : decode cX4_even 17 = .ok (.getfield 95, 3) := by decide +kernel
theorem dX4_even_20 : decode cX4_even 20 = .ok (.ifCond .ne 7, 3) := by decide +kernel
theorem dX4_even_23 : decode cX4_even 23 = .ok (.ldc2_w 108, 3) := by decide +kernel
theorem dX4_even_26 : decode cX4_even 26 = .ok (.lreturn, 1) := by decide +kernel
theorem dX4_even_27 : decode cX4_even 27 = .ok (.iload_n 1, 1) := by decide +kernel
theorem dX4_even_28 : decode cX4_even 28 = .ok (.ifCond .ne 13, 3) := by decide +kernel
theorem dX4_even_31 : decode cX4_even 31 = .ok (.aload_n 0, 1) := by decide +kernel
theorem dX4_even_32 : decode cX4_even 32 = .ok (.getfield 21, 3) := by decide +kernel
theorem dX4_even_35 : decode cX4_even 35 = .ok (.invokevirtual 110, 3) := by decide +kernel
theorem dX4_even_38 : decode cX4_even 38 = .ok (.goto 10, 3) := by decide +kernel
theorem dX4_even_41 : decode cX4_even 41 = .ok (.aload_n 0, 1) := by decide +kernel
theorem dX4_even_42 : decode cX4_even 42 = .ok (.getfield 21, 3) := by decide +kernel
theorem dX4_even_45 : decode cX4_even 45 = .ok (.invokevirtual 114, 3) := by decide +kernel
theorem dX4_even_48 : decode cX4_even 48 = .ok (.lreturn, 1) := by decide +kernel
set_option maxRecDepth 20000 in
theorem ggX4_aim_X4_checkPoint : GoodIn wsX4_aim wsX4_checkPoint := goodIn_ca (goodIn_r _ [7, 8, 9, 10, 11, 6, 12, 13, 14, 22, 23, 24, 25, 26, 27, 28, 29, 30, 31, 32, 33, 34, 35, 36, 37, 38, 39] (by decide +kernel) (by decide +kernel)) (goodIn_sub (fun _ h => List.mem_cons_of_mem _ (List.mem_append_right _ h)) (by decide +kernel))
set_option maxRecDepth 20000 in
theorem gX4_aim_X4_checkPoint : GoodIn wsX4_aim (wsV RX4 86 RX4 yX4_checkPoint wsX4_checkPoint) := goodIn_app (goodIn_of _ (by decide +kernel)) ggX4_aim_X4_checkPoint
set_option maxRecDepth 20000 in
theorem ggX4_aim_X4_checkBounds : GoodIn wsX4_aim wsX4_checkBounds := goodIn_ca (goodIn_r _ [12, 13, 14] (by decide +kernel) (by decide +kernel)) (goodIn_sub (fun _ h => List.mem_cons_of_mem _ (List.mem_append_right _ h)) (by decide +kernel))
set_option maxRecDepth 20000 in
theorem gX4_aim_X4_checkBounds : GoodIn wsX4_aim (va_wsS RX4 41 yX4_checkBounds wsX4_checkBounds) := goodIn_app (goodIn_of _ (by decide +kernel)) ggX4_aim_X4_checkBounds
set_option maxRecDepth 20000 in
theorem ggX4_aim_X3_changeAim : GoodIn wsX4_aim wsX3_changeAim := goodIn_r _ [19, 20, 21, 40, 41, 42, 43, 44, 45, 46] (by decide +kernel) (by decide +kernel)
set_option maxRecDepth 20000 in
theorem gX4_aim_X3_changeAim : GoodIn wsX4_aim (wsV RX4 118 RX3 yX3_changeAim wsX3_changeAim) := goodIn_app (goodIn_of _ (by decide +kernel)) ggX4_aim_X3_changeAim
theorem dX4_aim_0 : decode cX4_aim 0 = .ok (.aload_n 0, 1) := by decide +kernel
theorem dX4_aim_1 : decode cX4_aim 1 = .ok (.iload_n 1, 1) := by decide +kernel
theorem dX4_aim_2 : decode cX4_aim 2 = .ok (.invokevirtual 86, 3) := by decide +kernel
theorem dX4_aim_5 : decode cX4_aim 5 = .ok (.iload_n 2, 1) := by decide +kernel
theorem dX4_aim_6 : decode cX4_aim 6 = .ok (.iconst 0, 1) := by decide +kernel
theorem dX4_aim_7 : decode cX4_aim 7 = .ok (.ldc 117, 2) := by decide +kernel
theorem dX4_aim_9 : decode cX4_aim 9 = .ok (.invokestatic 41, 3) := by decide +kernel
theorem dX4_aim_12 : decode cX4_aim 12 = .ok (.aload_n 0, 1) := by decide +kernel
theorem dX4_aim_13 : decode cX4_aim 13 = .ok (.getfield 30, 3) := by decide +kernel
theorem dX4_aim_16 : decode cX4_aim 16 = .ok (.iload_n 1, 1) := by decide +kernel
theorem dX4_aim_17 : decode cX4_aim 17 = .ok (.iload_n 2, 1) := by decide +kernel
theorem dX4_aim_18 : decode cX4_aim 18 = .ok (.invokevirtual 118, 3) := by decide +kernel
theorem dX4_aim_21 : decode cX4_aim 21 = .ok (.ireturn, 1) := by decide +kernel
set_option maxRecDepth 20000 in
theorem ggX4_scene_X4_settleScene : GoodIn wsX4_scene wsX4_settleScene := goodIn_r _ [7, 8, 1, 9, 10, 11, 12, 13, 14, 15, 16, 17, 18, 19, 20, 21, 22, 23, 24, 25, 26, 27, 28, 29, 30, 31, 32, 33, 34, 35, 36, 37, 38, 39, 40, 41, 42, 43, 44, 45, 6, 46, 47, 48, 49, 50, 51, 52, 53, 54, 55, 56, 57, 58, 59, 60, 61, 62, 63, 64, 65, 66, 67, 68, 69, 70, 71, 72, 73, 74, 75, 76, 77, 78, 79, 80, 81, 82, 83, 84, 85, 86, 87, 88, 89, 90, 91, 92, 93, 94, 95, 96, 97, 98, 99, 100, 101, 102, 103, 104, 105, 106, 107, 108, 109, 110, 111, 112, 113, 114, 115, 116, 117, 118, 119, 120, 121, 122, 123, 124, 125, 126, 127, 128, 129, 130, 131, 132, 133, 134, 135, 136, 137, 138, 139, 140, 141, 142, 143, 144, 145, 153, 154, 155, 156, 157, 158, 159, 160, 161, 162, 163, 164, 165, 166, 167, 168, 169, 170, 171, 172, 173, 174, 175, 176, 177, 178, 146, 147, 148, 149, 150, 151, 152] (by decide +kernel) (by decide +kernel)
set_option maxRecDepth 20000 in
theorem gX4_scene_X4_settleScene : GoodIn wsX4_scene (wsV RX4 121 RX4 yX4_settleScene wsX4_settleScene) := goodIn_app (goodIn_of _ (by decide +kernel)) ggX4_scene_X4_settleScene
theorem dX4_scene_0 : decode cX4_scene 0 = .ok (.aload_n 0, 1) := by decide +kernel
theorem dX4_scene_1 : decode cX4_scene 1 = .ok (.invokevirtual 121, 3) := by decide +kernel
theorem dX4_scene_4 : decode cX4_scene 4 = .ok (.aload_n 0, 1) := by decide +kernel
theorem dX4_scene_5 : decode cX4_scene 5 = .ok (.getfield 30, 3) := by decide +kernel
theorem dX4_scene_8 : decode cX4_scene 8 = .ok (.getfield 124, 3) := by decide +kernel
theorem dX4_scene_11 : decode cX4_scene 11 = .ok (.ireturn, 1) := by decide +kernel
set_option maxRecDepth 20000 in
theorem ggX4_dim_X4_checkPlace : GoodIn wsX4_dim wsX4_checkPlace := goodIn_ca (goodIn_r _ [9, 10, 11, 12, 13, 8, 14, 15, 16, 154, 155, 156, 157, 177, 178, 179, 180, 181, 182, 183, 184, 185, 186, 187, 188, 189, 190] (by decide +kernel) (by decide +kernel)) (goodIn_sub (fun _ h => List.mem_cons_of_mem _ (List.mem_append_right _ h)) (by decide +kernel))
set_option maxRecDepth 20000 in
theorem gX4_dim_X4_checkPlace : GoodIn wsX4_dim (wsV RX4 78 RX4 yX4_checkPlace wsX4_checkPlace) := goodIn_app (goodIn_of _ (by decide +kernel)) ggX4_dim_X4_checkPlace
set_option maxRecDepth 20000 in
theorem ggX4_dim_X4_settleScene : GoodIn wsX4_dim wsX4_settleScene := goodIn_r _ [20, 1, 3, 21, 22, 23, 24, 25, 26, 27, 28, 29, 30, 31, 32, 33, 34, 35, 36, 37, 38, 39, 40, 41, 42, 43, 44, 45, 46, 47, 48, 49, 50, 51, 52, 53, 54, 55, 56, 57, 8, 58, 59, 60, 61, 62, 63, 64, 65, 66, 67, 68, 69, 70, 71, 72, 73, 74, 75, 76, 77, 78, 79, 80, 81, 82, 83, 84, 85, 86, 87, 88, 89, 90, 91, 92, 93, 94, 95, 96, 97, 98, 99, 100, 101, 102, 103, 104, 105, 106, 107, 108, 109, 110, 111, 112, 113, 114, 115, 116, 117, 118, 119, 120, 121, 122, 123, 124, 125, 126, 127, 128, 129, 130, 131, 132, 133, 134, 135, 136, 137, 138, 139, 140, 141, 142, 143, 144, 145, 146, 147, 148, 149, 150, 151, 152, 153, 154, 155, 156, 157, 158, 159, 160, 161, 162, 163, 164, 165, 166, 167, 168, 169, 177, 178, 179, 180, 181, 182, 183, 184, 185, 186, 187, 188, 189, 190, 170, 171, 172, 173, 174, 175, 176] (by decide +kernel) (by decide +kernel)
set_option maxRecDepth 20000 in
theorem gX4_dim_X4_settleScene : GoodIn wsX4_dim (wsV RX4 121 RX4 yX4_settleScene wsX4_settleScene) := goodIn_app (goodIn_of _ (by decide +kernel)) ggX4_dim_X4_settleScene
theorem dX4_dim_0 : decode cX4_dim 0 = .ok (.aload_n 0, 1) := by decide +kernel
theorem dX4_dim_1 : decode cX4_dim 1 = .ok (.iload_n 1, 1) := by decide +kernel
theorem dX4_dim_2 : decode cX4_dim 2 = .ok (.invokevirtual 78, 3) := by decide +kernel
theorem dX4_dim_5 : decode cX4_dim 5 = .ok (.aload_n 0, 1) := by decide +kernel
theorem dX4_dim_6 : decode cX4_dim 6 = .ok (.invokevirtual 121, 3) := by decide +kernel
theorem dX4_dim_9 : decode cX4_dim 9 = .ok (.aload_n 0, 1) := by decide +kernel
theorem dX4_dim_10 : decode cX4_dim 10 = .ok (.getfield 21, 3) := by decide +kernel
theorem dX4_dim_13 : decode cX4_dim 13 = .ok (.getfield 102, 3) := by decide +kernel
theorem dX4_dim_16 : decode cX4_dim 16 = .ok (.iload_n 1, 1) := by decide +kernel
theorem dX4_dim_17 : decode cX4_dim 17 = .ok (.iaload, 1) := by decide +kernel
theorem dX4_dim_18 : decode cX4_dim 18 = .ok (.iconst (-1), 1) := by decide +kernel
theorem dX4_dim_19 : decode cX4_dim 19 = .ok (.if_icmp .ne 7, 3) := by decide +kernel
theorem dX4_dim_22 : decode cX4_dim 22 = .ok (.iconst (-1), 1) := by decide +kernel
theorem dX4_dim_23 : decode cX4_dim 23 = .ok (.goto 12, 3) := by decide +kernel
theorem dX4_dim_26 : decode cX4_dim 26 = .ok (.aload_n 0, 1) := by decide +kernel
theorem dX4_dim_27 : decode cX4_dim 27 = .ok (.getfield 30, 3) := by decide +kernel
theorem dX4_dim_30 : decode cX4_dim 30 = .ok (.getfield 127, 3) := by decide +kernel
theorem dX4_dim_33 : decode cX4_dim 33 = .ok (.iload_n 1, 1) := by decide +kernel
theorem dX4_dim_34 : decode cX4_dim 34 = .ok (.iaload, 1) := by decide +kernel
theorem dX4_dim_35 : decode cX4_dim 35 = .ok (.ireturn, 1) := by decide +kernel
set_option maxRecDepth 20000 in
theorem ggX4_miss_X4_checkPoint : GoodIn wsX4_miss wsX4_checkPoint := goodIn_ca (goodIn_r _ [7, 8, 9, 10, 11, 6, 12, 13, 14, 153, 154, 155, 156, 164, 165, 166, 167, 168, 169, 170, 171, 172, 173, 174, 175, 176, 177] (by decide +kernel) (by decide +kernel)) (goodIn_sub (fun _ h => List.mem_cons_of_mem _ (List.mem_append_right _ h)) (by decide +kernel))
set_option maxRecDepth 20000 in
theorem gX4_miss_X4_checkPoint : GoodIn wsX4_miss (wsV RX4 86 RX4 yX4_checkPoint wsX4_checkPoint) := goodIn_app (goodIn_of _ (by decide +kernel)) ggX4_miss_X4_checkPoint
set_option maxRecDepth 20000 in
theorem ggX4_miss_X4_settleScene : GoodIn wsX4_miss wsX4_settleScene := goodIn_r _ [18, 19, 1, 20, 21, 22, 23, 24, 25, 26, 27, 28, 29, 30, 31, 32, 33, 34, 35, 36, 37, 38, 39, 40, 41, 42, 43, 44, 45, 46, 47, 48, 49, 50, 51, 52, 53, 54, 55, 56, 6, 57, 58, 59, 60, 61, 62, 63, 64, 65, 66, 67, 68, 69, 70, 71, 72, 73, 74, 75, 76, 77, 78, 79, 80, 81, 82, 83, 84, 85, 86, 87, 88, 89, 90, 91, 92, 93, 94, 95, 96, 97, 98, 99, 100, 101, 102, 103, 104, 105, 106, 107, 108, 109, 110, 111, 112, 113, 114, 115, 116, 117, 118, 119, 120, 121, 122, 123, 124, 125, 126, 127, 128, 129, 130, 131, 132, 133, 134, 135, 136, 137, 138, 139, 140, 141, 142, 143, 144, 145, 146, 147, 148, 149, 150, 151, 152, 153, 154, 155, 156, 178, 179, 180, 181, 182, 183, 184, 185, 186, 187, 188, 189, 164, 165, 166, 167, 168, 169, 170, 171, 172, 173, 174, 175, 176, 177, 157, 158, 159, 160, 161, 162, 163] (by decide +kernel) (by decide +kernel)
set_option maxRecDepth 20000 in
theorem gX4_miss_X4_settleScene : GoodIn wsX4_miss (wsV RX4 121 RX4 yX4_settleScene wsX4_settleScene) := goodIn_app (goodIn_of _ (by decide +kernel)) ggX4_miss_X4_settleScene
theorem dX4_miss_0 : decode cX4_miss 0 = .ok (.aload_n 0, 1) := by decide +kernel
theorem dX4_miss_1 : decode cX4_miss 1 = .ok (.iload_n 1, 1) := by decide +kernel
theorem dX4_miss_2 : decode cX4_miss 2 = .ok (.invokevirtual 86, 3) := by decide +kernel
theorem dX4_miss_5 : decode cX4_miss 5 = .ok (.aload_n 0, 1) := by decide +kernel
theorem dX4_miss_6 : decode cX4_miss 6 = .ok (.invokevirtual 121, 3) := by decide +kernel
theorem dX4_miss_9 : decode cX4_miss 9 = .ok (.aload_n 0, 1) := by decide +kernel
theorem dX4_miss_10 : decode cX4_miss 10 = .ok (.getfield 30, 3) := by decide +kernel
theorem dX4_miss_13 : decode cX4_miss 13 = .ok (.getfield 130, 3) := by decide +kernel
theorem dX4_miss_16 : decode cX4_miss 16 = .ok (.iload_n 1, 1) := by decide +kernel
theorem dX4_miss_17 : decode cX4_miss 17 = .ok (.laload, 1) := by decide +kernel
theorem dX4_miss_18 : decode cX4_miss 18 = .ok (.lreturn, 1) := by decide +kernel
set_option maxRecDepth 20000 in
theorem ggX4_sensor_X4_checkPlace : GoodIn wsX4_sensor wsX4_checkPlace := goodIn_ca (goodIn_r _ [9, 1, 10, 11, 12, 8, 13, 14, 15, 35, 36, 37, 38, 39, 40, 41, 42, 43, 44, 45, 46, 47, 48, 49, 50, 51, 52] (by decide +kernel) (by decide +kernel)) (goodIn_sub (fun _ h => List.mem_cons_of_mem _ (List.mem_append_right _ h)) (by decide +kernel))
set_option maxRecDepth 20000 in
theorem gX4_sensor_X4_checkPlace : GoodIn wsX4_sensor (wsV RX4 78 RX4 yX4_checkPlace wsX4_checkPlace) := goodIn_app (goodIn_of _ (by decide +kernel)) ggX4_sensor_X4_checkPlace
set_option maxRecDepth 20000 in
theorem ggX4_sensor_X4_checkBounds : GoodIn wsX4_sensor wsX4_checkBounds := goodIn_ca (goodIn_r _ [13, 14, 15] (by decide +kernel) (by decide +kernel)) (goodIn_sub (fun _ h => List.mem_cons_of_mem _ (List.mem_append_right _ h)) (by decide +kernel))
set_option maxRecDepth 20000 in
theorem gX4_sensor_X4_checkBounds : GoodIn wsX4_sensor (va_wsS RX4 41 yX4_checkBounds wsX4_checkBounds) := goodIn_app (goodIn_of _ (by decide +kernel)) ggX4_sensor_X4_checkBounds
set_option maxRecDepth 20000 in
theorem ggX4_sensor_X4_lampsGo : GoodIn wsX4_sensor wsX4_lampsGo := goodIn_r _ [19, 20, 21, 22, 23, 3, 24, 25, 26, 27, 28, 29, 30, 31, 32, 33, 34, 35, 36, 37, 38, 64, 65, 66, 67, 68, 69, 70, 71, 72, 73, 74, 75, 76, 77, 78, 79, 80, 81, 82, 53, 54, 55, 56, 57, 58, 59, 60, 61, 62, 63] (by decide +kernel) (by decide +kernel)
set_option maxRecDepth 20000 in
theorem gX4_sensor_X4_lampsGo : GoodIn wsX4_sensor (wsV RX4 58 RX4 yX4_lampsGo wsX4_lampsGo) := goodIn_app (goodIn_of _ (by decide +kernel)) ggX4_sensor_X4_lampsGo
theorem dX4_sensor_0 : decode cX4_sensor 0 = .ok (.aload_n 0, 1) := by decide +kernel
theorem dX4_sensor_1 : decode cX4_sensor 1 = .ok (.iload_n 1, 1) := by decide +kernel
theorem dX4_sensor_2 : decode cX4_sensor 2 = .ok (.invokevirtual 78, 3) := by decide +kernel
theorem dX4_sensor_5 : decode cX4_sensor 5 = .ok (.iload_n 2, 1) := by decide +kernel
theorem dX4_sensor_6 : decode cX4_sensor 6 = .ok (.iconst (-1), 1) := by decide +kernel
theorem dX4_sensor_7 : decode cX4_sensor 7 = .ok (.aload_n 0, 1) := by decide +kernel
theorem dX4_sensor_8 : decode cX4_sensor 8 = .ok (.getfield 15, 3) := by decide +kernel
theorem dX4_sensor_11 : decode cX4_sensor 11 = .ok (.getfield 68, 3) := by decide +kernel
theorem dX4_sensor_14 : decode cX4_sensor 14 = .ok (.iconst 1, 1) := by decide +kernel
theorem dX4_sensor_15 : decode cX4_sensor 15 = .ok (.isub, 1) := by decide +kernel
theorem dX4_sensor_16 : decode cX4_sensor 16 = .ok (.invokestatic 41, 3) := by decide +kernel
theorem dX4_sensor_19 : decode cX4_sensor 19 = .ok (.aload_n 0, 1) := by decide +kernel
theorem dX4_sensor_20 : decode cX4_sensor 20 = .ok (.getfield 37, 3) := by decide +kernel
theorem dX4_sensor_23 : decode cX4_sensor 23 = .ok (.getfield 134, 3) := by decide +kernel
theorem dX4_sensor_26 : decode cX4_sensor 26 = .ok (.iload_n 1, 1) := by decide +kernel
theorem dX4_sensor_27 : decode cX4_sensor 27 = .ok (.iload_n 2, 1) := by decide +kernel
theorem dX4_sensor_28 : decode cX4_sensor 28 = .ok (.iastore, 1) := by decide +kernel
theorem dX4_sensor_29 : decode cX4_sensor 29 = .ok (.aload_n 0, 1) := by decide +kernel
theorem dX4_sensor_30 : decode cX4_sensor 30 = .ok (.invokevirtual 58, 3) := by decide +kernel
theorem dX4_sensor_33 : decode cX4_sensor 33 = .ok (.return_, 1) := by decide +kernel
set_option maxRecDepth 20000 in
theorem ggX4_daylight_X4_checkPoint : GoodIn wsX4_daylight wsX4_checkPoint := goodIn_ca (goodIn_r _ [8, 9, 10, 11, 12, 7, 13, 14, 15, 16, 17, 18, 19, 31, 32, 33, 34, 35, 36, 37, 38, 39, 40, 41, 42, 43, 44] (by decide +kernel) (by decide +kernel)) (goodIn_sub (fun _ h => List.mem_cons_of_mem _ (List.mem_append_right _ h)) (by decide +kernel))
set_option maxRecDepth 20000 in
theorem gX4_daylight_X4_checkPoint : GoodIn wsX4_daylight (wsV RX4 86 RX4 yX4_checkPoint wsX4_checkPoint) := goodIn_app (goodIn_of _ (by decide +kernel)) ggX4_daylight_X4_checkPoint
set_option maxRecDepth 20000 in
theorem ggX4_daylight_X4_checkBounds : GoodIn wsX4_daylight wsX4_checkBounds := goodIn_ca (goodIn_r _ [13, 14, 15] (by decide +kernel) (by decide +kernel)) (goodIn_sub (fun _ h => List.mem_cons_of_mem _ (List.mem_append_right _ h)) (by decide +kernel))
set_option maxRecDepth 20000 in
theorem gX4_daylight_X4_checkBounds : GoodIn wsX4_daylight (va_wsS RX4 41 yX4_checkBounds wsX4_checkBounds) := goodIn_app (goodIn_of _ (by decide +kernel)) ggX4_daylight_X4_checkBounds
theorem dX4_daylight_0 : decode cX4_daylight 0 = .ok (.aload_n 0, 1) := by decide +kernel
theorem dX4_daylight_1 : decode cX4_daylight 1 = .ok (.iload_n 1, 1) := by decide +kernel
theorem dX4_daylight_2 : decode cX4_daylight 2 = .ok (.invokevirtual 86, 3) := by decide +kernel
theorem dX4_daylight_5 : decode cX4_daylight 5 = .ok (.iload_n 2, 1) := by decide +kernel
theorem dX4_daylight_6 : decode cX4_daylight 6 = .ok (.iconst 0, 1) := by decide +kernel
theorem dX4_daylight_7 : decode cX4_daylight 7 = .ok (.ldc 45, 2) := by decide +kernel
theorem dX4_daylight_9 : decode cX4_daylight 9 = .ok (.invokestatic 41, 3) := by decide +kernel
theorem dX4_daylight_12 : decode cX4_daylight 12 = .ok (.aload_n 0, 1) := by decide +kernel
theorem dX4_daylight_13 : decode cX4_daylight 13 = .ok (.getfield 37, 3) := by decide +kernel
theorem dX4_daylight_16 : decode cX4_daylight 16 = .ok (.getfield 137, 3) := by decide +kernel
theorem dX4_daylight_19 : decode cX4_daylight 19 = .ok (.iload_n 1, 1) := by decide +kernel
theorem dX4_daylight_20 : decode cX4_daylight 20 = .ok (.iaload, 1) := by decide +kernel
theorem dX4_daylight_21 : decode cX4_daylight 21 = .ok (.istore_n 3, 1) := by decide +kernel
theorem dX4_daylight_22 : decode cX4_daylight 22 = .ok (.aload_n 0, 1) := by decide +kernel
theorem dX4_daylight_23 : decode cX4_daylight 23 = .ok (.getfield 37, 3) := by decide +kernel
theorem dX4_daylight_26 : decode cX4_daylight 26 = .ok (.getfield 137, 3) := by decide +kernel
theorem dX4_daylight_29 : decode cX4_daylight 29 = .ok (.iload_n 1, 1) := by decide +kernel
theorem dX4_daylight_30 : decode cX4_daylight 30 = .ok (.iload_n 2, 1) := by decide +kernel
theorem dX4_daylight_31 : decode cX4_daylight 31 = .ok (.iastore, 1) := by decide +kernel
theorem dX4_daylight_32 : decode cX4_daylight 32 = .ok (.iload_n 3, 1) := by decide +kernel
theorem dX4_daylight_33 : decode cX4_daylight 33 = .ok (.ireturn, 1) := by decide +kernel
set_option maxRecDepth 20000 in
theorem ggX4_step_X4_checkBounds : GoodIn wsX4_step wsX4_checkBounds := goodIn_ca (goodIn_r _ [6, 7, 8] (by decide +kernel) (by decide +kernel)) (goodIn_sub (fun _ h => List.mem_cons_of_mem _ (List.mem_append_right _ h)) (by decide +kernel))
set_option maxRecDepth 20000 in
theorem gX4_step_X4_checkBounds : GoodIn wsX4_step (va_wsS RX4 41 yX4_checkBounds wsX4_checkBounds) := goodIn_app (goodIn_of _ (by decide +kernel)) ggX4_step_X4_checkBounds
theorem dX4_step_0 : decode cX4_step 0 = .ok (.iload_n 1, 1) := by decide +kernel
theorem dX4_step_1 : decode cX4_step 1 = .ok (.iconst 1, 1) := by decide +kernel
theorem dX4_step_2 : decode cX4_step 2 = .ok (.bipush 100, 2) := by decide +kernel
theorem dX4_step_4 : decode cX4_step 4 = .ok (.invokestatic 41, 3) := by decide +kernel
theorem dX4_step_7 : decode cX4_step 7 = .ok (.aload_n 0, 1) := by decide +kernel
theorem dX4_step_8 : decode cX4_step 8 = .ok (.getfield 37, 3) := by decide +kernel
theorem dX4_step_11 : decode cX4_step 11 = .ok (.getfield 140, 3) := by decide +kernel
theorem dX4_step_14 : decode cX4_step 14 = .ok (.istore_n 2, 1) := by decide +kernel
theorem dX4_step_15 : decode cX4_step 15 = .ok (.aload_n 0, 1) := by decide +kernel
theorem dX4_step_16 : decode cX4_step 16 = .ok (.getfield 37, 3) := by decide +kernel
theorem dX4_step_19 : decode cX4_step 19 = .ok (.iload_n 1, 1) := by decide +kernel
theorem dX4_step_20 : decode cX4_step 20 = .ok (.putfield 140, 3) := by decide +kernel
theorem dX4_step_23 : decode cX4_step 23 = .ok (.iload_n 2, 1) := by decide +kernel
theorem dX4_step_24 : decode cX4_step 24 = .ok (.ireturn, 1) := by decide +kernel
set_option maxRecDepth 20000 in
theorem ggX4_run_X4_checkBounds : GoodIn wsX4_run wsX4_checkBounds := goodIn_ca (goodIn_r _ [10, 11, 12] (by decide +kernel) (by decide +kernel)) (goodIn_sub (fun _ h => List.mem_cons_of_mem _ (List.mem_append_right _ h)) (by decide +kernel))
set_option maxRecDepth 20000 in
theorem gX4_run_X4_checkBounds : GoodIn wsX4_run (va_wsS RX4 41 yX4_checkBounds wsX4_checkBounds) := goodIn_app (goodIn_of _ (by decide +kernel)) ggX4_run_X4_checkBounds
set_option maxRecDepth 20000 in
theorem ggX4_run_X0_settle : GoodIn wsX4_run wsX0_settle := goodIn_r _ [17, 18, 19, 20, 21, 22, 23, 24, 25, 26, 27, 16, 28, 29, 30, 31, 32, 33, 34, 35, 36, 37, 38, 39, 40, 41, 42, 43, 44, 45, 46, 47, 48, 49, 9, 50, 51, 52, 53, 54, 55, 56, 57, 58, 59, 60, 61, 62, 63, 64, 65, 66, 67, 68, 69, 70, 71, 72, 73, 74, 75, 76, 77, 78, 79, 80, 81, 82, 83, 84, 85, 86, 87, 88, 89, 90, 91, 92, 93, 94, 95, 96, 97, 98, 99, 100, 101, 102, 103, 104, 105, 106, 170, 171, 172, 173, 174, 175, 176, 177, 178, 179, 180, 181, 182, 183, 184, 185, 186, 187, 188, 189, 190, 191, 192, 193, 194, 195] (by decide +kernel) (by decide +kernel)
set_option maxRecDepth 20000 in
theorem gX4_run_X0_settle : GoodIn wsX4_run (wsV RX4 92 RX0 yX0_settle wsX0_settle) := goodIn_app (goodIn_of _ (by decide +kernel)) ggX4_run_X0_settle
set_option maxRecDepth 20000 in
theorem ggX4_run_X1_pass : GoodIn wsX4_run wsX1_pass := goodIn_r _ [111, 112, 113, 114, 115, 116, 117, 118, 119, 110, 120, 121, 122, 123, 124, 125, 126, 127, 128, 129, 130, 86, 62, 87, 131, 132, 133, 16, 134, 20, 33, 34, 35, 36, 49, 9, 50, 135, 136, 137, 138, 139, 140, 141, 142, 143, 61, 63, 144, 145, 146, 147, 148, 149, 150, 151, 152, 153, 154, 159, 160, 161, 162, 163, 164, 165, 166, 167, 168, 169, 182, 183, 184, 185, 186, 187, 188, 189, 190, 191, 192, 193, 194, 195, 170, 171, 172, 173, 174, 175, 176, 177, 178, 179, 180, 181] (by decide +kernel) (by decide +kernel)
set_option maxRecDepth 20000 in
theorem gX4_run_X1_pass : GoodIn wsX4_run (wsV RX4 153 RX1 yX1_pass wsX1_pass) := goodIn_app (goodIn_of _ (by decide +kernel)) ggX4_run_X1_pass
theorem dX4_run_0 : decode cX4_run 0 = .ok (.iload_n 1, 1) := by decide +kernel
theorem dX4_run_1 : decode cX4_run 1 = .ok (.iconst 1, 1) := by decide +kernel
theorem dX4_run_2 : decode cX4_run 2 = .ok (.sipush 10000, 3) := by decide +kernel
theorem dX4_run_5 : decode cX4_run 5 = .ok (.invokestatic 41, 3) := by decide +kernel
theorem dX4_run_8 : decode cX4_run 8 = .ok (.aload_n 0, 1) := by decide +kernel
theorem dX4_run_9 : decode cX4_run 9 = .ok (.getfield 37, 3) := by decide +kernel
theorem dX4_run_12 : decode cX4_run 12 = .ok (.getfield 143, 3) := by decide +kernel
theorem dX4_run_15 : decode cX4_run 15 = .ok (.ldc 117, 2) := by decide +kernel
theorem dX4_run_17 : decode cX4_run 17 = .ok (.iload_n 1, 1) := by decide +kernel
theorem dX4_run_18 : decode cX4_run 18 = .ok (.isub, 1) := by decide +kernel
theorem dX4_run_19 : decode cX4_run 19 = .ok (.if_icmp .le 13, 3) := by decide +kernel
theorem dX4_run_22 : decode cX4_run 22 = .ok (.new 146, 3) := by decide +kernel
theorem dX4_run_25 : decode cX4_run 25 = .ok (.dup, 1) := by decide +kernel
theorem dX4_run_26 : decode cX4_run 26 = .ok (.ldc 148, 2) := by decide +kernel
theorem dX4_run_28 : decode cX4_run 28 = .ok (.invokespecial 150, 3) := by decide +kernel
theorem dX4_run_31 : decode cX4_run 31 = .ok (.athrow, 1) := by decide +kernel
theorem dX4_run_32 : decode cX4_run 32 = .ok (.aload_n 0, 1) := by decide +kernel
theorem dX4_run_33 : decode cX4_run 33 = .ok (.getfield 21, 3) := by decide +kernel
theorem dX4_run_36 : decode cX4_run 36 = .ok (.invokevirtual 92, 3) := by decide +kernel
theorem dX4_run_39 : decode cX4_run 39 = .ok (.aload_n 0, 1) := by decide +kernel
theorem dX4_run_40 : decode cX4_run 40 = .ok (.getfield 37, 3) := by decide +kernel
theorem dX4_run_43 : decode cX4_run 43 = .ok (.iload_n 1, 1) := by decide +kernel
theorem dX4_run_44 : decode cX4_run 44 = .ok (.invokevirtual 153, 3) := by decide +kernel
theorem dX4_run_47 : decode cX4_run 47 = .ok (.aload_n 0, 1) := by decide +kernel
theorem dX4_run_48 : decode cX4_run 48 = .ok (.getfield 37, 3) := by decide +kernel
theorem dX4_run_51 : decode cX4_run 51 = .ok (.getfield 143, 3) := by decide +kernel
theorem dX4_run_54 : decode cX4_run 54 = .ok (.ireturn, 1) := by decide +kernel
set_option maxRecDepth 20000 in
theorem ggX4_own_X4_checkPlace : GoodIn wsX4_own wsX4_checkPlace := goodIn_ca (goodIn_r _ [10, 11, 12, 13, 14, 9, 15, 16, 17, 112, 113, 114, 115, 139, 140, 141, 142, 143, 144, 145, 146, 147, 148, 149, 150, 151, 152] (by decide +kernel) (by decide +kernel)) (goodIn_sub (fun _ h => List.mem_cons_of_mem _ (List.mem_append_right _ h)) (by decide +kernel))
set_option maxRecDepth 20000 in
theorem gX4_own_X4_checkPlace : GoodIn wsX4_own (wsV RX4 78 RX4 yX4_checkPlace wsX4_checkPlace) := goodIn_app (goodIn_of _ (by decide +kernel)) ggX4_own_X4_checkPlace
set_option maxRecDepth 20000 in
theorem ggX4_own_X4_checkBounds : GoodIn wsX4_own wsX4_checkBounds := goodIn_ca (goodIn_r _ [15, 16, 17] (by decide +kernel) (by decide +kernel)) (goodIn_sub (fun _ h => List.mem_cons_of_mem _ (List.mem_append_right _ h)) (by decide +kernel))
set_option maxRecDepth 20000 in
theorem gX4_own_X4_checkBounds : GoodIn wsX4_own (va_wsS RX4 41 yX4_checkBounds wsX4_checkBounds) := goodIn_app (goodIn_of _ (by decide +kernel)) ggX4_own_X4_checkBounds
set_option maxRecDepth 20000 in
theorem ggX4_own_X0_settle : GoodIn wsX4_own wsX0_settle := goodIn_r _ [22, 23, 24, 25, 26, 27, 28, 29, 30, 31, 32, 21, 33, 34, 35, 36, 37, 38, 39, 40, 41, 42, 43, 44, 45, 46, 47, 48, 49, 50, 51, 52, 53, 54, 9, 55, 56, 57, 58, 59, 60, 61, 62, 63, 64, 65, 66, 67, 68, 69, 70, 71, 72, 73, 74, 75, 76, 77, 78, 79, 80, 81, 82, 83, 84, 85, 86, 87, 88, 89, 90, 91, 92, 93, 94, 95, 96, 97, 98, 99, 100, 101, 102, 103, 104, 105, 106, 107, 108, 109, 110, 111, 116, 117, 118, 119, 120, 121, 122, 123, 124, 125, 126, 127, 139, 140, 141, 142, 143, 144, 145, 146, 147, 148, 149, 150, 151, 152] (by decide +kernel) (by decide +kernel)
set_option maxRecDepth 20000 in
theorem gX4_own_X0_settle : GoodIn wsX4_own (wsV RX4 92 RX0 yX0_settle wsX0_settle) := goodIn_app (goodIn_of _ (by decide +kernel)) ggX4_own_X0_settle
theorem dX4_own_0 : decode cX4_own 0 = .ok (.aload_n 0, 1) := by decide +kernel
theorem dX4_own_1 : decode cX4_own 1 = .ok (.iload_n 1, 1) := by decide +kernel
theorem dX4_own_2 : decode cX4_own 2 = .ok (.invokevirtual 78, 3) := by decide +kernel
theorem dX4_own_5 : decode cX4_own 5 = .ok (.iload_n 2, 1) := by decide +kernel
theorem dX4_own_6 : decode cX4_own 6 = .ok (.iconst 0, 1) := by decide +kernel
theorem dX4_own_7 : decode cX4_own 7 = .ok (.iconst 1, 1) := by decide +kernel
theorem dX4_own_8 : decode cX4_own 8 = .ok (.invokestatic 41, 3) := by decide +kernel
theorem dX4_own_11 : decode cX4_own 11 = .ok (.aload_n 0, 1) := by decide +kernel
theorem dX4_own_12 : decode cX4_own 12 = .ok (.getfield 21, 3) := by decide +kernel
theorem dX4_own_15 : decode cX4_own 15 = .ok (.invokevirtual 92, 3) := by decide +kernel
theorem dX4_own_18 : decode cX4_own 18 = .ok (.aload_n 0, 1) := by decide +kernel
theorem dX4_own_19 : decode cX4_own 19 = .ok (.getfield 21, 3) := by decide +kernel
theorem dX4_own_22 : decode cX4_own 22 = .ok (.getfield 102, 3) := by decide +kernel
theorem dX4_own_25 : decode cX4_own 25 = .ok (.iload_n 1, 1) := by decide +kernel
theorem dX4_own_26 : decode cX4_own 26 = .ok (.iaload, 1) := by decide +kernel
theorem dX4_own_27 : decode cX4_own 27 = .ok (.iconst (-1), 1) := by decide +kernel
theorem dX4_own_28 : decode cX4_own 28 = .ok (.if_icmp .ne 5, 3) := by decide +kernel
theorem dX4_own_31 : decode cX4_own 31 = .ok (.iconst (-1), 1) := by decide +kernel
theorem dX4_own_32 : decode cX4_own 32 = .ok (.ireturn, 1) := by decide +kernel
theorem dX4_own_33 : decode cX4_own 33 = .ok (.iload_n 2, 1) := by decide +kernel
theorem dX4_own_34 : decode cX4_own 34 = .ok (.ifCond .ne 15, 3) := by decide +kernel
theorem dX4_own_37 : decode cX4_own 37 = .ok (.aload_n 0, 1) := by decide +kernel
theorem dX4_own_38 : decode cX4_own 38 = .ok (.getfield 37, 3) := by decide +kernel
theorem dX4_own_41 : decode cX4_own 41 = .ok (.getfield 156, 3) := by decide +kernel
theorem dX4_own_44 : decode cX4_own 44 = .ok (.iload_n 1, 1) := by decide +kernel
theorem dX4_own_45 : decode cX4_own 45 = .ok (.iaload, 1) := by decide +kernel
theorem dX4_own_46 : decode cX4_own 46 = .ok (.goto 12, 3) := by decide +kernel
theorem dX4_own_49 : decode cX4_own 49 = .ok (.aload_n 0, 1) := by decide +kernel
theorem dX4_own_50 : decode cX4_own 50 = .ok (.getfield 37, 3) := by decide +kernel
theorem dX4_own_53 : decode cX4_own 53 = .ok (.getfield 159, 3) := by decide +kernel
theorem dX4_own_56 : decode cX4_own 56 = .ok (.iload_n 1, 1) := by decide +kernel
theorem dX4_own_57 : decode cX4_own 57 = .ok (.iaload, 1) := by decide +kernel
theorem dX4_own_58 : decode cX4_own 58 = .ok (.ireturn, 1) := by decide +kernel
set_option maxRecDepth 20000 in
theorem ggX4_used_X4_checkBounds : GoodIn wsX4_used wsX4_checkBounds := goodIn_ca (goodIn_r _ [8, 9, 10] (by decide +kernel) (by decide +kernel)) (goodIn_sub (fun _ h => List.mem_cons_of_mem _ (List.mem_append_right _ h)) (by decide +kernel))
set_option maxRecDepth 20000 in
theorem gX4_used_X4_checkBounds : GoodIn wsX4_used (va_wsS RX4 41 yX4_checkBounds wsX4_checkBounds) := goodIn_app (goodIn_of _ (by decide +kernel)) ggX4_used_X4_checkBounds
theorem dX4_used_0 : decode cX4_used 0 = .ok (.iload_n 1, 1) := by decide +kernel
theorem dX4_used_1 : decode cX4_used 1 = .ok (.iconst 0, 1) := by decide +kernel
theorem dX4_used_2 : decode cX4_used 2 = .ok (.iconst 2, 1) := by decide +kernel
theorem dX4_used_3 : decode cX4_used 3 = .ok (.invokestatic 41, 3) := by decide +kernel
theorem dX4_used_6 : decode cX4_used 6 = .ok (.iload_n 1, 1) := by decide +kernel
theorem dX4_used_7 : decode cX4_used 7 = .ok (.ifCond .ne 11, 3) := by decide +kernel
theorem dX4_used_10 : decode cX4_used 10 = .ok (.aload_n 0, 1) := by decide +kernel
theorem dX4_used_11 : decode cX4_used 11 = .ok (.getfield 37, 3) := by decide +kernel
theorem dX4_used_14 : decode cX4_used 14 = .ok (.getfield 162, 3) := by decide +kernel
theorem dX4_used_17 : decode cX4_used 17 = .ok (.lreturn, 1) := by decide +kernel
theorem dX4_used_18 : decode cX4_used 18 = .ok (.iload_n 1, 1) := by decide +kernel
theorem dX4_used_19 : decode cX4_used 19 = .ok (.iconst 1, 1) := by decide +kernel
theorem dX4_used_20 : decode cX4_used 20 = .ok (.if_icmp .ne 13, 3) := by decide +kernel
theorem dX4_used_23 : decode cX4_used 23 = .ok (.aload_n 0, 1) := by decide +kernel
theorem dX4_used_24 : decode cX4_used 24 = .ok (.getfield 37, 3) := by decide +kernel
theorem dX4_used_27 : decode cX4_used 27 = .ok (.getfield 166, 3) := by decide +kernel
theorem dX4_used_30 : decode cX4_used 30 = .ok (.goto 10, 3) := by decide +kernel
theorem dX4_used_33 : decode cX4_used 33 = .ok (.aload_n 0, 1) := by decide +kernel
theorem dX4_used_34 : decode cX4_used 34 = .ok (.getfield 37, 3) := by decide +kernel
theorem dX4_used_37 : decode cX4_used 37 = .ok (.getfield 169, 3) := by decide +kernel
theorem dX4_used_40 : decode cX4_used 40 = .ok (.lreturn, 1) := by decide +kernel
set_option maxRecDepth 20000 in
theorem ggX4_checkPlace_X4_checkBounds : GoodIn wsX4_checkPlace wsX4_checkBounds := goodIn_ca (goodIn_r _ [6, 7, 8] (by decide +kernel) (by decide +kernel)) (goodIn_sub (fun _ h => List.mem_cons_of_mem _ (List.mem_append_right _ h)) (by decide +kernel))
set_option maxRecDepth 20000 in
theorem gX4_checkPlace_X4_checkBounds : GoodIn wsX4_checkPlace (va_wsS RX4 41 yX4_checkBounds wsX4_checkBounds) := goodIn_app (goodIn_of _ (by decide +kernel)) ggX4_checkPlace_X4_checkBounds
theorem dX4_checkPlace_0 : decode cX4_checkPlace 0 = .ok (.iload_n 1, 1) := by decide +kernel
theorem dX4_checkPlace_1 : decode cX4_checkPlace 1 = .ok (.iconst 0, 1) := by decide +kernel
theorem dX4_checkPlace_2 : decode cX4_checkPlace 2 = .ok (.aload_n 0, 1) := by decide +kernel
theorem dX4_checkPlace_3 : decode cX4_checkPlace 3 = .ok (.getfield 15, 3) := by decide +kernel
theorem dX4_checkPlace_6 : decode cX4_checkPlace 6 = .ok (.getfield 61, 3) := by decide +kernel
theorem dX4_checkPlace_9 : decode cX4_checkPlace 9 = .ok (.iconst 1, 1) := by decide +kernel
theorem dX4_checkPlace_10 : decode cX4_checkPlace 10 = .ok (.isub, 1) := by decide +kernel
theorem dX4_checkPlace_11 : decode cX4_checkPlace 11 = .ok (.invokestatic 41, 3) := by decide +kernel
theorem dX4_checkPlace_14 : decode cX4_checkPlace 14 = .ok (.return_, 1) := by decide +kernel
set_option maxRecDepth 20000 in
theorem ggX4_checkPoint_X4_checkBounds : GoodIn wsX4_checkPoint wsX4_checkBounds := goodIn_ca (goodIn_r _ [6, 7, 8] (by decide +kernel) (by decide +kernel)) (goodIn_sub (fun _ h => List.mem_cons_of_mem _ (List.mem_append_right _ h)) (by decide +kernel))
set_option maxRecDepth 20000 in
theorem gX4_checkPoint_X4_checkBounds : GoodIn wsX4_checkPoint (va_wsS RX4 41 yX4_checkBounds wsX4_checkBounds) := goodIn_app (goodIn_of _ (by decide +kernel)) ggX4_checkPoint_X4_checkBounds
theorem dX4_checkPoint_0 : decode cX4_checkPoint 0 = .ok (.iload_n 1, 1) := by decide +kernel
theorem dX4_checkPoint_1 : decode cX4_checkPoint 1 = .ok (.iconst 0, 1) := by decide +kernel
theorem dX4_checkPoint_2 : decode cX4_checkPoint 2 = .ok (.aload_n 0, 1) := by decide +kernel
theorem dX4_checkPoint_3 : decode cX4_checkPoint 3 = .ok (.getfield 15, 3) := by decide +kernel
theorem dX4_checkPoint_6 : decode cX4_checkPoint 6 = .ok (.getfield 68, 3) := by decide +kernel
theorem dX4_checkPoint_9 : decode cX4_checkPoint 9 = .ok (.iconst 1, 1) := by decide +kernel
theorem dX4_checkPoint_10 : decode cX4_checkPoint 10 = .ok (.isub, 1) := by decide +kernel
theorem dX4_checkPoint_11 : decode cX4_checkPoint 11 = .ok (.invokestatic 41, 3) := by decide +kernel
theorem dX4_checkPoint_14 : decode cX4_checkPoint 14 = .ok (.return_, 1) := by decide +kernel
theorem dX4_checkBounds_0 : decode cX4_checkBounds 0 = .ok (.iload_n 0, 1) := by decide +kernel
theorem dX4_checkBounds_1 : decode cX4_checkBounds 1 = .ok (.iload_n 1, 1) := by decide +kernel
theorem dX4_checkBounds_2 : decode cX4_checkBounds 2 = .ok (.if_icmp .lt 8, 3) := by decide +kernel
theorem dX4_checkBounds_5 : decode cX4_checkBounds 5 = .ok (.iload_n 0, 1) := by decide +kernel
theorem dX4_checkBounds_6 : decode cX4_checkBounds 6 = .ok (.iload_n 2, 1) := by decide +kernel
theorem dX4_checkBounds_7 : decode cX4_checkBounds 7 = .ok (.if_icmp .le 13, 3) := by decide +kernel
theorem dX4_checkBounds_10 : decode cX4_checkBounds 10 = .ok (.new 172, 3) := by decide +kernel
theorem dX4_checkBounds_13 : decode cX4_checkBounds 13 = .ok (.dup, 1) := by decide +kernel
theorem dX4_checkBounds_14 : decode cX4_checkBounds 14 = .ok (.ldc 174, 2) := by decide +kernel
theorem dX4_checkBounds_16 : decode cX4_checkBounds 16 = .ok (.invokespecial 176, 3) := by decide +kernel
theorem dX4_checkBounds_19 : decode cX4_checkBounds 19 = .ok (.athrow, 1) := by decide +kernel
theorem dX4_checkBounds_20 : decode cX4_checkBounds 20 = .ok (.return_, 1) := by decide +kernel
theorem dX4_checkCount_0 : decode cX4_checkCount 0 = .ok (.iload_n 0, 1) := by decide +kernel
theorem dX4_checkCount_1 : decode cX4_checkCount 1 = .ok (.iload_n 1, 1) := by decide +kernel
theorem dX4_checkCount_2 : decode cX4_checkCount 2 = .ok (.if_icmp .lt 13, 3) := by decide +kernel
theorem dX4_checkCount_5 : decode cX4_checkCount 5 = .ok (.new 146, 3) := by decide +kernel
theorem dX4_checkCount_8 : decode cX4_checkCount 8 = .ok (.dup, 1) := by decide +kernel
theorem dX4_checkCount_9 : decode cX4_checkCount 9 = .ok (.ldc 177, 2) := by decide +kernel
theorem dX4_checkCount_11 : decode cX4_checkCount 11 = .ok (.invokespecial 150, 3) := by decide +kernel
theorem dX4_checkCount_14 : decode cX4_checkCount 14 = .ok (.athrow, 1) := by decide +kernel
theorem dX4_checkCount_15 : decode cX4_checkCount 15 = .ok (.return_, 1) := by decide +kernel
set_option maxRecDepth 20000 in
theorem ggX4_lampsGo_X1_startAnew : GoodIn wsX4_lampsGo wsX1_startAnew := goodIn_r _ [10, 11, 12, 13, 14, 15, 16, 40, 41, 42, 43, 44, 45, 46, 47, 48, 49, 50] (by decide +kernel) (by decide +kernel)
set_option maxRecDepth 20000 in
theorem gX4_lampsGo_X1_startAnew : GoodIn wsX4_lampsGo (wsV RX4 183 RX1 yX1_startAnew wsX1_startAnew) := goodIn_app (goodIn_of _ (by decide +kernel)) ggX4_lampsGo_X1_startAnew
theorem dX4_lampsGo_0 : decode cX4_lampsGo 0 = .ok (.aload_n 0, 1) := by decide +kernel
theorem dX4_lampsGo_1 : decode cX4_lampsGo 1 = .ok (.getfield 21, 3) := by decide +kernel
theorem dX4_lampsGo_4 : decode cX4_lampsGo 4 = .ok (.iconst 0, 1) := by decide +kernel
theorem dX4_lampsGo_5 : decode cX4_lampsGo 5 = .ok (.putfield 179, 3) := by decide +kernel
theorem dX4_lampsGo_8 : decode cX4_lampsGo 8 = .ok (.aload_n 0, 1) := by decide +kernel
theorem dX4_lampsGo_9 : decode cX4_lampsGo 9 = .ok (.getfield 30, 3) := by decide +kernel
theorem dX4_lampsGo_12 : decode cX4_lampsGo 12 = .ok (.iconst 0, 1) := by decide +kernel
theorem dX4_lampsGo_13 : decode cX4_lampsGo 13 = .ok (.putfield 182, 3) := by decide +kernel
theorem dX4_lampsGo_16 : decode cX4_lampsGo 16 = .ok (.aload_n 0, 1) := by decide +kernel
theorem dX4_lampsGo_17 : decode cX4_lampsGo 17 = .ok (.getfield 37, 3) := by decide +kernel
theorem dX4_lampsGo_20 : decode cX4_lampsGo 20 = .ok (.invokevirtual 183, 3) := by decide +kernel
theorem dX4_lampsGo_23 : decode cX4_lampsGo 23 = .ok (.return_, 1) := by decide +kernel
set_option maxRecDepth 20000 in
theorem ggX4_settleScene_X0_settle : GoodIn wsX4_settleScene wsX0_settle := goodIn_r _ [7, 8, 9, 10, 11, 12, 13, 14, 15, 16, 17, 6, 18, 19, 20, 21, 22, 23, 24, 25, 26, 27, 28, 29, 30, 31, 32, 33, 34, 35, 36, 37, 38, 39, 40, 41, 42, 43, 44, 45, 46, 47, 48, 49, 50, 51, 52, 53, 54, 55, 56, 57, 58, 59, 60, 61, 62, 63, 64, 65, 66, 67, 68, 69, 70, 71, 72, 73, 74, 75, 76, 77, 78, 79, 80, 81, 82, 83, 84, 85, 86, 87, 88, 89, 90, 91, 92, 93, 94, 95, 96, 97, 141, 142, 143, 144, 145, 146, 147, 148, 149, 150, 151, 152, 153, 154, 155, 156, 157, 158, 159, 160, 161, 162, 163, 164, 165, 166] (by decide +kernel) (by decide +kernel)
set_option maxRecDepth 20000 in
theorem gX4_settleScene_X0_settle : GoodIn wsX4_settleScene (wsV RX4 92 RX0 yX0_settle wsX0_settle) := goodIn_app (goodIn_of _ (by decide +kernel)) ggX4_settleScene_X0_settle
set_option maxRecDepth 20000 in
theorem ggX4_settleScene_X3_settle : GoodIn wsX4_settleScene wsX3_settle := goodIn_r _ [102, 103, 104, 105, 106, 107, 108, 109, 110, 111, 112, 12, 13, 14, 113, 114, 115, 6, 116, 19, 20, 10, 117, 118, 119, 101, 120, 121, 122, 123, 124, 125, 126, 127, 128, 77, 53, 78, 129, 130, 131, 132, 23, 24, 25, 26, 39, 40, 41, 133, 134, 135, 136, 167, 168, 169, 170, 171, 172, 173, 153, 154, 155, 156, 157, 158, 159, 160, 161, 162, 163, 164, 165, 166, 141, 142, 143, 144, 145, 146, 147, 148, 149, 150, 151, 152] (by decide +kernel) (by decide +kernel)
set_option maxRecDepth 20000 in
theorem gX4_settleScene_X3_settle : GoodIn wsX4_settleScene (wsV RX4 186 RX3 yX3_settle wsX3_settle) := goodIn_app (goodIn_of _ (by decide +kernel)) ggX4_settleScene_X3_settle
theorem dX4_settleScene_0 : decode cX4_settleScene 0 = .ok (.aload_n 0, 1) := by decide +kernel
theorem dX4_settleScene_1 : decode cX4_settleScene 1 = .ok (.getfield 21, 3) := by decide +kernel
theorem dX4_settleScene_4 : decode cX4_settleScene 4 = .ok (.invokevirtual 92, 3) := by decide +kernel
theorem dX4_settleScene_7 : decode cX4_settleScene 7 = .ok (.aload_n 0, 1) := by decide +kernel
theorem dX4_settleScene_8 : decode cX4_settleScene 8 = .ok (.getfield 30, 3) := by decide +kernel
theorem dX4_settleScene_11 : decode cX4_settleScene 11 = .ok (.invokevirtual 186, 3) := by decide +kernel
theorem dX4_settleScene_14 : decode cX4_settleScene 14 = .ok (.return_, 1) := by decide +kernel
theorem dX4_quotient_0 : decode cX4_quotient 0 = .ok (.lload_n 2, 1) := by decide +kernel
theorem dX4_quotient_1 : decode cX4_quotient 1 = .ok (.lconst 0, 1) := by decide +kernel
theorem dX4_quotient_2 : decode cX4_quotient 2 = .ok (.lcmp, 1) := by decide +kernel
theorem dX4_quotient_3 : decode cX4_quotient 3 = .ok (.ifCond .le 9, 3) := by decide +kernel
theorem dX4_quotient_6 : decode cX4_quotient 6 = .ok (.lload_n 0, 1) := by decide +kernel
theorem dX4_quotient_7 : decode cX4_quotient 7 = .ok (.lload_n 2, 1) := by decide +kernel
theorem dX4_quotient_8 : decode cX4_quotient 8 = .ok (.ldiv, 1) := by decide +kernel
theorem dX4_quotient_9 : decode cX4_quotient 9 = .ok (.goto 4, 3) := by decide +kernel
theorem dX4_quotient_12 : decode cX4_quotient 12 = .ok (.lconst 0, 1) := by decide +kernel
theorem dX4_quotient_13 : decode cX4_quotient 13 = .ok (.lreturn, 1) := by decide +kernel
theorem dX5_init_0 : decode cX5_init 0 = .ok (.aload_n 0, 1) := by decide +kernel
theorem dX5_init_1 : decode cX5_init 1 = .ok (.invokespecial 1, 3) := by decide +kernel
theorem dX5_init_4 : decode cX5_init 4 = .ok (.aload_n 0, 1) := by decide +kernel
theorem dX5_init_5 : decode cX5_init 5 = .ok (.iconst 3, 1) := by decide +kernel
theorem dX5_init_6 : decode cX5_init 6 = .ok (.newarray .int, 2) := by decide +kernel
theorem dX5_init_8 : decode cX5_init 8 = .ok (.putfield 7, 3) := by decide +kernel
theorem dX5_init_11 : decode cX5_init 11 = .ok (.aload_n 0, 1) := by decide +kernel
theorem dX5_init_12 : decode cX5_init 12 = .ok (.iconst 3, 1) := by decide +kernel
theorem dX5_init_13 : decode cX5_init 13 = .ok (.newarray .int, 2) := by decide +kernel
theorem dX5_init_15 : decode cX5_init 15 = .ok (.putfield 13, 3) := by decide +kernel
theorem dX5_init_18 : decode cX5_init 18 = .ok (.aload_n 0, 1) := by decide +kernel
theorem dX5_init_19 : decode cX5_init 19 = .ok (.iconst 3, 1) := by decide +kernel
theorem dX5_init_20 : decode cX5_init 20 = .ok (.newarray .int, 2) := by decide +kernel
theorem dX5_init_22 : decode cX5_init 22 = .ok (.putfield 16, 3) := by decide +kernel
theorem dX5_init_25 : decode cX5_init 25 = .ok (.aload_n 0, 1) := by decide +kernel
theorem dX5_init_26 : decode cX5_init 26 = .ok (.iconst 3, 1) := by decide +kernel
theorem dX5_init_27 : decode cX5_init 27 = .ok (.newarray .int, 2) := by decide +kernel
theorem dX5_init_29 : decode cX5_init 29 = .ok (.putfield 19, 3) := by decide +kernel
theorem dX5_init_32 : decode cX5_init 32 = .ok (.aload_n 0, 1) := by decide +kernel
theorem dX5_init_33 : decode cX5_init 33 = .ok (.bipush 7, 2) := by decide +kernel
theorem dX5_init_35 : decode cX5_init 35 = .ok (.newarray .int, 2) := by decide +kernel
theorem dX5_init_37 : decode cX5_init 37 = .ok (.putfield 22, 3) := by decide +kernel
theorem dX5_init_40 : decode cX5_init 40 = .ok (.aload_n 0, 1) := by decide +kernel
theorem dX5_init_41 : decode cX5_init 41 = .ok (.bipush 7, 2) := by decide +kernel
theorem dX5_init_43 : decode cX5_init 43 = .ok (.newarray .int, 2) := by decide +kernel
theorem dX5_init_45 : decode cX5_init 45 = .ok (.putfield 25, 3) := by decide +kernel
theorem dX5_init_48 : decode cX5_init 48 = .ok (.aload_n 0, 1) := by decide +kernel
theorem dX5_init_49 : decode cX5_init 49 = .ok (.bipush 7, 2) := by decide +kernel
theorem dX5_init_51 : decode cX5_init 51 = .ok (.newarray .int, 2) := by decide +kernel
theorem dX5_init_53 : decode cX5_init 53 = .ok (.putfield 28, 3) := by decide +kernel
theorem dX5_init_56 : decode cX5_init 56 = .ok (.aload_n 0, 1) := by decide +kernel
theorem dX5_init_57 : decode cX5_init 57 = .ok (.bipush 7, 2) := by decide +kernel
theorem dX5_init_59 : decode cX5_init 59 = .ok (.newarray .int, 2) := by decide +kernel
theorem dX5_init_61 : decode cX5_init 61 = .ok (.putfield 31, 3) := by decide +kernel
theorem dX5_init_64 : decode cX5_init 64 = .ok (.aload_n 0, 1) := by decide +kernel
theorem dX5_init_65 : decode cX5_init 65 = .ok (.bipush 16, 2) := by decide +kernel
theorem dX5_init_67 : decode cX5_init 67 = .ok (.newarray .int, 2) := by decide +kernel
theorem dX5_init_69 : decode cX5_init 69 = .ok (.putfield 34, 3) := by decide +kernel
theorem dX5_init_72 : decode cX5_init 72 = .ok (.aload_n 0, 1) := by decide +kernel
theorem dX5_init_73 : decode cX5_init 73 = .ok (.bipush 16, 2) := by decide +kernel
theorem dX5_init_75 : decode cX5_init 75 = .ok (.newarray .int, 2) := by decide +kernel
theorem dX5_init_77 : decode cX5_init 77 = .ok (.putfield 37, 3) := by decide +kernel
theorem dX5_init_80 : decode cX5_init 80 = .ok (.aload_n 0, 1) := by decide +kernel
theorem dX5_init_81 : decode cX5_init 81 = .ok (.bipush 16, 2) := by decide +kernel
theorem dX5_init_83 : decode cX5_init 83 = .ok (.newarray .int, 2) := by decide +kernel
theorem dX5_init_85 : decode cX5_init 85 = .ok (.putfield 40, 3) := by decide +kernel
theorem dX5_init_88 : decode cX5_init 88 = .ok (.aload_n 0, 1) := by decide +kernel
theorem dX5_init_89 : decode cX5_init 89 = .ok (.bipush 16, 2) := by decide +kernel
theorem dX5_init_91 : decode cX5_init 91 = .ok (.newarray .int, 2) := by decide +kernel
theorem dX5_init_93 : decode cX5_init 93 = .ok (.putfield 43, 3) := by decide +kernel
theorem dX5_init_96 : decode cX5_init 96 = .ok (.aload_n 0, 1) := by decide +kernel
theorem dX5_init_97 : decode cX5_init 97 = .ok (.bipush 16, 2) := by decide +kernel
theorem dX5_init_99 : decode cX5_init 99 = .ok (.newarray .int, 2) := by decide +kernel
theorem dX5_init_101 : decode cX5_init 101 = .ok (.putfield 46, 3) := by decide +kernel
theorem dX5_init_104 : decode cX5_init 104 = .ok (.aload_n 0, 1) := by decide +kernel
theorem dX5_init_105 : decode cX5_init 105 = .ok (.iconst 3, 1) := by decide +kernel
theorem dX5_init_106 : decode cX5_init 106 = .ok (.putfield 49, 3) := by decide +kernel
theorem dX5_init_109 : decode cX5_init 109 = .ok (.aload_n 0, 1) := by decide +kernel
theorem dX5_init_110 : decode cX5_init 110 = .ok (.bipush 10, 2) := by decide +kernel
theorem dX5_init_112 : decode cX5_init 112 = .ok (.putfield 53, 3) := by decide +kernel
theorem dX5_init_115 : decode cX5_init 115 = .ok (.aload_n 0, 1) := by decide +kernel
theorem dX5_init_116 : decode cX5_init 116 = .ok (.bipush 7, 2) := by decide +kernel
theorem dX5_init_118 : decode cX5_init 118 = .ok (.newarray .int, 2) := by decide +kernel
theorem dX5_init_120 : decode cX5_init 120 = .ok (.putfield 56, 3) := by decide +kernel
theorem dX5_init_123 : decode cX5_init 123 = .ok (.aload_n 0, 1) := by decide +kernel
theorem dX5_init_124 : decode cX5_init 124 = .ok (.bipush 7, 2) := by decide +kernel
theorem dX5_init_126 : decode cX5_init 126 = .ok (.newarray .int, 2) := by decide +kernel
theorem dX5_init_128 : decode cX5_init 128 = .ok (.putfield 59, 3) := by decide +kernel
theorem dX5_init_131 : decode cX5_init 131 = .ok (.aload_n 0, 1) := by decide +kernel
theorem dX5_init_132 : decode cX5_init 132 = .ok (.sipush 128, 3) := by decide +kernel
theorem dX5_init_135 : decode cX5_init 135 = .ok (.newarray .int, 2) := by decide +kernel
theorem dX5_init_137 : decode cX5_init 137 = .ok (.putfield 62, 3) := by decide +kernel
theorem dX5_init_140 : decode cX5_init 140 = .ok (.aload_n 0, 1) := by decide +kernel
theorem dX5_init_141 : decode cX5_init 141 = .ok (.bipush 8, 2) := by decide +kernel
theorem dX5_init_143 : decode cX5_init 143 = .ok (.newarray .int, 2) := by decide +kernel
theorem dX5_init_145 : decode cX5_init 145 = .ok (.putfield 65, 3) := by decide +kernel
theorem dX5_init_148 : decode cX5_init 148 = .ok (.aload_n 0, 1) := by decide +kernel
theorem dX5_init_149 : decode cX5_init 149 = .ok (.sipush 336, 3) := by decide +kernel
theorem dX5_init_152 : decode cX5_init 152 = .ok (.newarray .int, 2) := by decide +kernel
theorem dX5_init_154 : decode cX5_init 154 = .ok (.putfield 68, 3) := by decide +kernel
theorem dX5_init_157 : decode cX5_init 157 = .ok (.aload_n 0, 1) := by decide +kernel
theorem dX5_init_158 : decode cX5_init 158 = .ok (.bipush 7, 2) := by decide +kernel
theorem dX5_init_160 : decode cX5_init 160 = .ok (.newarray .int, 2) := by decide +kernel
theorem dX5_init_162 : decode cX5_init 162 = .ok (.putfield 71, 3) := by decide +kernel
theorem dX5_init_165 : decode cX5_init 165 = .ok (.aload_n 0, 1) := by decide +kernel
theorem dX5_init_166 : decode cX5_init 166 = .ok (.bipush 7, 2) := by decide +kernel
theorem dX5_init_168 : decode cX5_init 168 = .ok (.newarray .int, 2) := by decide +kernel
theorem dX5_init_170 : decode cX5_init 170 = .ok (.putfield 74, 3) := by decide +kernel
theorem dX5_init_173 : decode cX5_init 173 = .ok (.aload_n 0, 1) := by decide +kernel
theorem dX5_init_174 : decode cX5_init 174 = .ok (.bipush 7, 2) := by decide +kernel
theorem dX5_init_176 : decode cX5_init 176 = .ok (.newarray .int, 2) := by decide +kernel
theorem dX5_init_178 : decode cX5_init 178 = .ok (.putfield 77, 3) := by decide +kernel
theorem dX5_init_181 : decode cX5_init 181 = .ok (.return_, 1) := by decide +kernel
theorem dX5_thrown_0 : decode cX5_thrown 0 = .ok (.aload_n 0, 1) := by decide +kernel
theorem dX5_thrown_1 : decode cX5_thrown 1 = .ok (.getfield 80, 3) := by decide +kernel
theorem dX5_thrown_4 : decode cX5_thrown 4 = .ok (.ireturn, 1) := by decide +kernel
theorem dX5_isIn_0 : decode cX5_isIn 0 = .ok (.iload_n 0, 1) := by decide +kernel
theorem dX5_isIn_1 : decode cX5_isIn 1 = .ok (.iload_n 1, 1) := by decide +kernel
theorem dX5_isIn_2 : decode cX5_isIn 2 = .ok (.if_icmp .lt 12, 3) := by decide +kernel
theorem dX5_isIn_5 : decode cX5_isIn 5 = .ok (.iload_n 0, 1) := by decide +kernel
theorem dX5_isIn_6 : decode cX5_isIn 6 = .ok (.iload_n 2, 1) := by decide +kernel
theorem dX5_isIn_7 : decode cX5_isIn 7 = .ok (.if_icmp .gt 7, 3) := by decide +kernel
theorem dX5_isIn_10 : decode cX5_isIn 10 = .ok (.iconst 1, 1) := by decide +kernel
theorem dX5_isIn_11 : decode cX5_isIn 11 = .ok (.goto 4, 3) := by decide +kernel
theorem dX5_isIn_14 : decode cX5_isIn 14 = .ok (.iconst 0, 1) := by decide +kernel
theorem dX5_isIn_15 : decode cX5_isIn 15 = .ok (.ireturn, 1) := by decide +kernel
set_option maxRecDepth 20000 in
theorem ggX5_isKind_X5_isIn : GoodIn wsX5_isKind wsX5_isIn := goodIn_r _ [5] (by decide +kernel) (by decide +kernel)
set_option maxRecDepth 20000 in
theorem gX5_isKind_X5_isIn : GoodIn wsX5_isKind (va_wsS RX5 86 yX5_isIn wsX5_isIn) := goodIn_app (goodIn_of _ (by decide +kernel)) ggX5_isKind_X5_isIn
theorem dX5_isKind_0 : decode cX5_isKind 0 = .ok (.iload_n 1, 1) := by decide +kernel
theorem dX5_isKind_1 : decode cX5_isKind 1 = .ok (.iconst 0, 1) := by decide +kernel
theorem dX5_isKind_2 : decode cX5_isKind 2 = .ok (.aload_n 0, 1) := by decide +kernel
theorem dX5_isKind_3 : decode cX5_isKind 3 = .ok (.getfield 83, 3) := by decide +kernel
theorem dX5_isKind_6 : decode cX5_isKind 6 = .ok (.iconst 1, 1) := by decide +kernel
theorem dX5_isKind_7 : decode cX5_isKind 7 = .ok (.isub, 1) := by decide +kernel
theorem dX5_isKind_8 : decode cX5_isKind 8 = .ok (.invokestatic 86, 3) := by decide +kernel
theorem dX5_isKind_11 : decode cX5_isKind 11 = .ok (.ireturn, 1) := by decide +kernel
set_option maxRecDepth 20000 in
theorem ggX5_isPlace_X5_isIn : GoodIn wsX5_isPlace wsX5_isIn := goodIn_r _ [5] (by decide +kernel) (by decide +kernel)
set_option maxRecDepth 20000 in
theorem gX5_isPlace_X5_isIn : GoodIn wsX5_isPlace (va_wsS RX5 86 yX5_isIn wsX5_isIn) := goodIn_app (goodIn_of _ (by decide +kernel)) ggX5_isPlace_X5_isIn
theorem dX5_isPlace_0 : decode cX5_isPlace 0 = .ok (.iload_n 1, 1) := by decide +kernel
theorem dX5_isPlace_1 : decode cX5_isPlace 1 = .ok (.iconst 0, 1) := by decide +kernel
theorem dX5_isPlace_2 : decode cX5_isPlace 2 = .ok (.aload_n 0, 1) := by decide +kernel
theorem dX5_isPlace_3 : decode cX5_isPlace 3 = .ok (.getfield 90, 3) := by decide +kernel
theorem dX5_isPlace_6 : decode cX5_isPlace 6 = .ok (.iconst 1, 1) := by decide +kernel
theorem dX5_isPlace_7 : decode cX5_isPlace 7 = .ok (.isub, 1) := by decide +kernel
theorem dX5_isPlace_8 : decode cX5_isPlace 8 = .ok (.invokestatic 86, 3) := by decide +kernel
theorem dX5_isPlace_11 : decode cX5_isPlace 11 = .ok (.ireturn, 1) := by decide +kernel
set_option maxRecDepth 20000 in
theorem ggX5_isPoint_X5_isIn : GoodIn wsX5_isPoint wsX5_isIn := goodIn_r _ [5] (by decide +kernel) (by decide +kernel)
set_option maxRecDepth 20000 in
theorem gX5_isPoint_X5_isIn : GoodIn wsX5_isPoint (va_wsS RX5 86 yX5_isIn wsX5_isIn) := goodIn_app (goodIn_of _ (by decide +kernel)) ggX5_isPoint_X5_isIn
theorem dX5_isPoint_0 : decode cX5_isPoint 0 = .ok (.iload_n 1, 1) := by decide +kernel
theorem dX5_isPoint_1 : decode cX5_isPoint 1 = .ok (.iconst 0, 1) := by decide +kernel
theorem dX5_isPoint_2 : decode cX5_isPoint 2 = .ok (.aload_n 0, 1) := by decide +kernel
theorem dX5_isPoint_3 : decode cX5_isPoint 3 = .ok (.getfield 93, 3) := by decide +kernel
theorem dX5_isPoint_6 : decode cX5_isPoint 6 = .ok (.iconst 1, 1) := by decide +kernel
theorem dX5_isPoint_7 : decode cX5_isPoint 7 = .ok (.isub, 1) := by decide +kernel
theorem dX5_isPoint_8 : decode cX5_isPoint 8 = .ok (.invokestatic 86, 3) := by decide +kernel
theorem dX5_isPoint_11 : decode cX5_isPoint 11 = .ok (.ireturn, 1) := by decide +kernel
theorem dX5_renew_0 : decode cX5_renew 0 = .ok (.aload_n 0, 1) := by decide +kernel
theorem dX5_renew_1 : decode cX5_renew 1 = .ok (.iconst 0, 1) := by decide +kernel
theorem dX5_renew_2 : decode cX5_renew 2 = .ok (.putfield 96, 3) := by decide +kernel
theorem dX5_renew_5 : decode cX5_renew 5 = .ok (.iconst 0, 1) := by decide +kernel
theorem dX5_renew_6 : decode cX5_renew 6 = .ok (.istore_n 1, 1) := by decide +kernel
theorem dX5_renew_7 : decode cX5_renew 7 = .ok (.iload_n 1, 1) := by decide +kernel
theorem dX5_renew_8 : decode cX5_renew 8 = .ok (.bipush 7, 2) := by decide +kernel
theorem dX5_renew_10 : decode cX5_renew 10 = .ok (.if_icmp .ge 23, 3) := by decide +kernel
theorem dX5_renew_13 : decode cX5_renew 13 = .ok (.aload_n 0, 1) := by decide +kernel
theorem dX5_renew_14 : decode cX5_renew 14 = .ok (.getfield 74, 3) := by decide +kernel
theorem dX5_renew_17 : decode cX5_renew 17 = .ok (.iload_n 1, 1) := by decide +kernel
theorem dX5_renew_18 : decode cX5_renew 18 = .ok (.iconst 0, 1) := by decide +kernel
theorem dX5_renew_19 : decode cX5_renew 19 = .ok (.iastore, 1) := by decide +kernel
theorem dX5_renew_20 : decode cX5_renew 20 = .ok (.aload_n 0, 1) := by decide +kernel
theorem dX5_renew_21 : decode cX5_renew 21 = .ok (.getfield 77, 3) := by decide +kernel
theorem dX5_renew_24 : decode cX5_renew 24 = .ok (.iload_n 1, 1) := by decide +kernel
theorem dX5_renew_25 : decode cX5_renew 25 = .ok (.iconst 0, 1) := by decide +kernel
theorem dX5_renew_26 : decode cX5_renew 26 = .ok (.iastore, 1) := by decide +kernel
theorem dX5_renew_27 : decode cX5_renew 27 = .ok (.iinc 1 1, 3) := by decide +kernel
theorem dX5_renew_30 : decode cX5_renew 30 = .ok (.goto (-23), 3) := by decide +kernel
theorem dX5_renew_33 : decode cX5_renew 33 = .ok (.return_, 1) := by decide +kernel
set_option maxRecDepth 20000 in
theorem ggX5_kind_X5_isIn : GoodIn wsX5_kind wsX5_isIn := goodIn_r _ [11] (by decide +kernel) (by decide +kernel)
set_option maxRecDepth 20000 in
theorem gX5_kind_X5_isIn : GoodIn wsX5_kind (va_wsS RX5 86 yX5_isIn wsX5_isIn) := goodIn_app (goodIn_of _ (by decide +kernel)) ggX5_kind_X5_isIn
set_option maxRecDepth 20000 in
theorem ggX5_kind_X5_renew : GoodIn wsX5_kind wsX5_renew := goodIn_r _ [15, 16, 17, 18, 19, 20, 21, 22, 23, 24, 25, 26, 27, 28, 29, 30, 31, 32, 33, 34, 35, 36, 37, 38, 39, 40, 41, 42, 43, 44, 45, 46, 47, 48, 49, 50, 51, 52, 53, 54] (by decide +kernel) (by decide +kernel)
set_option maxRecDepth 20000 in
theorem gX5_kind_X5_renew : GoodIn wsX5_kind (wsV RX5 101 RX5 yX5_renew wsX5_renew) := goodIn_app (goodIn_of _ (by decide +kernel)) ggX5_kind_X5_renew
theorem dX5_kind_0 : decode cX5_kind 0 = .ok (.iload_n 1, 1) := by decide +kernel
theorem dX5_kind_1 : decode cX5_kind 1 = .ok (.iconst 1, 1) := by decide +kernel
theorem dX5_kind_2 : decode cX5_kind 2 = .ok (.sipush 10000, 3) := by decide +kernel
