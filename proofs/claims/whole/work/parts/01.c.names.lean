theorem dX2_launch_71 : decode cX2_launch 71 = .ok (.aload_n 0, 1) := by decide +kernel
theorem dX2_launch_72 : decode cX2_launch 72 = .ok (.dup, 1) := by decide +kernel
theorem dX2_launch_73 : decode cX2_launch 73 = .ok (.getfield 35, 3) := by decide +kernel
theorem dX2_launch_76 : decode cX2_launch 76 = .ok (.iconst 1, 1) := by decide +kernel
theorem dX2_launch_77 : decode cX2_launch 77 = .ok (.iadd, 1) := by decide +kernel
theorem dX2_launch_78 : decode cX2_launch 78 = .ok (.putfield 35, 3) := by decide +kernel
theorem dX2_launch_81 : decode cX2_launch 81 = .ok (.aload_n 0, 1) := by decide +kernel
theorem dX2_launch_82 : decode cX2_launch 82 = .ok (.invokevirtual 159, 3) := by decide +kernel
theorem dX2_launch_85 : decode cX2_launch 85 = .ok (.ireturn, 1) := by decide +kernel
set_option maxRecDepth 20000 in
theorem ggX2_setRules_X2_within : GoodIn wsX2_setRules wsX2_within := goodIn_r _ [8] (by decide +kernel) (by decide +kernel)
set_option maxRecDepth 20000 in
theorem gX2_setRules_X2_within : GoodIn wsX2_setRules (va_wsS RX2 53 yX2_within wsX2_within) := goodIn_app (goodIn_of _ (by decide +kernel)) ggX2_setRules_X2_within
theorem dX2_setRules_0 : decode cX2_setRules 0 = .ok (.iload_n 1, 1) := by decide +kernel
theorem dX2_setRules_1 : decode cX2_setRules 1 = .ok (.iconst 1, 1) := by decide +kernel
theorem dX2_setRules_2 : decode cX2_setRules 2 = .ok (.bipush 20, 2) := by decide +kernel
theorem dX2_setRules_4 : decode cX2_setRules 4 = .ok (.invokestatic 53, 3) := by decide +kernel
theorem dX2_setRules_7 : decode cX2_setRules 7 = .ok (.ifCond .eq 13, 3) := by decide +kernel
theorem dX2_setRules_10 : decode cX2_setRules 10 = .ok (.iload_n 2, 1) := by decide +kernel
theorem dX2_setRules_11 : decode cX2_setRules 11 = .ok (.iconst 0, 1) := by decide +kernel
theorem dX2_setRules_12 : decode cX2_setRules 12 = .ok (.bipush 9, 2) := by decide +kernel
theorem dX2_setRules_14 : decode cX2_setRules 14 = .ok (.invokestatic 53, 3) := by decide +kernel
theorem dX2_setRules_17 : decode cX2_setRules 17 = .ok (.ifCond .ne 13, 3) := by decide +kernel
theorem dX2_setRules_20 : decode cX2_setRules 20 = .ok (.new 57, 3) := by decide +kernel
theorem dX2_setRules_23 : decode cX2_setRules 23 = .ok (.dup, 1) := by decide +kernel
theorem dX2_setRules_24 : decode cX2_setRules 24 = .ok (.ldc 162, 2) := by decide +kernel
theorem dX2_setRules_26 : decode cX2_setRules 26 = .ok (.invokespecial 61, 3) := by decide +kernel
theorem dX2_setRules_29 : decode cX2_setRules 29 = .ok (.athrow, 1) := by decide +kernel
theorem dX2_setRules_30 : decode cX2_setRules 30 = .ok (.aload_n 0, 1) := by decide +kernel
theorem dX2_setRules_31 : decode cX2_setRules 31 = .ok (.getfield 41, 3) := by decide +kernel
theorem dX2_setRules_34 : decode cX2_setRules 34 = .ok (.istore_n 3, 1) := by decide +kernel
theorem dX2_setRules_35 : decode cX2_setRules 35 = .ok (.aload_n 0, 1) := by decide +kernel
theorem dX2_setRules_36 : decode cX2_setRules 36 = .ok (.iload_n 1, 1) := by decide +kernel
theorem dX2_setRules_37 : decode cX2_setRules 37 = .ok (.putfield 41, 3) := by decide +kernel
theorem dX2_setRules_40 : decode cX2_setRules 40 = .ok (.aload_n 0, 1) := by decide +kernel
theorem dX2_setRules_41 : decode cX2_setRules 41 = .ok (.iload_n 2, 1) := by decide +kernel
theorem dX2_setRules_42 : decode cX2_setRules 42 = .ok (.putfield 44, 3) := by decide +kernel
theorem dX2_setRules_45 : decode cX2_setRules 45 = .ok (.iload_n 3, 1) := by decide +kernel
theorem dX2_setRules_46 : decode cX2_setRules 46 = .ok (.ireturn, 1) := by decide +kernel
set_option maxRecDepth 20000 in
theorem ggX2_setGust_X2_within : GoodIn wsX2_setGust wsX2_within := goodIn_r _ [7] (by decide +kernel) (by decide +kernel)
set_option maxRecDepth 20000 in
theorem gX2_setGust_X2_within : GoodIn wsX2_setGust (va_wsS RX2 53 yX2_within wsX2_within) := goodIn_app (goodIn_of _ (by decide +kernel)) ggX2_setGust_X2_within
theorem dX2_setGust_0 : decode cX2_setGust 0 = .ok (.iload_n 1, 1) := by decide +kernel
theorem dX2_setGust_1 : decode cX2_setGust 1 = .ok (.iconst 1, 1) := by decide +kernel
theorem dX2_setGust_2 : decode cX2_setGust 2 = .ok (.sipush 400, 3) := by decide +kernel
theorem dX2_setGust_5 : decode cX2_setGust 5 = .ok (.invokestatic 53, 3) := by decide +kernel
theorem dX2_setGust_8 : decode cX2_setGust 8 = .ok (.ifCond .eq 13, 3) := by decide +kernel
theorem dX2_setGust_11 : decode cX2_setGust 11 = .ok (.iload_n 2, 1) := by decide +kernel
theorem dX2_setGust_12 : decode cX2_setGust 12 = .ok (.iconst 0, 1) := by decide +kernel
theorem dX2_setGust_13 : decode cX2_setGust 13 = .ok (.bipush 9, 2) := by decide +kernel
theorem dX2_setGust_15 : decode cX2_setGust 15 = .ok (.invokestatic 53, 3) := by decide +kernel
theorem dX2_setGust_18 : decode cX2_setGust 18 = .ok (.ifCond .ne 13, 3) := by decide +kernel
theorem dX2_setGust_21 : decode cX2_setGust 21 = .ok (.new 57, 3) := by decide +kernel
theorem dX2_setGust_24 : decode cX2_setGust 24 = .ok (.dup, 1) := by decide +kernel
theorem dX2_setGust_25 : decode cX2_setGust 25 = .ok (.ldc 164, 2) := by decide +kernel
theorem dX2_setGust_27 : decode cX2_setGust 27 = .ok (.invokespecial 61, 3) := by decide +kernel
theorem dX2_setGust_30 : decode cX2_setGust 30 = .ok (.athrow, 1) := by decide +kernel
theorem dX2_setGust_31 : decode cX2_setGust 31 = .ok (.aload_n 0, 1) := by decide +kernel
theorem dX2_setGust_32 : decode cX2_setGust 32 = .ok (.getfield 24, 3) := by decide +kernel
theorem dX2_setGust_35 : decode cX2_setGust 35 = .ok (.iload_n 1, 1) := by decide +kernel
theorem dX2_setGust_36 : decode cX2_setGust 36 = .ok (.iaload, 1) := by decide +kernel
theorem dX2_setGust_37 : decode cX2_setGust 37 = .ok (.istore_n 3, 1) := by decide +kernel
theorem dX2_setGust_38 : decode cX2_setGust 38 = .ok (.aload_n 0, 1) := by decide +kernel
theorem dX2_setGust_39 : decode cX2_setGust 39 = .ok (.getfield 24, 3) := by decide +kernel
theorem dX2_setGust_42 : decode cX2_setGust 42 = .ok (.iload_n 1, 1) := by decide +kernel
theorem dX2_setGust_43 : decode cX2_setGust 43 = .ok (.iload_n 2, 1) := by decide +kernel
theorem dX2_setGust_44 : decode cX2_setGust 44 = .ok (.iastore, 1) := by decide +kernel
theorem dX2_setGust_45 : decode cX2_setGust 45 = .ok (.iload_n 3, 1) := by decide +kernel
theorem dX2_setGust_46 : decode cX2_setGust 46 = .ok (.ireturn, 1) := by decide +kernel
set_option maxRecDepth 20000 in
theorem ggX2_pass_X2_within : GoodIn wsX2_pass wsX2_within := goodIn_r _ [6] (by decide +kernel) (by decide +kernel)
set_option maxRecDepth 20000 in
theorem gX2_pass_X2_within : GoodIn wsX2_pass (va_wsS RX2 53 yX2_within wsX2_within) := goodIn_app (goodIn_of _ (by decide +kernel)) ggX2_pass_X2_within
set_option maxRecDepth 20000 in
theorem ggX2_pass_X2_litLanterns : GoodIn wsX2_pass wsX2_litLanterns := goodIn_r _ [10, 11, 12, 108, 109, 110, 111, 112, 113, 114, 115, 116, 117, 118, 119, 120, 121, 122, 123, 124, 125, 126] (by decide +kernel) (by decide +kernel)
set_option maxRecDepth 20000 in
theorem gX2_pass_X2_litLanterns : GoodIn wsX2_pass (wsV RX2 168 RX2 yX2_litLanterns wsX2_litLanterns) := goodIn_app (goodIn_of _ (by decide +kernel)) ggX2_pass_X2_litLanterns
set_option maxRecDepth 20000 in
theorem ggX2_pass_X2_passOne : GoodIn wsX2_pass wsX2_passOne := goodIn_r _ [16, 17, 18, 19, 20, 5, 21, 22, 23, 24, 25, 26, 27, 28, 29, 30, 31, 32, 33, 34, 35, 36, 37, 38, 39, 40, 41, 42, 43, 44, 45, 46, 47, 48, 49, 50, 51, 52, 53, 54, 55, 56, 57, 58, 59, 60, 61, 62, 63, 11, 12, 64, 3, 4, 6, 65, 66, 67, 68, 69, 70, 71, 72, 73, 74, 75, 76, 77, 78, 79, 80, 81, 82, 83, 84, 85, 86, 87, 88, 89, 90, 91, 92, 93, 94, 95, 96, 97, 98, 99, 100, 101, 102, 103, 104, 105, 106, 107, 108, 109, 110, 111, 112, 113, 114, 115, 116, 117, 118, 119, 127, 128, 129, 130, 131, 132, 133, 120, 121, 122, 123, 124, 125, 126] (by decide +kernel) (by decide +kernel)
set_option maxRecDepth 20000 in
theorem gX2_pass_X2_passOne : GoodIn wsX2_pass (wsV RX2 171 RX2 yX2_passOne wsX2_passOne) := goodIn_app (goodIn_of _ (by decide +kernel)) ggX2_pass_X2_passOne
theorem dX2_pass_0 : decode cX2_pass 0 = .ok (.iload_n 1, 1) := by decide +kernel
theorem dX2_pass_1 : decode cX2_pass 1 = .ok (.iconst 1, 1) := by decide +kernel
theorem dX2_pass_2 : decode cX2_pass 2 = .ok (.bipush 60, 2) := by decide +kernel
theorem dX2_pass_4 : decode cX2_pass 4 = .ok (.invokestatic 53, 3) := by decide +kernel
theorem dX2_pass_7 : decode cX2_pass 7 = .ok (.ifCond .ne 13, 3) := by decide +kernel
theorem dX2_pass_10 : decode cX2_pass 10 = .ok (.new 57, 3) := by decide +kernel
theorem dX2_pass_13 : decode cX2_pass 13 = .ok (.dup, 1) := by decide +kernel
theorem dX2_pass_14 : decode cX2_pass 14 = .ok (.ldc 166, 2) := by decide +kernel
theorem dX2_pass_16 : decode cX2_pass 16 = .ok (.invokespecial 61, 3) := by decide +kernel
theorem dX2_pass_19 : decode cX2_pass 19 = .ok (.athrow, 1) := by decide +kernel
theorem dX2_pass_20 : decode cX2_pass 20 = .ok (.aload_n 0, 1) := by decide +kernel
theorem dX2_pass_21 : decode cX2_pass 21 = .ok (.invokevirtual 168, 3) := by decide +kernel
theorem dX2_pass_24 : decode cX2_pass 24 = .ok (.istore_n 2, 1) := by decide +kernel
theorem dX2_pass_25 : decode cX2_pass 25 = .ok (.iconst 0, 1) := by decide +kernel
theorem dX2_pass_26 : decode cX2_pass 26 = .ok (.istore_n 3, 1) := by decide +kernel
theorem dX2_pass_27 : decode cX2_pass 27 = .ok (.iload_n 3, 1) := by decide +kernel
theorem dX2_pass_28 : decode cX2_pass 28 = .ok (.iload_n 1, 1) := by decide +kernel
theorem dX2_pass_29 : decode cX2_pass 29 = .ok (.if_icmp .ge 13, 3) := by decide +kernel
theorem dX2_pass_32 : decode cX2_pass 32 = .ok (.aload_n 0, 1) := by decide +kernel
theorem dX2_pass_33 : decode cX2_pass 33 = .ok (.invokevirtual 171, 3) := by decide +kernel
theorem dX2_pass_36 : decode cX2_pass 36 = .ok (.iinc 3 1, 3) := by decide +kernel
theorem dX2_pass_39 : decode cX2_pass 39 = .ok (.goto (-12), 3) := by decide +kernel
theorem dX2_pass_42 : decode cX2_pass 42 = .ok (.iload_n 2, 1) := by decide +kernel
theorem dX2_pass_43 : decode cX2_pass 43 = .ok (.aload_n 0, 1) := by decide +kernel
theorem dX2_pass_44 : decode cX2_pass 44 = .ok (.invokevirtual 168, 3) := by decide +kernel
theorem dX2_pass_47 : decode cX2_pass 47 = .ok (.isub, 1) := by decide +kernel
theorem dX2_pass_48 : decode cX2_pass 48 = .ok (.ireturn, 1) := by decide +kernel
theorem dX2_time_0 : decode cX2_time 0 = .ok (.aload_n 0, 1) := by decide +kernel
theorem dX2_time_1 : decode cX2_time 1 = .ok (.getfield 38, 3) := by decide +kernel
theorem dX2_time_4 : decode cX2_time 4 = .ok (.ireturn, 1) := by decide +kernel
theorem dX2_lanterns_0 : decode cX2_lanterns 0 = .ok (.aload_n 0, 1) := by decide +kernel
theorem dX2_lanterns_1 : decode cX2_lanterns 1 = .ok (.getfield 28, 3) := by decide +kernel
theorem dX2_lanterns_4 : decode cX2_lanterns 4 = .ok (.ireturn, 1) := by decide +kernel
set_option maxRecDepth 20000 in
theorem ggX2_stateOf_X2_lanternNumbered : GoodIn wsX2_stateOf wsX2_lanternNumbered := goodIn_ca (goodIn_r _ [6, 7, 8, 9, 10, 11, 5, 12, 20, 21, 22, 23, 24, 25, 26, 27, 28, 29, 30, 31] (by decide +kernel) (by decide +kernel)) (goodIn_sub (fun _ h => List.mem_cons_of_mem _ (List.mem_append_right _ h)) (by decide +kernel))
set_option maxRecDepth 20000 in
theorem gX2_stateOf_X2_lanternNumbered : GoodIn wsX2_stateOf (wsV RX2 72 RX2 yX2_lanternNumbered wsX2_lanternNumbered) := goodIn_app (goodIn_of _ (by decide +kernel)) ggX2_stateOf_X2_lanternNumbered
theorem dX2_stateOf_0 : decode cX2_stateOf 0 = .ok (.aload_n 0, 1) := by decide +kernel
theorem dX2_stateOf_1 : decode cX2_stateOf 1 = .ok (.iload_n 1, 1) := by decide +kernel
theorem dX2_stateOf_2 : decode cX2_stateOf 2 = .ok (.invokevirtual 72, 3) := by decide +kernel
theorem dX2_stateOf_5 : decode cX2_stateOf 5 = .ok (.astore_n 2, 1) := by decide +kernel
theorem dX2_stateOf_6 : decode cX2_stateOf 6 = .ok (.aload_n 2, 1) := by decide +kernel
theorem dX2_stateOf_7 : decode cX2_stateOf 7 = .ok (.getfield 125, 3) := by decide +kernel
theorem dX2_stateOf_10 : decode cX2_stateOf 10 = .ok (.ireturn, 1) := by decide +kernel
set_option maxRecDepth 20000 in
theorem ggX2_left_X2_lanternNumbered : GoodIn wsX2_left wsX2_lanternNumbered := goodIn_ca (goodIn_r _ [6, 7, 8, 9, 10, 11, 5, 12, 20, 21, 22, 23, 24, 25, 26, 27, 28, 29, 30, 31] (by decide +kernel) (by decide +kernel)) (goodIn_sub (fun _ h => List.mem_cons_of_mem _ (List.mem_append_right _ h)) (by decide +kernel))
set_option maxRecDepth 20000 in
theorem gX2_left_X2_lanternNumbered : GoodIn wsX2_left (wsV RX2 72 RX2 yX2_lanternNumbered wsX2_lanternNumbered) := goodIn_app (goodIn_of _ (by decide +kernel)) ggX2_left_X2_lanternNumbered
theorem dX2_left_0 : decode cX2_left 0 = .ok (.aload_n 0, 1) := by decide +kernel
theorem dX2_left_1 : decode cX2_left 1 = .ok (.iload_n 1, 1) := by decide +kernel
theorem dX2_left_2 : decode cX2_left 2 = .ok (.invokevirtual 72, 3) := by decide +kernel
theorem dX2_left_5 : decode cX2_left 5 = .ok (.astore_n 2, 1) := by decide +kernel
theorem dX2_left_6 : decode cX2_left 6 = .ok (.aload_n 2, 1) := by decide +kernel
theorem dX2_left_7 : decode cX2_left 7 = .ok (.getfield 137, 3) := by decide +kernel
theorem dX2_left_10 : decode cX2_left 10 = .ok (.ireturn, 1) := by decide +kernel
set_option maxRecDepth 20000 in
theorem ggX2_placeOf_X2_lanternNumbered : GoodIn wsX2_placeOf wsX2_lanternNumbered := goodIn_ca (goodIn_r _ [5, 6, 7, 8, 9, 10, 4, 11, 21, 22, 23, 24, 25, 26, 27, 28, 29, 30, 31, 32] (by decide +kernel) (by decide +kernel)) (goodIn_sub (fun _ h => List.mem_cons_of_mem _ (List.mem_append_right _ h)) (by decide +kernel))
set_option maxRecDepth 20000 in
theorem gX2_placeOf_X2_lanternNumbered : GoodIn wsX2_placeOf (wsV RX2 72 RX2 yX2_lanternNumbered wsX2_lanternNumbered) := goodIn_app (goodIn_of _ (by decide +kernel)) ggX2_placeOf_X2_lanternNumbered
set_option maxRecDepth 20000 in
theorem ggX2_placeOf_X0_place : GoodIn wsX2_placeOf wsX0_place := goodIn_r _ [16, 17, 18, 19, 20, 33, 34, 35, 36, 37, 38, 39, 40, 41, 42, 43, 44, 45, 46] (by decide +kernel) (by decide +kernel)
set_option maxRecDepth 20000 in
theorem gX2_placeOf_X0_place : GoodIn wsX2_placeOf (wsV RX2 128 RX0 yX0_place wsX0_place) := goodIn_app (goodIn_of _ (by decide +kernel)) ggX2_placeOf_X0_place
theorem dX2_placeOf_0 : decode cX2_placeOf 0 = .ok (.aload_n 0, 1) := by decide +kernel
theorem dX2_placeOf_1 : decode cX2_placeOf 1 = .ok (.iload_n 1, 1) := by decide +kernel
theorem dX2_placeOf_2 : decode cX2_placeOf 2 = .ok (.invokevirtual 72, 3) := by decide +kernel
theorem dX2_placeOf_5 : decode cX2_placeOf 5 = .ok (.astore_n 2, 1) := by decide +kernel
theorem dX2_placeOf_6 : decode cX2_placeOf 6 = .ok (.aload_n 2, 1) := by decide +kernel
theorem dX2_placeOf_7 : decode cX2_placeOf 7 = .ok (.invokevirtual 128, 3) := by decide +kernel
theorem dX2_placeOf_10 : decode cX2_placeOf 10 = .ok (.ireturn, 1) := by decide +kernel
set_option maxRecDepth 20000 in
theorem ggX2_nearest_X2_lanternNumbered : GoodIn wsX2_nearest wsX2_lanternNumbered := goodIn_ca (goodIn_r _ [8, 9, 10, 11, 12, 13, 7, 14, 68, 69, 70, 71, 72, 73, 74, 75, 76, 77, 78, 79] (by decide +kernel) (by decide +kernel)) (goodIn_sub (fun _ h => List.mem_cons_of_mem _ (List.mem_append_right _ h)) (by decide +kernel))
set_option maxRecDepth 20000 in
theorem gX2_nearest_X2_lanternNumbered : GoodIn wsX2_nearest (wsV RX2 72 RX2 yX2_lanternNumbered wsX2_lanternNumbered) := goodIn_app (goodIn_of _ (by decide +kernel)) ggX2_nearest_X2_lanternNumbered
set_option maxRecDepth 20000 in
theorem ggX2_nearest_X1_nearestLit : GoodIn wsX2_nearest wsX1_nearestLit := goodIn_r _ [19, 20, 21, 22, 23, 24, 25, 26, 27, 28, 29, 30, 31, 32, 33, 34, 35, 7, 36, 37, 38, 39, 40, 41, 42, 43, 61, 62, 63, 64, 65, 66, 67, 54, 55, 56, 57, 58, 59, 60] (by decide +kernel) (by decide +kernel)
set_option maxRecDepth 20000 in
theorem gX2_nearest_X1_nearestLit : GoodIn wsX2_nearest (wsV RX2 174 RX1 yX1_nearestLit wsX1_nearestLit) := goodIn_app (goodIn_of _ (by decide +kernel)) ggX2_nearest_X1_nearestLit
set_option maxRecDepth 20000 in
theorem ggX2_nearest_X2_nearestAhead : GoodIn wsX2_nearest wsX2_nearestAhead := goodIn_r _ [47, 48, 41, 42, 39, 43, 15, 16, 17, 18, 19, 20, 21, 22, 23, 24, 25, 26, 27, 28, 29, 30, 31, 32, 33, 34, 35, 7, 36, 37, 38, 40, 68, 69, 70, 71, 72, 73, 74, 75, 76, 77, 78, 79, 61, 62, 63, 64, 65, 66, 67, 54, 55, 56, 57, 58, 59, 60] (by decide +kernel) (by decide +kernel)
set_option maxRecDepth 20000 in
theorem gX2_nearest_X2_nearestAhead : GoodIn wsX2_nearest (wsV RX2 178 RX2 yX2_nearestAhead wsX2_nearestAhead) := goodIn_app (goodIn_of _ (by decide +kernel)) ggX2_nearest_X2_nearestAhead
set_option maxRecDepth 20000 in
theorem ggX2_nearest_X2_nearestBehind : GoodIn wsX2_nearest wsX2_nearestBehind := goodIn_r _ [52, 37, 38, 39, 40, 48, 15, 16, 17, 18, 19, 20, 21, 22, 23, 24, 25, 26, 27, 28, 29, 30, 31, 32, 33, 34, 35, 7, 36, 41, 42, 43, 68, 69, 70, 71, 72, 73, 74, 75, 76, 77, 78, 79, 61, 62, 63, 64, 65, 66, 67, 54, 55, 56, 57, 58, 59, 60] (by decide +kernel) (by decide +kernel)
set_option maxRecDepth 20000 in
theorem gX2_nearest_X2_nearestBehind : GoodIn wsX2_nearest (wsV RX2 182 RX2 yX2_nearestBehind wsX2_nearestBehind) := goodIn_app (goodIn_of _ (by decide +kernel)) ggX2_nearest_X2_nearestBehind
set_option maxRecDepth 20000 in
theorem ggX2_nearest_X2_nearer : GoodIn wsX2_nearest wsX2_nearer := goodIn_r _ [36, 37, 38, 39, 40, 41, 42, 43] (by decide +kernel) (by decide +kernel)
set_option maxRecDepth 20000 in
theorem gX2_nearest_X2_nearer : GoodIn wsX2_nearest (va_wsS RX2 185 yX2_nearer wsX2_nearer) := goodIn_app (goodIn_of _ (by decide +kernel)) ggX2_nearest_X2_nearer
theorem dX2_nearest_0 : decode cX2_nearest 0 = .ok (.aload_n 0, 1) := by decide +kernel
theorem dX2_nearest_1 : decode cX2_nearest 1 = .ok (.iload_n 1, 1) := by decide +kernel
theorem dX2_nearest_2 : decode cX2_nearest 2 = .ok (.invokevirtual 72, 3) := by decide +kernel
theorem dX2_nearest_5 : decode cX2_nearest 5 = .ok (.astore_n 2, 1) := by decide +kernel
theorem dX2_nearest_6 : decode cX2_nearest 6 = .ok (.aload_n 2, 1) := by decide +kernel
theorem dX2_nearest_7 : decode cX2_nearest 7 = .ok (.getfield 90, 3) := by decide +kernel
theorem dX2_nearest_10 : decode cX2_nearest 10 = .ok (.astore_n 3, 1) := by decide +kernel
theorem dX2_nearest_11 : decode cX2_nearest 11 = .ok (.aload_n 3, 1) := by decide +kernel
theorem dX2_nearest_12 : decode cX2_nearest 12 = .ok (.ifnull 11, 3) := by decide +kernel
theorem dX2_nearest_15 : decode cX2_nearest 15 = .ok (.aload_n 3, 1) := by decide +kernel
theorem dX2_nearest_16 : decode cX2_nearest 16 = .ok (.getfield 94, 3) := by decide +kernel
theorem dX2_nearest_19 : decode cX2_nearest 19 = .ok (.iconst 1, 1) := by decide +kernel
theorem dX2_nearest_20 : decode cX2_nearest 20 = .ok (.if_icmp .eq 5, 3) := by decide +kernel
theorem dX2_nearest_23 : decode cX2_nearest 23 = .ok (.iconst (-1), 1) := by decide +kernel
theorem dX2_nearest_24 : decode cX2_nearest 24 = .ok (.ireturn, 1) := by decide +kernel
theorem dX2_nearest_25 : decode cX2_nearest 25 = .ok (.aload_n 3, 1) := by decide +kernel
theorem dX2_nearest_26 : decode cX2_nearest 26 = .ok (.aload_n 2, 1) := by decide +kernel
theorem dX2_nearest_27 : decode cX2_nearest 27 = .ok (.invokevirtual 174, 3) := by decide +kernel
theorem dX2_nearest_30 : decode cX2_nearest 30 = .ok (.istore 4, 2) := by decide +kernel
theorem dX2_nearest_32 : decode cX2_nearest 32 = .ok (.aload_n 0, 1) := by decide +kernel
theorem dX2_nearest_33 : decode cX2_nearest 33 = .ok (.aload_n 2, 1) := by decide +kernel
theorem dX2_nearest_34 : decode cX2_nearest 34 = .ok (.aload_n 3, 1) := by decide +kernel
theorem dX2_nearest_35 : decode cX2_nearest 35 = .ok (.getfield 156, 3) := by decide +kernel
theorem dX2_nearest_38 : decode cX2_nearest 38 = .ok (.invokevirtual 178, 3) := by decide +kernel
theorem dX2_nearest_41 : decode cX2_nearest 41 = .ok (.istore 5, 2) := by decide +kernel
theorem dX2_nearest_43 : decode cX2_nearest 43 = .ok (.aload_n 0, 1) := by decide +kernel
theorem dX2_nearest_44 : decode cX2_nearest 44 = .ok (.aload_n 2, 1) := by decide +kernel
theorem dX2_nearest_45 : decode cX2_nearest 45 = .ok (.aload_n 3, 1) := by decide +kernel
theorem dX2_nearest_46 : decode cX2_nearest 46 = .ok (.getfield 156, 3) := by decide +kernel
theorem dX2_nearest_49 : decode cX2_nearest 49 = .ok (.invokevirtual 182, 3) := by decide +kernel
theorem dX2_nearest_52 : decode cX2_nearest 52 = .ok (.istore 6, 2) := by decide +kernel
theorem dX2_nearest_54 : decode cX2_nearest 54 = .ok (.iload 4, 2) := by decide +kernel
theorem dX2_nearest_56 : decode cX2_nearest 56 = .ok (.iload 5, 2) := by decide +kernel
theorem dX2_nearest_58 : decode cX2_nearest 58 = .ok (.iload 6, 2) := by decide +kernel
theorem dX2_nearest_60 : decode cX2_nearest 60 = .ok (.invokestatic 185, 3) := by decide +kernel
theorem dX2_nearest_63 : decode cX2_nearest 63 = .ok (.invokestatic 185, 3) := by decide +kernel
theorem dX2_nearest_66 : decode cX2_nearest 66 = .ok (.ireturn, 1) := by decide +kernel
set_option maxRecDepth 20000 in
theorem ggX2_nearestOfAll_X2_lanternNumbered : GoodIn wsX2_nearestOfAll wsX2_lanternNumbered := goodIn_ca (goodIn_r _ [7, 8, 9, 1, 10, 11, 6, 12, 37, 38, 39, 40, 41, 42, 43, 44, 45, 46, 47, 48] (by decide +kernel) (by decide +kernel)) (goodIn_sub (fun _ h => List.mem_cons_of_mem _ (List.mem_append_right _ h)) (by decide +kernel))
set_option maxRecDepth 20000 in
theorem gX2_nearestOfAll_X2_lanternNumbered : GoodIn wsX2_nearestOfAll (wsV RX2 72 RX2 yX2_lanternNumbered wsX2_lanternNumbered) := goodIn_app (goodIn_of _ (by decide +kernel)) ggX2_nearestOfAll_X2_lanternNumbered
set_option maxRecDepth 20000 in
theorem ggX2_nearestOfAll_X0_place : GoodIn wsX2_nearestOfAll wsX0_place := goodIn_r _ [17, 18, 19, 20, 21, 49, 50, 51, 52, 53, 54, 55, 56, 57, 58, 59, 60, 61, 62] (by decide +kernel) (by decide +kernel)
set_option maxRecDepth 20000 in
theorem gX2_nearestOfAll_X0_place : GoodIn wsX2_nearestOfAll (wsV RX2 128 RX0 yX0_place wsX0_place) := goodIn_app (goodIn_of _ (by decide +kernel)) ggX2_nearestOfAll_X0_place
set_option maxRecDepth 20000 in
theorem ggX2_nearestOfAll_X0_distanceTo : GoodIn wsX2_nearestOfAll wsX0_distanceTo := goodIn_r _ [25, 26, 14, 15, 16, 17, 18, 19, 20, 21, 49, 50, 51, 52, 53, 54, 55, 56, 57, 58, 59, 60, 61, 62] (by decide +kernel) (by decide +kernel)
set_option maxRecDepth 20000 in
theorem gX2_nearestOfAll_X0_distanceTo : GoodIn wsX2_nearestOfAll (wsV RX2 189 RX0 yX0_distanceTo wsX0_distanceTo) := goodIn_app (goodIn_of _ (by decide +kernel)) ggX2_nearestOfAll_X0_distanceTo
set_option maxRecDepth 20000 in
theorem ggX2_nearestOfAll_X2_nearer : GoodIn wsX2_nearestOfAll wsX2_nearer := goodIn_r _ [29, 30, 31, 32, 33, 34, 35, 36] (by decide +kernel) (by decide +kernel)
set_option maxRecDepth 20000 in
theorem gX2_nearestOfAll_X2_nearer : GoodIn wsX2_nearestOfAll (va_wsS RX2 185 yX2_nearer wsX2_nearer) := goodIn_app (goodIn_of _ (by decide +kernel)) ggX2_nearestOfAll_X2_nearer
theorem dX2_nearestOfAll_0 : decode cX2_nearestOfAll 0 = .ok (.aload_n 0, 1) := by decide +kernel
theorem dX2_nearestOfAll_1 : decode cX2_nearestOfAll 1 = .ok (.iload_n 1, 1) := by decide +kernel
theorem dX2_nearestOfAll_2 : decode cX2_nearestOfAll 2 = .ok (.invokevirtual 72, 3) := by decide +kernel
theorem dX2_nearestOfAll_5 : decode cX2_nearestOfAll 5 = .ok (.astore_n 2, 1) := by decide +kernel
theorem dX2_nearestOfAll_6 : decode cX2_nearestOfAll 6 = .ok (.iconst (-1), 1) := by decide +kernel
theorem dX2_nearestOfAll_7 : decode cX2_nearestOfAll 7 = .ok (.istore_n 3, 1) := by decide +kernel
theorem dX2_nearestOfAll_8 : decode cX2_nearestOfAll 8 = .ok (.aload_n 2, 1) := by decide +kernel
theorem dX2_nearestOfAll_9 : decode cX2_nearestOfAll 9 = .ok (.invokevirtual 128, 3) := by decide +kernel
theorem dX2_nearestOfAll_12 : decode cX2_nearestOfAll 12 = .ok (.iconst (-1), 1) := by decide +kernel
theorem dX2_nearestOfAll_13 : decode cX2_nearestOfAll 13 = .ok (.if_icmp .eq 68, 3) := by decide +kernel
theorem dX2_nearestOfAll_16 : decode cX2_nearestOfAll 16 = .ok (.aload_n 0, 1) := by decide +kernel
theorem dX2_nearestOfAll_17 : decode cX2_nearestOfAll 17 = .ok (.getfield 11, 3) := by decide +kernel
theorem dX2_nearestOfAll_20 : decode cX2_nearestOfAll 20 = .ok (.astore 4, 2) := by decide +kernel
theorem dX2_nearestOfAll_22 : decode cX2_nearestOfAll 22 = .ok (.aload 4, 2) := by decide +kernel
theorem dX2_nearestOfAll_24 : decode cX2_nearestOfAll 24 = .ok (.arraylength, 1) := by decide +kernel
theorem dX2_nearestOfAll_25 : decode cX2_nearestOfAll 25 = .ok (.istore 5, 2) := by decide +kernel
theorem dX2_nearestOfAll_27 : decode cX2_nearestOfAll 27 = .ok (.iconst 0, 1) := by decide +kernel
theorem dX2_nearestOfAll_28 : decode cX2_nearestOfAll 28 = .ok (.istore 6, 2) := by decide +kernel
theorem dX2_nearestOfAll_30 : decode cX2_nearestOfAll 30 = .ok (.iload 6, 2) := by decide +kernel
theorem dX2_nearestOfAll_32 : decode cX2_nearestOfAll 32 = .ok (.iload 5, 2) := by decide +kernel
theorem dX2_nearestOfAll_34 : decode cX2_nearestOfAll 34 = .ok (.if_icmp .ge 47, 3) := by decide +kernel
theorem dX2_nearestOfAll_37 : decode cX2_nearestOfAll 37 = .ok (.aload 4, 2) := by decide +kernel
theorem dX2_nearestOfAll_39 : decode cX2_nearestOfAll 39 = .ok (.iload 6, 2) := by decide +kernel
theorem dX2_nearestOfAll_41 : decode cX2_nearestOfAll 41 = .ok (.aaload, 1) := by decide +kernel
theorem dX2_nearestOfAll_42 : decode cX2_nearestOfAll 42 = .ok (.astore 7, 2) := by decide +kernel
theorem dX2_nearestOfAll_44 : decode cX2_nearestOfAll 44 = .ok (.aload 7, 2) := by decide +kernel
theorem dX2_nearestOfAll_46 : decode cX2_nearestOfAll 46 = .ok (.ifnull 29, 3) := by decide +kernel
theorem dX2_nearestOfAll_49 : decode cX2_nearestOfAll 49 = .ok (.aload 7, 2) := by decide +kernel
theorem dX2_nearestOfAll_51 : decode cX2_nearestOfAll 51 = .ok (.aload_n 2, 1) := by decide +kernel
theorem dX2_nearestOfAll_52 : decode cX2_nearestOfAll 52 = .ok (.if_acmp .eq 23, 3) := by decide +kernel
theorem dX2_nearestOfAll_55 : decode cX2_nearestOfAll 55 = .ok (.aload 7, 2) := by decide +kernel
theorem dX2_nearestOfAll_57 : decode cX2_nearestOfAll 57 = .ok (.getfield 125, 3) := by decide +kernel
theorem dX2_nearestOfAll_60 : decode cX2_nearestOfAll 60 = .ok (.iconst 1, 1) := by decide +kernel
theorem dX2_nearestOfAll_61 : decode cX2_nearestOfAll 61 = .ok (.if_icmp .ne 14, 3) := by decide +kernel
theorem dX2_nearestOfAll_64 : decode cX2_nearestOfAll 64 = .ok (.iload_n 3, 1) := by decide +kernel
theorem dX2_nearestOfAll_65 : decode cX2_nearestOfAll 65 = .ok (.aload_n 2, 1) := by decide +kernel
theorem dX2_nearestOfAll_66 : decode cX2_nearestOfAll 66 = .ok (.aload 7, 2) := by decide +kernel
theorem dX2_nearestOfAll_68 : decode cX2_nearestOfAll 68 = .ok (.invokevirtual 189, 3) := by decide +kernel
theorem dX2_nearestOfAll_71 : decode cX2_nearestOfAll 71 = .ok (.invokestatic 185, 3) := by decide +kernel
theorem dX2_nearestOfAll_74 : decode cX2_nearestOfAll 74 = .ok (.istore_n 3, 1) := by decide +kernel
theorem dX2_nearestOfAll_75 : decode cX2_nearestOfAll 75 = .ok (.iinc 6 1, 3) := by decide +kernel
theorem dX2_nearestOfAll_78 : decode cX2_nearestOfAll 78 = .ok (.goto (-48), 3) := by decide +kernel
theorem dX2_nearestOfAll_81 : decode cX2_nearestOfAll 81 = .ok (.iload_n 3, 1) := by decide +kernel
theorem dX2_nearestOfAll_82 : decode cX2_nearestOfAll 82 = .ok (.ireturn, 1) := by decide +kernel
theorem dX2_blownOut_0 : decode cX2_blownOut 0 = .ok (.aload_n 0, 1) := by decide +kernel
theorem dX2_blownOut_1 : decode cX2_blownOut 1 = .ok (.getfield 47, 3) := by decide +kernel
theorem dX2_blownOut_4 : decode cX2_blownOut 4 = .ok (.ireturn, 1) := by decide +kernel
theorem dX2_ordered_0 : decode cX2_ordered 0 = .ok (.aload_n 0, 1) := by decide +kernel
theorem dX2_ordered_1 : decode cX2_ordered 1 = .ok (.getfield 50, 3) := by decide +kernel
theorem dX2_ordered_4 : decode cX2_ordered 4 = .ok (.ireturn, 1) := by decide +kernel
set_option maxRecDepth 20000 in
theorem ggX2_sortOf_X2_raftNumbered : GoodIn wsX2_sortOf wsX2_raftNumbered := goodIn_ca (goodIn_r _ [6, 7, 8, 9, 10, 11, 5, 12, 20, 21, 22, 23, 24, 25, 26, 27, 28, 29, 30, 31] (by decide +kernel) (by decide +kernel)) (goodIn_sub (fun _ h => List.mem_cons_of_mem _ (List.mem_append_right _ h)) (by decide +kernel))
set_option maxRecDepth 20000 in
theorem gX2_sortOf_X2_raftNumbered : GoodIn wsX2_sortOf (wsV RX2 76 RX2 yX2_raftNumbered wsX2_raftNumbered) := goodIn_app (goodIn_of _ (by decide +kernel)) ggX2_sortOf_X2_raftNumbered
theorem dX2_sortOf_0 : decode cX2_sortOf 0 = .ok (.aload_n 0, 1) := by decide +kernel
theorem dX2_sortOf_1 : decode cX2_sortOf 1 = .ok (.iload_n 1, 1) := by decide +kernel
theorem dX2_sortOf_2 : decode cX2_sortOf 2 = .ok (.invokevirtual 76, 3) := by decide +kernel
theorem dX2_sortOf_5 : decode cX2_sortOf 5 = .ok (.astore_n 2, 1) := by decide +kernel
theorem dX2_sortOf_6 : decode cX2_sortOf 6 = .ok (.aload_n 2, 1) := by decide +kernel
theorem dX2_sortOf_7 : decode cX2_sortOf 7 = .ok (.getfield 94, 3) := by decide +kernel
theorem dX2_sortOf_10 : decode cX2_sortOf 10 = .ok (.ireturn, 1) := by decide +kernel
set_option maxRecDepth 20000 in
theorem ggX2_front_X2_raftNumbered : GoodIn wsX2_front wsX2_raftNumbered := goodIn_ca (goodIn_r _ [7, 8, 9, 10, 11, 12, 6, 13, 21, 22, 23, 24, 25, 26, 27, 28, 29, 30, 31, 32] (by decide +kernel) (by decide +kernel)) (goodIn_sub (fun _ h => List.mem_cons_of_mem _ (List.mem_append_right _ h)) (by decide +kernel))
set_option maxRecDepth 20000 in
theorem gX2_front_X2_raftNumbered : GoodIn wsX2_front (wsV RX2 76 RX2 yX2_raftNumbered wsX2_raftNumbered) := goodIn_app (goodIn_of _ (by decide +kernel)) ggX2_front_X2_raftNumbered
theorem dX2_front_0 : decode cX2_front 0 = .ok (.aload_n 0, 1) := by decide +kernel
theorem dX2_front_1 : decode cX2_front 1 = .ok (.iload_n 1, 1) := by decide +kernel
theorem dX2_front_2 : decode cX2_front 2 = .ok (.invokevirtual 76, 3) := by decide +kernel
theorem dX2_front_5 : decode cX2_front 5 = .ok (.astore_n 2, 1) := by decide +kernel
theorem dX2_front_6 : decode cX2_front 6 = .ok (.aload_n 2, 1) := by decide +kernel
theorem dX2_front_7 : decode cX2_front 7 = .ok (.getfield 94, 3) := by decide +kernel
theorem dX2_front_10 : decode cX2_front 10 = .ok (.iconst 1, 1) := by decide +kernel
theorem dX2_front_11 : decode cX2_front 11 = .ok (.if_icmp .ne 10, 3) := by decide +kernel
theorem dX2_front_14 : decode cX2_front 14 = .ok (.aload_n 2, 1) := by decide +kernel
theorem dX2_front_15 : decode cX2_front 15 = .ok (.getfield 153, 3) := by decide +kernel
theorem dX2_front_18 : decode cX2_front 18 = .ok (.goto 4, 3) := by decide +kernel
theorem dX2_front_21 : decode cX2_front 21 = .ok (.iconst (-1), 1) := by decide +kernel
theorem dX2_front_22 : decode cX2_front 22 = .ok (.ireturn, 1) := by decide +kernel
set_option maxRecDepth 20000 in
theorem ggX2_load_X2_raftNumbered : GoodIn wsX2_load wsX2_raftNumbered := goodIn_ca (goodIn_r _ [5, 6, 7, 8, 9, 10, 4, 11, 26, 27, 28, 29, 30, 31, 32, 33, 34, 35, 36, 37] (by decide +kernel) (by decide +kernel)) (goodIn_sub (fun _ h => List.mem_cons_of_mem _ (List.mem_append_right _ h)) (by decide +kernel))
set_option maxRecDepth 20000 in
theorem gX2_load_X2_raftNumbered : GoodIn wsX2_load (wsV RX2 76 RX2 yX2_raftNumbered wsX2_raftNumbered) := goodIn_app (goodIn_of _ (by decide +kernel)) ggX2_load_X2_raftNumbered
set_option maxRecDepth 20000 in
theorem ggX2_load_X1_weight : GoodIn wsX2_load wsX1_weight := goodIn_r _ [16, 17, 18, 19, 20, 21, 22, 23, 24, 25, 38, 39, 40, 41, 42, 43, 44, 45, 46, 47, 48, 49, 50, 51] (by decide +kernel) (by decide +kernel)
set_option maxRecDepth 20000 in
theorem gX2_load_X1_weight : GoodIn wsX2_load (wsV RX2 99 RX1 yX1_weight wsX1_weight) := goodIn_app (goodIn_of _ (by decide +kernel)) ggX2_load_X1_weight
theorem dX2_load_0 : decode cX2_load 0 = .ok (.aload_n 0, 1) := by decide +kernel
theorem dX2_load_1 : decode cX2_load 1 = .ok (.iload_n 1, 1) := by decide +kernel
theorem dX2_load_2 : decode cX2_load 2 = .ok (.invokevirtual 76, 3) := by decide +kernel
theorem dX2_load_5 : decode cX2_load 5 = .ok (.astore_n 2, 1) := by decide +kernel
theorem dX2_load_6 : decode cX2_load 6 = .ok (.aload_n 2, 1) := by decide +kernel
theorem dX2_load_7 : decode cX2_load 7 = .ok (.invokevirtual 99, 3) := by decide +kernel
theorem dX2_load_10 : decode cX2_load 10 = .ok (.ireturn, 1) := by decide +kernel
set_option maxRecDepth 20000 in
theorem ggX2_likeness_X2_raftNumbered : GoodIn wsX2_likeness wsX2_raftNumbered := goodIn_ca (goodIn_r _ [7, 8, 9, 10, 11, 12, 6, 13, 21, 22, 23, 24, 25, 26, 27, 28, 29, 30, 31, 32] (by decide +kernel) (by decide +kernel)) (goodIn_sub (fun _ h => List.mem_cons_of_mem _ (List.mem_append_right _ h)) (by decide +kernel))
set_option maxRecDepth 20000 in
theorem gX2_likeness_X2_raftNumbered : GoodIn wsX2_likeness (wsV RX2 76 RX2 yX2_raftNumbered wsX2_raftNumbered) := goodIn_app (goodIn_of _ (by decide +kernel)) ggX2_likeness_X2_raftNumbered
set_option maxRecDepth 20000 in
theorem ggX2_likeness_X2_within : GoodIn wsX2_likeness wsX2_within := goodIn_r _ [13] (by decide +kernel) (by decide +kernel)
set_option maxRecDepth 20000 in
theorem gX2_likeness_X2_within : GoodIn wsX2_likeness (va_wsS RX2 53 yX2_within wsX2_within) := goodIn_app (goodIn_of _ (by decide +kernel)) ggX2_likeness_X2_within
set_option maxRecDepth 20000 in
theorem ggX2_likeness_X1_alike : GoodIn wsX2_likeness wsX1_alike := goodIn_r _ [18, 19, 20, 33, 34, 35, 36, 37, 38, 39, 40, 41, 42, 43, 44, 45, 46] (by decide +kernel) (by decide +kernel)
set_option maxRecDepth 20000 in
theorem gX2_likeness_X1_alike : GoodIn wsX2_likeness (wsV RX2 194 RX1 yX1_alike wsX1_alike) := goodIn_app (goodIn_of _ (by decide +kernel)) ggX2_likeness_X1_alike
theorem dX2_likeness_0 : decode cX2_likeness 0 = .ok (.aload_n 0, 1) := by decide +kernel
theorem dX2_likeness_1 : decode cX2_likeness 1 = .ok (.iload_n 1, 1) := by decide +kernel
theorem dX2_likeness_2 : decode cX2_likeness 2 = .ok (.invokevirtual 76, 3) := by decide +kernel
theorem dX2_likeness_5 : decode cX2_likeness 5 = .ok (.astore_n 3, 1) := by decide +kernel
theorem dX2_likeness_6 : decode cX2_likeness 6 = .ok (.iload_n 2, 1) := by decide +kernel
theorem dX2_likeness_7 : decode cX2_likeness 7 = .ok (.iconst 0, 1) := by decide +kernel
theorem dX2_likeness_8 : decode cX2_likeness 8 = .ok (.sipush 1023, 3) := by decide +kernel
theorem dX2_likeness_11 : decode cX2_likeness 11 = .ok (.invokestatic 53, 3) := by decide +kernel
theorem dX2_likeness_14 : decode cX2_likeness 14 = .ok (.ifCond .ne 13, 3) := by decide +kernel
theorem dX2_likeness_17 : decode cX2_likeness 17 = .ok (.new 57, 3) := by decide +kernel
theorem dX2_likeness_20 : decode cX2_likeness 20 = .ok (.dup, 1) := by decide +kernel
theorem dX2_likeness_21 : decode cX2_likeness 21 = .ok (.ldc 192, 2) := by decide +kernel
theorem dX2_likeness_23 : decode cX2_likeness 23 = .ok (.invokespecial 61, 3) := by decide +kernel
theorem dX2_likeness_26 : decode cX2_likeness 26 = .ok (.athrow, 1) := by decide +kernel
theorem dX2_likeness_27 : decode cX2_likeness 27 = .ok (.aload_n 3, 1) := by decide +kernel
theorem dX2_likeness_28 : decode cX2_likeness 28 = .ok (.iload_n 2, 1) := by decide +kernel
theorem dX2_likeness_29 : decode cX2_likeness 29 = .ok (.invokevirtual 194, 3) := by decide +kernel
theorem dX2_likeness_32 : decode cX2_likeness 32 = .ok (.ireturn, 1) := by decide +kernel
set_option maxRecDepth 20000 in
theorem ggX2_prize_X2_within : GoodIn wsX2_prize wsX2_within := goodIn_r _ [9] (by decide +kernel) (by decide +kernel)
set_option maxRecDepth 20000 in
theorem gX2_prize_X2_within : GoodIn wsX2_prize (va_wsS RX2 53 yX2_within wsX2_within) := goodIn_app (goodIn_of _ (by decide +kernel)) ggX2_prize_X2_within
set_option maxRecDepth 20000 in
theorem ggX2_prize_X1_alike : GoodIn wsX2_prize wsX1_alike := goodIn_r _ [14, 15, 16, 29, 30, 31, 32, 33, 34, 35, 36, 37, 38, 39, 40, 41, 42] (by decide +kernel) (by decide +kernel)
set_option maxRecDepth 20000 in
theorem gX2_prize_X1_alike : GoodIn wsX2_prize (wsV RX2 194 RX1 yX1_alike wsX1_alike) := goodIn_app (goodIn_of _ (by decide +kernel)) ggX2_prize_X1_alike
theorem dX2_prize_0 : decode cX2_prize 0 = .ok (.iload_n 1, 1) := by decide +kernel
theorem dX2_prize_1 : decode cX2_prize 1 = .ok (.iconst 0, 1) := by decide +kernel
theorem dX2_prize_2 : decode cX2_prize 2 = .ok (.sipush 1023, 3) := by decide +kernel
theorem dX2_prize_5 : decode cX2_prize 5 = .ok (.invokestatic 53, 3) := by decide +kernel
theorem dX2_prize_8 : decode cX2_prize 8 = .ok (.ifCond .ne 13, 3) := by decide +kernel
theorem dX2_prize_11 : decode cX2_prize 11 = .ok (.new 57, 3) := by decide +kernel
theorem dX2_prize_14 : decode cX2_prize 14 = .ok (.dup, 1) := by decide +kernel
theorem dX2_prize_15 : decode cX2_prize 15 = .ok (.ldc 192, 2) := by decide +kernel
theorem dX2_prize_17 : decode cX2_prize 17 = .ok (.invokespecial 61, 3) := by decide +kernel
theorem dX2_prize_20 : decode cX2_prize 20 = .ok (.athrow, 1) := by decide +kernel
theorem dX2_prize_21 : decode cX2_prize 21 = .ok (.iconst (-1), 1) := by decide +kernel
theorem dX2_prize_22 : decode cX2_prize 22 = .ok (.istore_n 2, 1) := by decide +kernel
theorem dX2_prize_23 : decode cX2_prize 23 = .ok (.iconst (-1), 1) := by decide +kernel
theorem dX2_prize_24 : decode cX2_prize 24 = .ok (.istore_n 3, 1) := by decide +kernel
theorem dX2_prize_25 : decode cX2_prize 25 = .ok (.aload_n 0, 1) := by decide +kernel
theorem dX2_prize_26 : decode cX2_prize 26 = .ok (.getfield 21, 3) := by decide +kernel
theorem dX2_prize_29 : decode cX2_prize 29 = .ok (.astore 4, 2) := by decide +kernel
theorem dX2_prize_31 : decode cX2_prize 31 = .ok (.aload 4, 2) := by decide +kernel
theorem dX2_prize_33 : decode cX2_prize 33 = .ok (.arraylength, 1) := by decide +kernel
theorem dX2_prize_34 : decode cX2_prize 34 = .ok (.istore 5, 2) := by decide +kernel
theorem dX2_prize_36 : decode cX2_prize 36 = .ok (.iconst 0, 1) := by decide +kernel
theorem dX2_prize_37 : decode cX2_prize 37 = .ok (.istore 6, 2) := by decide +kernel
theorem dX2_prize_39 : decode cX2_prize 39 = .ok (.iload 6, 2) := by decide +kernel
theorem dX2_prize_41 : decode cX2_prize 41 = .ok (.iload 5, 2) := by decide +kernel
theorem dX2_prize_43 : decode cX2_prize 43 = .ok (.if_icmp .ge 53, 3) := by decide +kernel
theorem dX2_prize_46 : decode cX2_prize 46 = .ok (.aload 4, 2) := by decide +kernel
theorem dX2_prize_48 : decode cX2_prize 48 = .ok (.iload 6, 2) := by decide +kernel
theorem dX2_prize_50 : decode cX2_prize 50 = .ok (.aaload, 1) := by decide +kernel
theorem dX2_prize_51 : decode cX2_prize 51 = .ok (.astore 7, 2) := by decide +kernel
theorem dX2_prize_53 : decode cX2_prize 53 = .ok (.aload 7, 2) := by decide +kernel
theorem dX2_prize_55 : decode cX2_prize 55 = .ok (.ifnull 35, 3) := by decide +kernel
theorem dX2_prize_58 : decode cX2_prize 58 = .ok (.aload 7, 2) := by decide +kernel
theorem dX2_prize_60 : decode cX2_prize 60 = .ok (.getfield 94, 3) := by decide +kernel
theorem dX2_prize_63 : decode cX2_prize 63 = .ok (.iconst 1, 1) := by decide +kernel
theorem dX2_prize_64 : decode cX2_prize 64 = .ok (.if_icmp .ne 26, 3) := by decide +kernel
theorem dX2_prize_67 : decode cX2_prize 67 = .ok (.aload 7, 2) := by decide +kernel
theorem dX2_prize_69 : decode cX2_prize 69 = .ok (.iload_n 1, 1) := by decide +kernel
theorem dX2_prize_70 : decode cX2_prize 70 = .ok (.invokevirtual 194, 3) := by decide +kernel
theorem dX2_prize_73 : decode cX2_prize 73 = .ok (.iload_n 3, 1) := by decide +kernel
theorem dX2_prize_74 : decode cX2_prize 74 = .ok (.if_icmp .le 16, 3) := by decide +kernel
theorem dX2_prize_77 : decode cX2_prize 77 = .ok (.aload 7, 2) := by decide +kernel
theorem dX2_prize_79 : decode cX2_prize 79 = .ok (.getfield 122, 3) := by decide +kernel
theorem dX2_prize_82 : decode cX2_prize 82 = .ok (.istore_n 2, 1) := by decide +kernel
theorem dX2_prize_83 : decode cX2_prize 83 = .ok (.aload 7, 2) := by decide +kernel
theorem dX2_prize_85 : decode cX2_prize 85 = .ok (.iload_n 1, 1) := by decide +kernel
theorem dX2_prize_86 : decode cX2_prize 86 = .ok (.invokevirtual 194, 3) := by decide +kernel
theorem dX2_prize_89 : decode cX2_prize 89 = .ok (.istore_n 3, 1) := by decide +kernel
theorem dX2_prize_90 : decode cX2_prize 90 = .ok (.iinc 6 1, 3) := by decide +kernel
theorem dX2_prize_93 : decode cX2_prize 93 = .ok (.goto (-54), 3) := by decide +kernel
theorem dX2_prize_96 : decode cX2_prize 96 = .ok (.iload_n 2, 1) := by decide +kernel
theorem dX2_prize_97 : decode cX2_prize 97 = .ok (.ireturn, 1) := by decide +kernel
theorem dX2_within_0 : decode cX2_within 0 = .ok (.iload_n 0, 1) := by decide +kernel
theorem dX2_within_1 : decode cX2_within 1 = .ok (.iload_n 1, 1) := by decide +kernel
theorem dX2_within_2 : decode cX2_within 2 = .ok (.if_icmp .lt 12, 3) := by decide +kernel
theorem dX2_within_5 : decode cX2_within 5 = .ok (.iload_n 0, 1) := by decide +kernel
theorem dX2_within_6 : decode cX2_within 6 = .ok (.iload_n 2, 1) := by decide +kernel
theorem dX2_within_7 : decode cX2_within 7 = .ok (.if_icmp .gt 7, 3) := by decide +kernel
theorem dX2_within_10 : decode cX2_within 10 = .ok (.iconst 1, 1) := by decide +kernel
theorem dX2_within_11 : decode cX2_within 11 = .ok (.goto 4, 3) := by decide +kernel
theorem dX2_within_14 : decode cX2_within 14 = .ok (.iconst 0, 1) := by decide +kernel
theorem dX2_within_15 : decode cX2_within 15 = .ok (.ireturn, 1) := by decide +kernel
set_option maxRecDepth 20000 in
theorem ggX2_lanternNumbered_X2_within : GoodIn wsX2_lanternNumbered wsX2_within := goodIn_r _ [7] (by decide +kernel) (by decide +kernel)
set_option maxRecDepth 20000 in
theorem gX2_lanternNumbered_X2_within : GoodIn wsX2_lanternNumbered (va_wsS RX2 53 yX2_within wsX2_within) := goodIn_app (goodIn_of _ (by decide +kernel)) ggX2_lanternNumbered_X2_within
theorem dX2_lanternNumbered_0 : decode cX2_lanternNumbered 0 = .ok (.iload_n 1, 1) := by decide +kernel
theorem dX2_lanternNumbered_1 : decode cX2_lanternNumbered 1 = .ok (.iconst 0, 1) := by decide +kernel
theorem dX2_lanternNumbered_2 : decode cX2_lanternNumbered 2 = .ok (.aload_n 0, 1) := by decide +kernel
theorem dX2_lanternNumbered_3 : decode cX2_lanternNumbered 3 = .ok (.getfield 11, 3) := by decide +kernel
theorem dX2_lanternNumbered_6 : decode cX2_lanternNumbered 6 = .ok (.arraylength, 1) := by decide +kernel
theorem dX2_lanternNumbered_7 : decode cX2_lanternNumbered 7 = .ok (.iconst 1, 1) := by decide +kernel
theorem dX2_lanternNumbered_8 : decode cX2_lanternNumbered 8 = .ok (.isub, 1) := by decide +kernel
theorem dX2_lanternNumbered_9 : decode cX2_lanternNumbered 9 = .ok (.invokestatic 53, 3) := by decide +kernel
theorem dX2_lanternNumbered_12 : decode cX2_lanternNumbered 12 = .ok (.ifCond .eq 12, 3) := by decide +kernel
theorem dX2_lanternNumbered_15 : decode cX2_lanternNumbered 15 = .ok (.aload_n 0, 1) := by decide +kernel
theorem dX2_lanternNumbered_16 : decode cX2_lanternNumbered 16 = .ok (.getfield 11, 3) := by decide +kernel
theorem dX2_lanternNumbered_19 : decode cX2_lanternNumbered 19 = .ok (.iload_n 1, 1) := by decide +kernel
theorem dX2_lanternNumbered_20 : decode cX2_lanternNumbered 20 = .ok (.aaload, 1) := by decide +kernel
theorem dX2_lanternNumbered_21 : decode cX2_lanternNumbered 21 = .ok (.goto 4, 3) := by decide +kernel
theorem dX2_lanternNumbered_24 : decode cX2_lanternNumbered 24 = .ok (.aconst_null, 1) := by decide +kernel
theorem dX2_lanternNumbered_25 : decode cX2_lanternNumbered 25 = .ok (.astore_n 2, 1) := by decide +kernel
theorem dX2_lanternNumbered_26 : decode cX2_lanternNumbered 26 = .ok (.aload_n 2, 1) := by decide +kernel
theorem dX2_lanternNumbered_27 : decode cX2_lanternNumbered 27 = .ok (.ifnonnull 13, 3) := by decide +kernel
theorem dX2_lanternNumbered_30 : decode cX2_lanternNumbered 30 = .ok (.new 80, 3) := by decide +kernel
theorem dX2_lanternNumbered_33 : decode cX2_lanternNumbered 33 = .ok (.dup, 1) := by decide +kernel
theorem dX2_lanternNumbered_34 : decode cX2_lanternNumbered 34 = .ok (.ldc 198, 2) := by decide +kernel
theorem dX2_lanternNumbered_36 : decode cX2_lanternNumbered 36 = .ok (.invokespecial 84, 3) := by decide +kernel
theorem dX2_lanternNumbered_39 : decode cX2_lanternNumbered 39 = .ok (.athrow, 1) := by decide +kernel
theorem dX2_lanternNumbered_40 : decode cX2_lanternNumbered 40 = .ok (.aload_n 2, 1) := by decide +kernel
theorem dX2_lanternNumbered_41 : decode cX2_lanternNumbered 41 = .ok (.areturn, 1) := by decide +kernel
set_option maxRecDepth 20000 in
theorem ggX2_raftNumbered_X2_within : GoodIn wsX2_raftNumbered wsX2_within := goodIn_r _ [7] (by decide +kernel) (by decide +kernel)
set_option maxRecDepth 20000 in
theorem gX2_raftNumbered_X2_within : GoodIn wsX2_raftNumbered (va_wsS RX2 53 yX2_within wsX2_within) := goodIn_app (goodIn_of _ (by decide +kernel)) ggX2_raftNumbered_X2_within
theorem dX2_raftNumbered_0 : decode cX2_raftNumbered 0 = .ok (.iload_n 1, 1) := by decide +kernel
theorem dX2_raftNumbered_1 : decode cX2_raftNumbered 1 = .ok (.iconst 0, 1) := by decide +kernel
theorem dX2_raftNumbered_2 : decode cX2_raftNumbered 2 = .ok (.aload_n 0, 1) := by decide +kernel
theorem dX2_raftNumbered_3 : decode cX2_raftNumbered 3 = .ok (.getfield 17, 3) := by decide +kernel
theorem dX2_raftNumbered_6 : decode cX2_raftNumbered 6 = .ok (.arraylength, 1) := by decide +kernel
theorem dX2_raftNumbered_7 : decode cX2_raftNumbered 7 = .ok (.iconst 1, 1) := by decide +kernel
theorem dX2_raftNumbered_8 : decode cX2_raftNumbered 8 = .ok (.isub, 1) := by decide +kernel
theorem dX2_raftNumbered_9 : decode cX2_raftNumbered 9 = .ok (.invokestatic 53, 3) := by decide +kernel
theorem dX2_raftNumbered_12 : decode cX2_raftNumbered 12 = .ok (.ifCond .eq 12, 3) := by decide +kernel
theorem dX2_raftNumbered_15 : decode cX2_raftNumbered 15 = .ok (.aload_n 0, 1) := by decide +kernel
theorem dX2_raftNumbered_16 : decode cX2_raftNumbered 16 = .ok (.getfield 17, 3) := by decide +kernel
theorem dX2_raftNumbered_19 : decode cX2_raftNumbered 19 = .ok (.iload_n 1, 1) := by decide +kernel
theorem dX2_raftNumbered_20 : decode cX2_raftNumbered 20 = .ok (.aaload, 1) := by decide +kernel
theorem dX2_raftNumbered_21 : decode cX2_raftNumbered 21 = .ok (.goto 4, 3) := by decide +kernel
theorem dX2_raftNumbered_24 : decode cX2_raftNumbered 24 = .ok (.aconst_null, 1) := by decide +kernel
theorem dX2_raftNumbered_25 : decode cX2_raftNumbered 25 = .ok (.astore_n 2, 1) := by decide +kernel
theorem dX2_raftNumbered_26 : decode cX2_raftNumbered 26 = .ok (.aload_n 2, 1) := by decide +kernel
theorem dX2_raftNumbered_27 : decode cX2_raftNumbered 27 = .ok (.ifnonnull 13, 3) := by decide +kernel
theorem dX2_raftNumbered_30 : decode cX2_raftNumbered 30 = .ok (.new 80, 3) := by decide +kernel
theorem dX2_raftNumbered_33 : decode cX2_raftNumbered 33 = .ok (.dup, 1) := by decide +kernel
theorem dX2_raftNumbered_34 : decode cX2_raftNumbered 34 = .ok (.ldc 200, 2) := by decide +kernel
theorem dX2_raftNumbered_36 : decode cX2_raftNumbered 36 = .ok (.invokespecial 84, 3) := by decide +kernel
theorem dX2_raftNumbered_39 : decode cX2_raftNumbered 39 = .ok (.athrow, 1) := by decide +kernel
theorem dX2_raftNumbered_40 : decode cX2_raftNumbered 40 = .ok (.aload_n 2, 1) := by decide +kernel
theorem dX2_raftNumbered_41 : decode cX2_raftNumbered 41 = .ok (.areturn, 1) := by decide +kernel
theorem dX2_litLanterns_0 : decode cX2_litLanterns 0 = .ok (.iconst 0, 1) := by decide +kernel
theorem dX2_litLanterns_1 : decode cX2_litLanterns 1 = .ok (.istore_n 1, 1) := by decide +kernel
theorem dX2_litLanterns_2 : decode cX2_litLanterns 2 = .ok (.aload_n 0, 1) := by decide +kernel
theorem dX2_litLanterns_3 : decode cX2_litLanterns 3 = .ok (.getfield 11, 3) := by decide +kernel
theorem dX2_litLanterns_6 : decode cX2_litLanterns 6 = .ok (.astore_n 2, 1) := by decide +kernel
theorem dX2_litLanterns_7 : decode cX2_litLanterns 7 = .ok (.aload_n 2, 1) := by decide +kernel
theorem dX2_litLanterns_8 : decode cX2_litLanterns 8 = .ok (.arraylength, 1) := by decide +kernel
theorem dX2_litLanterns_9 : decode cX2_litLanterns 9 = .ok (.istore_n 3, 1) := by decide +kernel
theorem dX2_litLanterns_10 : decode cX2_litLanterns 10 = .ok (.iconst 0, 1) := by decide +kernel
theorem dX2_litLanterns_11 : decode cX2_litLanterns 11 = .ok (.istore 4, 2) := by decide +kernel
theorem dX2_litLanterns_13 : decode cX2_litLanterns 13 = .ok (.iload 4, 2) := by decide +kernel
theorem dX2_litLanterns_15 : decode cX2_litLanterns 15 = .ok (.iload_n 3, 1) := by decide +kernel
theorem dX2_litLanterns_16 : decode cX2_litLanterns 16 = .ok (.if_icmp .ge 32, 3) := by decide +kernel
theorem dX2_litLanterns_19 : decode cX2_litLanterns 19 = .ok (.aload_n 2, 1) := by decide +kernel
theorem dX2_litLanterns_20 : decode cX2_litLanterns 20 = .ok (.iload 4, 2) := by decide +kernel
theorem dX2_litLanterns_22 : decode cX2_litLanterns 22 = .ok (.aaload, 1) := by decide +kernel
theorem dX2_litLanterns_23 : decode cX2_litLanterns 23 = .ok (.astore 5, 2) := by decide +kernel
theorem dX2_litLanterns_25 : decode cX2_litLanterns 25 = .ok (.aload 5, 2) := by decide +kernel
theorem dX2_litLanterns_27 : decode cX2_litLanterns 27 = .ok (.ifnull 15, 3) := by decide +kernel
theorem dX2_litLanterns_30 : decode cX2_litLanterns 30 = .ok (.aload 5, 2) := by decide +kernel
theorem dX2_litLanterns_32 : decode cX2_litLanterns 32 = .ok (.getfield 125, 3) := by decide +kernel
theorem dX2_litLanterns_35 : decode cX2_litLanterns 35 = .ok (.iconst 1, 1) := by decide +kernel
theorem dX2_litLanterns_36 : decode cX2_litLanterns 36 = .ok (.if_icmp .ne 6, 3) := by decide +kernel
theorem dX2_litLanterns_39 : decode cX2_litLanterns 39 = .ok (.iinc 1 1, 3) := by decide +kernel
theorem dX2_litLanterns_42 : decode cX2_litLanterns 42 = .ok (.iinc 4 1, 3) := by decide +kernel
theorem dX2_litLanterns_45 : decode cX2_litLanterns 45 = .ok (.goto (-32), 3) := by decide +kernel
theorem dX2_litLanterns_48 : decode cX2_litLanterns 48 = .ok (.iload_n 1, 1) := by decide +kernel
theorem dX2_litLanterns_49 : decode cX2_litLanterns 49 = .ok (.ireturn, 1) := by decide +kernel
theorem dX2_raftsOnRiver_0 : decode cX2_raftsOnRiver 0 = .ok (.iconst 0, 1) := by decide +kernel
theorem dX2_raftsOnRiver_1 : decode cX2_raftsOnRiver 1 = .ok (.istore_n 1, 1) := by decide +kernel
theorem dX2_raftsOnRiver_2 : decode cX2_raftsOnRiver 2 = .ok (.aload_n 0, 1) := by decide +kernel
theorem dX2_raftsOnRiver_3 : decode cX2_raftsOnRiver 3 = .ok (.getfield 21, 3) := by decide +kernel
theorem dX2_raftsOnRiver_6 : decode cX2_raftsOnRiver 6 = .ok (.astore_n 2, 1) := by decide +kernel
theorem dX2_raftsOnRiver_7 : decode cX2_raftsOnRiver 7 = .ok (.aload_n 2, 1) := by decide +kernel
theorem dX2_raftsOnRiver_8 : decode cX2_raftsOnRiver 8 = .ok (.arraylength, 1) := by decide +kernel
theorem dX2_raftsOnRiver_9 : decode cX2_raftsOnRiver 9 = .ok (.istore_n 3, 1) := by decide +kernel
theorem dX2_raftsOnRiver_10 : decode cX2_raftsOnRiver 10 = .ok (.iconst 0, 1) := by decide +kernel
theorem dX2_raftsOnRiver_11 : decode cX2_raftsOnRiver 11 = .ok (.istore 4, 2) := by decide +kernel
theorem dX2_raftsOnRiver_13 : decode cX2_raftsOnRiver 13 = .ok (.iload 4, 2) := by decide +kernel
theorem dX2_raftsOnRiver_15 : decode cX2_raftsOnRiver 15 = .ok (.iload_n 3, 1) := by decide +kernel
theorem dX2_raftsOnRiver_16 : decode cX2_raftsOnRiver 16 = .ok (.if_icmp .ge 32, 3) := by decide +kernel
theorem dX2_raftsOnRiver_19 : decode cX2_raftsOnRiver 19 = .ok (.aload_n 2, 1) := by decide +kernel
theorem dX2_raftsOnRiver_20 : decode cX2_raftsOnRiver 20 = .ok (.iload 4, 2) := by decide +kernel
theorem dX2_raftsOnRiver_22 : decode cX2_raftsOnRiver 22 = .ok (.aaload, 1) := by decide +kernel
theorem dX2_raftsOnRiver_23 : decode cX2_raftsOnRiver 23 = .ok (.astore 5, 2) := by decide +kernel
theorem dX2_raftsOnRiver_25 : decode cX2_raftsOnRiver 25 = .ok (.aload 5, 2) := by decide +kernel
theorem dX2_raftsOnRiver_27 : decode cX2_raftsOnRiver 27 = .ok (.ifnull 15, 3) := by decide +kernel
theorem dX2_raftsOnRiver_30 : decode cX2_raftsOnRiver 30 = .ok (.aload 5, 2) := by decide +kernel
theorem dX2_raftsOnRiver_32 : decode cX2_raftsOnRiver 32 = .ok (.getfield 94, 3) := by decide +kernel
theorem dX2_raftsOnRiver_35 : decode cX2_raftsOnRiver 35 = .ok (.iconst 1, 1) := by decide +kernel
theorem dX2_raftsOnRiver_36 : decode cX2_raftsOnRiver 36 = .ok (.if_icmp .ne 6, 3) := by decide +kernel
theorem dX2_raftsOnRiver_39 : decode cX2_raftsOnRiver 39 = .ok (.iinc 1 1, 3) := by decide +kernel
theorem dX2_raftsOnRiver_42 : decode cX2_raftsOnRiver 42 = .ok (.iinc 4 1, 3) := by decide +kernel
theorem dX2_raftsOnRiver_45 : decode cX2_raftsOnRiver 45 = .ok (.goto (-32), 3) := by decide +kernel
theorem dX2_raftsOnRiver_48 : decode cX2_raftsOnRiver 48 = .ok (.iload_n 1, 1) := by decide +kernel
theorem dX2_raftsOnRiver_49 : decode cX2_raftsOnRiver 49 = .ok (.ireturn, 1) := by decide +kernel
set_option maxRecDepth 20000 in
theorem ggX2_hasRoomToLaunch_X1_rear : GoodIn wsX2_hasRoomToLaunch wsX1_rear := goodIn_r _ [8, 9, 22, 23, 24, 25, 26, 27, 28] (by decide +kernel) (by decide +kernel)
set_option maxRecDepth 20000 in
theorem gX2_hasRoomToLaunch_X1_rear : GoodIn wsX2_hasRoomToLaunch (wsV RX2 202 RX1 yX1_rear wsX1_rear) := goodIn_app (goodIn_of _ (by decide +kernel)) ggX2_hasRoomToLaunch_X1_rear
theorem dX2_hasRoomToLaunch_0 : decode cX2_hasRoomToLaunch 0 = .ok (.aconst_null, 1) := by decide +kernel
theorem dX2_hasRoomToLaunch_1 : decode cX2_hasRoomToLaunch 1 = .ok (.astore_n 1, 1) := by decide +kernel
theorem dX2_hasRoomToLaunch_2 : decode cX2_hasRoomToLaunch 2 = .ok (.aload_n 0, 1) := by decide +kernel
theorem dX2_hasRoomToLaunch_3 : decode cX2_hasRoomToLaunch 3 = .ok (.getfield 21, 3) := by decide +kernel
theorem dX2_hasRoomToLaunch_6 : decode cX2_hasRoomToLaunch 6 = .ok (.astore_n 2, 1) := by decide +kernel
theorem dX2_hasRoomToLaunch_7 : decode cX2_hasRoomToLaunch 7 = .ok (.aload_n 2, 1) := by decide +kernel
theorem dX2_hasRoomToLaunch_8 : decode cX2_hasRoomToLaunch 8 = .ok (.arraylength, 1) := by decide +kernel
theorem dX2_hasRoomToLaunch_9 : decode cX2_hasRoomToLaunch 9 = .ok (.istore_n 3, 1) := by decide +kernel
theorem dX2_hasRoomToLaunch_10 : decode cX2_hasRoomToLaunch 10 = .ok (.iconst 0, 1) := by decide +kernel
theorem dX2_hasRoomToLaunch_11 : decode cX2_hasRoomToLaunch 11 = .ok (.istore 4, 2) := by decide +kernel
theorem dX2_hasRoomToLaunch_13 : decode cX2_hasRoomToLaunch 13 = .ok (.iload 4, 2) := by decide +kernel
theorem dX2_hasRoomToLaunch_15 : decode cX2_hasRoomToLaunch 15 = .ok (.iload_n 3, 1) := by decide +kernel
theorem dX2_hasRoomToLaunch_16 : decode cX2_hasRoomToLaunch 16 = .ok (.if_icmp .ge 32, 3) := by decide +kernel
theorem dX2_hasRoomToLaunch_19 : decode cX2_hasRoomToLaunch 19 = .ok (.aload_n 2, 1) := by decide +kernel
theorem dX2_hasRoomToLaunch_20 : decode cX2_hasRoomToLaunch 20 = .ok (.iload 4, 2) := by decide +kernel
theorem dX2_hasRoomToLaunch_22 : decode cX2_hasRoomToLaunch 22 = .ok (.aaload, 1) := by decide +kernel
theorem dX2_hasRoomToLaunch_23 : decode cX2_hasRoomToLaunch 23 = .ok (.astore 5, 2) := by decide +kernel
theorem dX2_hasRoomToLaunch_25 : decode cX2_hasRoomToLaunch 25 = .ok (.aload 5, 2) := by decide +kernel
theorem dX2_hasRoomToLaunch_27 : decode cX2_hasRoomToLaunch 27 = .ok (.ifnull 15, 3) := by decide +kernel
theorem dX2_hasRoomToLaunch_30 : decode cX2_hasRoomToLaunch 30 = .ok (.aload 5, 2) := by decide +kernel
theorem dX2_hasRoomToLaunch_32 : decode cX2_hasRoomToLaunch 32 = .ok (.getfield 94, 3) := by decide +kernel
theorem dX2_hasRoomToLaunch_35 : decode cX2_hasRoomToLaunch 35 = .ok (.iconst 1, 1) := by decide +kernel
theorem dX2_hasRoomToLaunch_36 : decode cX2_hasRoomToLaunch 36 = .ok (.if_icmp .ne 6, 3) := by decide +kernel
theorem dX2_hasRoomToLaunch_39 : decode cX2_hasRoomToLaunch 39 = .ok (.aload 5, 2) := by decide +kernel
theorem dX2_hasRoomToLaunch_41 : decode cX2_hasRoomToLaunch 41 = .ok (.astore_n 1, 1) := by decide +kernel
theorem dX2_hasRoomToLaunch_42 : decode cX2_hasRoomToLaunch 42 = .ok (.iinc 4 1, 3) := by decide +kernel
theorem dX2_hasRoomToLaunch_45 : decode cX2_hasRoomToLaunch 45 = .ok (.goto (-32), 3) := by decide +kernel
theorem dX2_hasRoomToLaunch_48 : decode cX2_hasRoomToLaunch 48 = .ok (.aload_n 1, 1) := by decide +kernel
theorem dX2_hasRoomToLaunch_49 : decode cX2_hasRoomToLaunch 49 = .ok (.ifnull 17, 3) := by decide +kernel
theorem dX2_hasRoomToLaunch_52 : decode cX2_hasRoomToLaunch 52 = .ok (.aload_n 1, 1) := by decide +kernel
theorem dX2_hasRoomToLaunch_53 : decode cX2_hasRoomToLaunch 53 = .ok (.invokevirtual 202, 3) := by decide +kernel
theorem dX2_hasRoomToLaunch_56 : decode cX2_hasRoomToLaunch 56 = .ok (.bipush 9, 2) := by decide +kernel
theorem dX2_hasRoomToLaunch_58 : decode cX2_hasRoomToLaunch 58 = .ok (.aload_n 0, 1) := by decide +kernel
theorem dX2_hasRoomToLaunch_59 : decode cX2_hasRoomToLaunch 59 = .ok (.getfield 41, 3) := by decide +kernel
theorem dX2_hasRoomToLaunch_62 : decode cX2_hasRoomToLaunch 62 = .ok (.iadd, 1) := by decide +kernel
theorem dX2_hasRoomToLaunch_63 : decode cX2_hasRoomToLaunch 63 = .ok (.if_icmp .lt 7, 3) := by decide +kernel
theorem dX2_hasRoomToLaunch_66 : decode cX2_hasRoomToLaunch 66 = .ok (.iconst 1, 1) := by decide +kernel
theorem dX2_hasRoomToLaunch_67 : decode cX2_hasRoomToLaunch 67 = .ok (.goto 4, 3) := by decide +kernel
theorem dX2_hasRoomToLaunch_70 : decode cX2_hasRoomToLaunch 70 = .ok (.iconst 0, 1) := by decide +kernel
theorem dX2_hasRoomToLaunch_71 : decode cX2_hasRoomToLaunch 71 = .ok (.ireturn, 1) := by decide +kernel
set_option maxRecDepth 20000 in
theorem ggX2_passOne_X2_moveRafts : GoodIn wsX2_passOne wsX2_moveRafts := goodIn_r _ [6, 7, 8, 9, 10, 11, 12, 13, 14, 15, 16, 17, 18, 19, 20, 21, 22, 23, 24, 25, 26, 27, 98, 99, 100, 101, 102, 103, 104, 105, 106, 107, 108, 109, 110, 111, 112, 113, 114, 115, 116] (by decide +kernel) (by decide +kernel)
set_option maxRecDepth 20000 in
theorem gX2_passOne_X2_moveRafts : GoodIn wsX2_passOne (wsV RX2 205 RX2 yX2_moveRafts wsX2_moveRafts) := goodIn_app (goodIn_of _ (by decide +kernel)) ggX2_passOne_X2_moveRafts
set_option maxRecDepth 20000 in
theorem ggX2_passOne_X2_letRaftsGo : GoodIn wsX2_passOne wsX2_letRaftsGo := goodIn_r _ [31, 7, 8, 32, 33, 34, 35, 13, 36, 37, 38, 39, 40, 41, 42, 43, 98, 99, 100, 101, 102, 103, 104, 105, 106, 107, 108, 109, 110, 111, 112, 113, 114, 115, 116, 117, 118, 119, 120, 121, 122, 123] (by decide +kernel) (by decide +kernel)
set_option maxRecDepth 20000 in
theorem gX2_passOne_X2_letRaftsGo : GoodIn wsX2_passOne (wsV RX2 208 RX2 yX2_letRaftsGo wsX2_letRaftsGo) := goodIn_app (goodIn_of _ (by decide +kernel)) ggX2_passOne_X2_letRaftsGo
set_option maxRecDepth 20000 in
theorem ggX2_passOne_X2_blowGust : GoodIn wsX2_passOne wsX2_blowGust := goodIn_r _ [47, 1, 48, 49, 50, 51, 52, 53, 5, 54, 55, 56, 57, 41, 58, 59, 60, 61, 39, 40, 42, 43, 98, 99, 100, 101, 102, 103, 104, 105, 106, 107, 108, 109, 117, 118, 119, 120, 121, 122, 123] (by decide +kernel) (by decide +kernel)
set_option maxRecDepth 20000 in
theorem gX2_passOne_X2_blowGust : GoodIn wsX2_passOne (wsV RX2 211 RX2 yX2_blowGust wsX2_blowGust) := goodIn_app (goodIn_of _ (by decide +kernel)) ggX2_passOne_X2_blowGust
set_option maxRecDepth 20000 in
theorem ggX2_passOne_X2_burnCandles : GoodIn wsX2_passOne wsX2_burnCandles := goodIn_r _ [65, 49, 50, 66, 67, 68, 41, 69, 70, 43, 98, 99, 100, 101, 102, 103, 104, 105, 106, 107, 108, 109, 117, 118, 119, 120, 121, 122, 123] (by decide +kernel) (by decide +kernel)
set_option maxRecDepth 20000 in
theorem gX2_passOne_X2_burnCandles : GoodIn wsX2_passOne (wsV RX2 214 RX2 yX2_burnCandles wsX2_burnCandles) := goodIn_app (goodIn_of _ (by decide +kernel)) ggX2_passOne_X2_burnCandles
set_option maxRecDepth 20000 in
theorem ggX2_passOne_X2_sendMarshal : GoodIn wsX2_passOne wsX2_sendMarshal := goodIn_r _ [74, 49, 50, 75, 76, 77, 78, 5, 79, 80, 81, 82, 83, 84, 85, 86, 87, 88, 41, 89, 90, 91, 92, 93, 94, 95, 96, 97, 61, 39, 40, 42, 43, 98, 99, 100, 101, 102, 103, 104, 105, 106, 107, 108, 109, 117, 118, 119, 120, 121, 122, 123, 110, 111, 112, 113, 114, 115, 116] (by decide +kernel) (by decide +kernel)
set_option maxRecDepth 20000 in
theorem gX2_passOne_X2_sendMarshal : GoodIn wsX2_passOne (wsV RX2 217 RX2 yX2_sendMarshal wsX2_sendMarshal) := goodIn_app (goodIn_of _ (by decide +kernel)) ggX2_passOne_X2_sendMarshal
theorem dX2_passOne_0 : decode cX2_passOne 0 = .ok (.aload_n 0, 1) := by decide +kernel
theorem dX2_passOne_1 : decode cX2_passOne 1 = .ok (.dup, 1) := by decide +kernel
theorem dX2_passOne_2 : decode cX2_passOne 2 = .ok (.getfield 38, 3) := by decide +kernel
theorem dX2_passOne_5 : decode cX2_passOne 5 = .ok (.iconst 1, 1) := by decide +kernel
theorem dX2_passOne_6 : decode cX2_passOne 6 = .ok (.iadd, 1) := by decide +kernel
theorem dX2_passOne_7 : decode cX2_passOne 7 = .ok (.putfield 38, 3) := by decide +kernel
theorem dX2_passOne_10 : decode cX2_passOne 10 = .ok (.aload_n 0, 1) := by decide +kernel
theorem dX2_passOne_11 : decode cX2_passOne 11 = .ok (.invokevirtual 205, 3) := by decide +kernel
theorem dX2_passOne_14 : decode cX2_passOne 14 = .ok (.aload_n 0, 1) := by decide +kernel
theorem dX2_passOne_15 : decode cX2_passOne 15 = .ok (.invokevirtual 208, 3) := by decide +kernel
theorem dX2_passOne_18 : decode cX2_passOne 18 = .ok (.aload_n 0, 1) := by decide +kernel
theorem dX2_passOne_19 : decode cX2_passOne 19 = .ok (.invokevirtual 211, 3) := by decide +kernel
theorem dX2_passOne_22 : decode cX2_passOne 22 = .ok (.aload_n 0, 1) := by decide +kernel
theorem dX2_passOne_23 : decode cX2_passOne 23 = .ok (.invokevirtual 214, 3) := by decide +kernel
theorem dX2_passOne_26 : decode cX2_passOne 26 = .ok (.aload_n 0, 1) := by decide +kernel
theorem dX2_passOne_27 : decode cX2_passOne 27 = .ok (.invokevirtual 217, 3) := by decide +kernel
theorem dX2_passOne_30 : decode cX2_passOne 30 = .ok (.return_, 1) := by decide +kernel
set_option maxRecDepth 20000 in
theorem ggX2_moveRafts_X1_moveBehind : GoodIn wsX2_moveRafts wsX1_moveBehind := goodIn_r _ [8, 9, 10, 11, 12, 13, 14, 15, 16, 17, 18, 19, 20, 7, 21, 34, 35, 36, 37, 38, 39, 40] (by decide +kernel) (by decide +kernel)
set_option maxRecDepth 20000 in
theorem gX2_moveRafts_X1_moveBehind : GoodIn wsX2_moveRafts (wsV RX2 220 RX1 yX1_moveBehind wsX1_moveBehind) := goodIn_app (goodIn_of _ (by decide +kernel)) ggX2_moveRafts_X1_moveBehind
theorem dX2_moveRafts_0 : decode cX2_moveRafts 0 = .ok (.aconst_null, 1) := by decide +kernel
theorem dX2_moveRafts_1 : decode cX2_moveRafts 1 = .ok (.astore_n 1, 1) := by decide +kernel
theorem dX2_moveRafts_2 : decode cX2_moveRafts 2 = .ok (.aload_n 0, 1) := by decide +kernel
theorem dX2_moveRafts_3 : decode cX2_moveRafts 3 = .ok (.getfield 21, 3) := by decide +kernel
theorem dX2_moveRafts_6 : decode cX2_moveRafts 6 = .ok (.astore_n 2, 1) := by decide +kernel
theorem dX2_moveRafts_7 : decode cX2_moveRafts 7 = .ok (.aload_n 2, 1) := by decide +kernel
theorem dX2_moveRafts_8 : decode cX2_moveRafts 8 = .ok (.arraylength, 1) := by decide +kernel
theorem dX2_moveRafts_9 : decode cX2_moveRafts 9 = .ok (.istore_n 3, 1) := by decide +kernel
theorem dX2_moveRafts_10 : decode cX2_moveRafts 10 = .ok (.iconst 0, 1) := by decide +kernel
theorem dX2_moveRafts_11 : decode cX2_moveRafts 11 = .ok (.istore 4, 2) := by decide +kernel
theorem dX2_moveRafts_13 : decode cX2_moveRafts 13 = .ok (.iload 4, 2) := by decide +kernel
theorem dX2_moveRafts_15 : decode cX2_moveRafts 15 = .ok (.iload_n 3, 1) := by decide +kernel
theorem dX2_moveRafts_16 : decode cX2_moveRafts 16 = .ok (.if_icmp .ge 42, 3) := by decide +kernel
theorem dX2_moveRafts_19 : decode cX2_moveRafts 19 = .ok (.aload_n 2, 1) := by decide +kernel
theorem dX2_moveRafts_20 : decode cX2_moveRafts 20 = .ok (.iload 4, 2) := by decide +kernel
theorem dX2_moveRafts_22 : decode cX2_moveRafts 22 = .ok (.aaload, 1) := by decide +kernel
theorem dX2_moveRafts_23 : decode cX2_moveRafts 23 = .ok (.astore 5, 2) := by decide +kernel
theorem dX2_moveRafts_25 : decode cX2_moveRafts 25 = .ok (.aload 5, 2) := by decide +kernel
theorem dX2_moveRafts_27 : decode cX2_moveRafts 27 = .ok (.ifnull 25, 3) := by decide +kernel
theorem dX2_moveRafts_30 : decode cX2_moveRafts 30 = .ok (.aload 5, 2) := by decide +kernel
theorem dX2_moveRafts_32 : decode cX2_moveRafts 32 = .ok (.getfield 94, 3) := by decide +kernel
theorem dX2_moveRafts_35 : decode cX2_moveRafts 35 = .ok (.iconst 1, 1) := by decide +kernel
theorem dX2_moveRafts_36 : decode cX2_moveRafts 36 = .ok (.if_icmp .ne 16, 3) := by decide +kernel
theorem dX2_moveRafts_39 : decode cX2_moveRafts 39 = .ok (.aload 5, 2) := by decide +kernel
theorem dX2_moveRafts_41 : decode cX2_moveRafts 41 = .ok (.aload_n 1, 1) := by decide +kernel
theorem dX2_moveRafts_42 : decode cX2_moveRafts 42 = .ok (.aload_n 0, 1) := by decide +kernel
theorem dX2_moveRafts_43 : decode cX2_moveRafts 43 = .ok (.getfield 41, 3) := by decide +kernel
theorem dX2_moveRafts_46 : decode cX2_moveRafts 46 = .ok (.invokevirtual 220, 3) := by decide +kernel
theorem dX2_moveRafts_49 : decode cX2_moveRafts 49 = .ok (.aload 5, 2) := by decide +kernel
theorem dX2_moveRafts_51 : decode cX2_moveRafts 51 = .ok (.astore_n 1, 1) := by decide +kernel
theorem dX2_moveRafts_52 : decode cX2_moveRafts 52 = .ok (.iinc 4 1, 3) := by decide +kernel
theorem dX2_moveRafts_55 : decode cX2_moveRafts 55 = .ok (.goto (-42), 3) := by decide +kernel
theorem dX2_moveRafts_58 : decode cX2_moveRafts 58 = .ok (.return_, 1) := by decide +kernel
set_option maxRecDepth 20000 in
theorem ggX2_letRaftsGo_X1_darkenAll : GoodIn wsX2_letRaftsGo wsX1_darkenAll := goodIn_r _ [8, 9, 10, 11, 12, 13, 14, 15, 28, 29, 30, 31, 32, 33, 34, 35, 36, 37, 38, 39, 40, 41] (by decide +kernel) (by decide +kernel)
set_option maxRecDepth 20000 in
theorem gX2_letRaftsGo_X1_darkenAll : GoodIn wsX2_letRaftsGo (wsV RX2 224 RX1 yX1_darkenAll wsX1_darkenAll) := goodIn_app (goodIn_of _ (by decide +kernel)) ggX2_letRaftsGo_X1_darkenAll
theorem dX2_letRaftsGo_0 : decode cX2_letRaftsGo 0 = .ok (.aload_n 0, 1) := by decide +kernel
theorem dX2_letRaftsGo_1 : decode cX2_letRaftsGo 1 = .ok (.getfield 21, 3) := by decide +kernel
theorem dX2_letRaftsGo_4 : decode cX2_letRaftsGo 4 = .ok (.astore_n 1, 1) := by decide +kernel
theorem dX2_letRaftsGo_5 : decode cX2_letRaftsGo 5 = .ok (.aload_n 1, 1) := by decide +kernel
theorem dX2_letRaftsGo_6 : decode cX2_letRaftsGo 6 = .ok (.arraylength, 1) := by decide +kernel
theorem dX2_letRaftsGo_7 : decode cX2_letRaftsGo 7 = .ok (.istore_n 2, 1) := by decide +kernel
theorem dX2_letRaftsGo_8 : decode cX2_letRaftsGo 8 = .ok (.iconst 0, 1) := by decide +kernel
theorem dX2_letRaftsGo_9 : decode cX2_letRaftsGo 9 = .ok (.istore_n 3, 1) := by decide +kernel
theorem dX2_letRaftsGo_10 : decode cX2_letRaftsGo 10 = .ok (.iload_n 3, 1) := by decide +kernel
theorem dX2_letRaftsGo_11 : decode cX2_letRaftsGo 11 = .ok (.iload_n 2, 1) := by decide +kernel
theorem dX2_letRaftsGo_12 : decode cX2_letRaftsGo 12 = .ok (.if_icmp .ge 50, 3) := by decide +kernel
theorem dX2_letRaftsGo_15 : decode cX2_letRaftsGo 15 = .ok (.aload_n 1, 1) := by decide +kernel
theorem dX2_letRaftsGo_16 : decode cX2_letRaftsGo 16 = .ok (.iload_n 3, 1) := by decide +kernel
theorem dX2_letRaftsGo_17 : decode cX2_letRaftsGo 17 = .ok (.aaload, 1) := by decide +kernel
theorem dX2_letRaftsGo_18 : decode cX2_letRaftsGo 18 = .ok (.astore 4, 2) := by decide +kernel
theorem dX2_letRaftsGo_20 : decode cX2_letRaftsGo 20 = .ok (.aload 4, 2) := by decide +kernel
theorem dX2_letRaftsGo_22 : decode cX2_letRaftsGo 22 = .ok (.ifnull 34, 3) := by decide +kernel
theorem dX2_letRaftsGo_25 : decode cX2_letRaftsGo 25 = .ok (.aload 4, 2) := by decide +kernel
theorem dX2_letRaftsGo_27 : decode cX2_letRaftsGo 27 = .ok (.getfield 94, 3) := by decide +kernel
theorem dX2_letRaftsGo_30 : decode cX2_letRaftsGo 30 = .ok (.iconst 1, 1) := by decide +kernel
theorem dX2_letRaftsGo_31 : decode cX2_letRaftsGo 31 = .ok (.if_icmp .ne 25, 3) := by decide +kernel
theorem dX2_letRaftsGo_34 : decode cX2_letRaftsGo 34 = .ok (.aload 4, 2) := by decide +kernel
theorem dX2_letRaftsGo_36 : decode cX2_letRaftsGo 36 = .ok (.getfield 153, 3) := by decide +kernel
theorem dX2_letRaftsGo_39 : decode cX2_letRaftsGo 39 = .ok (.sipush 500, 3) := by decide +kernel
theorem dX2_letRaftsGo_42 : decode cX2_letRaftsGo 42 = .ok (.if_icmp .lt 14, 3) := by decide +kernel
theorem dX2_letRaftsGo_45 : decode cX2_letRaftsGo 45 = .ok (.aload 4, 2) := by decide +kernel
theorem dX2_letRaftsGo_47 : decode cX2_letRaftsGo 47 = .ok (.iconst 2, 1) := by decide +kernel
theorem dX2_letRaftsGo_48 : decode cX2_letRaftsGo 48 = .ok (.putfield 94, 3) := by decide +kernel
theorem dX2_letRaftsGo_51 : decode cX2_letRaftsGo 51 = .ok (.aload 4, 2) := by decide +kernel
theorem dX2_letRaftsGo_53 : decode cX2_letRaftsGo 53 = .ok (.invokevirtual 224, 3) := by decide +kernel
theorem dX2_letRaftsGo_56 : decode cX2_letRaftsGo 56 = .ok (.iinc 3 1, 3) := by decide +kernel
theorem dX2_letRaftsGo_59 : decode cX2_letRaftsGo 59 = .ok (.goto (-49), 3) := by decide +kernel
theorem dX2_letRaftsGo_62 : decode cX2_letRaftsGo 62 = .ok (.return_, 1) := by decide +kernel
set_option maxRecDepth 20000 in
theorem ggX2_blowGust_X2_within : GoodIn wsX2_blowGust wsX2_within := goodIn_r _ [9] (by decide +kernel) (by decide +kernel)
set_option maxRecDepth 20000 in
theorem gX2_blowGust_X2_within : GoodIn wsX2_blowGust (va_wsS RX2 53 yX2_within wsX2_within) := goodIn_app (goodIn_of _ (by decide +kernel)) ggX2_blowGust_X2_within
set_option maxRecDepth 20000 in
theorem ggX2_blowGust_X0_firmness : GoodIn wsX2_blowGust wsX0_firmness := goodIn_r _ [14, 15, 16, 34, 35, 36, 37, 38, 39, 40] (by decide +kernel) (by decide +kernel)
set_option maxRecDepth 20000 in
theorem gX2_blowGust_X0_firmness : GoodIn wsX2_blowGust (wsV RX2 227 RX0 yX0_firmness wsX0_firmness) := goodIn_app (goodIn_of _ (by decide +kernel)) ggX2_blowGust_X0_firmness
set_option maxRecDepth 20000 in
theorem ggX2_blowGust_X0_darken : GoodIn wsX2_blowGust wsX0_darken := goodIn_r _ [20, 21, 34, 35, 36, 37, 38, 39, 40] (by decide +kernel) (by decide +kernel)
set_option maxRecDepth 20000 in
theorem gX2_blowGust_X0_darken : GoodIn wsX2_blowGust (wsV RX2 119 RX0 yX0_darken wsX0_darken) := goodIn_app (goodIn_of _ (by decide +kernel)) ggX2_blowGust_X0_darken
theorem dX2_blowGust_0 : decode cX2_blowGust 0 = .ok (.aload_n 0, 1) := by decide +kernel
theorem dX2_blowGust_1 : decode cX2_blowGust 1 = .ok (.getfield 38, 3) := by decide +kernel
theorem dX2_blowGust_4 : decode cX2_blowGust 4 = .ok (.iconst 1, 1) := by decide +kernel
theorem dX2_blowGust_5 : decode cX2_blowGust 5 = .ok (.sipush 400, 3) := by decide +kernel
theorem dX2_blowGust_8 : decode cX2_blowGust 8 = .ok (.invokestatic 53, 3) := by decide +kernel
theorem dX2_blowGust_11 : decode cX2_blowGust 11 = .ok (.ifCond .eq 15, 3) := by decide +kernel
theorem dX2_blowGust_14 : decode cX2_blowGust 14 = .ok (.aload_n 0, 1) := by decide +kernel
theorem dX2_blowGust_15 : decode cX2_blowGust 15 = .ok (.getfield 24, 3) := by decide +kernel
theorem dX2_blowGust_18 : decode cX2_blowGust 18 = .ok (.aload_n 0, 1) := by decide +kernel
theorem dX2_blowGust_19 : decode cX2_blowGust 19 = .ok (.getfield 38, 3) := by decide +kernel
theorem dX2_blowGust_22 : decode cX2_blowGust 22 = .ok (.iaload, 1) := by decide +kernel
theorem dX2_blowGust_23 : decode cX2_blowGust 23 = .ok (.goto 4, 3) := by decide +kernel
theorem dX2_blowGust_26 : decode cX2_blowGust 26 = .ok (.iconst 0, 1) := by decide +kernel
theorem dX2_blowGust_27 : decode cX2_blowGust 27 = .ok (.istore_n 1, 1) := by decide +kernel
theorem dX2_blowGust_28 : decode cX2_blowGust 28 = .ok (.aload_n 0, 1) := by decide +kernel
theorem dX2_blowGust_29 : decode cX2_blowGust 29 = .ok (.getfield 11, 3) := by decide +kernel
theorem dX2_blowGust_32 : decode cX2_blowGust 32 = .ok (.astore_n 2, 1) := by decide +kernel
theorem dX2_blowGust_33 : decode cX2_blowGust 33 = .ok (.aload_n 2, 1) := by decide +kernel
theorem dX2_blowGust_34 : decode cX2_blowGust 34 = .ok (.arraylength, 1) := by decide +kernel
theorem dX2_blowGust_35 : decode cX2_blowGust 35 = .ok (.istore_n 3, 1) := by decide +kernel
theorem dX2_blowGust_36 : decode cX2_blowGust 36 = .ok (.iconst 0, 1) := by decide +kernel
theorem dX2_blowGust_37 : decode cX2_blowGust 37 = .ok (.istore 4, 2) := by decide +kernel
theorem dX2_blowGust_39 : decode cX2_blowGust 39 = .ok (.iload 4, 2) := by decide +kernel
theorem dX2_blowGust_41 : decode cX2_blowGust 41 = .ok (.iload_n 3, 1) := by decide +kernel
theorem dX2_blowGust_42 : decode cX2_blowGust 42 = .ok (.if_icmp .ge 53, 3) := by decide +kernel
theorem dX2_blowGust_45 : decode cX2_blowGust 45 = .ok (.aload_n 2, 1) := by decide +kernel
theorem dX2_blowGust_46 : decode cX2_blowGust 46 = .ok (.iload 4, 2) := by decide +kernel
theorem dX2_blowGust_48 : decode cX2_blowGust 48 = .ok (.aaload, 1) := by decide +kernel
theorem dX2_blowGust_49 : decode cX2_blowGust 49 = .ok (.astore 5, 2) := by decide +kernel
theorem dX2_blowGust_51 : decode cX2_blowGust 51 = .ok (.aload 5, 2) := by decide +kernel
theorem dX2_blowGust_53 : decode cX2_blowGust 53 = .ok (.ifnull 36, 3) := by decide +kernel
theorem dX2_blowGust_56 : decode cX2_blowGust 56 = .ok (.aload 5, 2) := by decide +kernel
theorem dX2_blowGust_58 : decode cX2_blowGust 58 = .ok (.getfield 125, 3) := by decide +kernel
theorem dX2_blowGust_61 : decode cX2_blowGust 61 = .ok (.iconst 1, 1) := by decide +kernel
theorem dX2_blowGust_62 : decode cX2_blowGust 62 = .ok (.if_icmp .ne 27, 3) := by decide +kernel
theorem dX2_blowGust_65 : decode cX2_blowGust 65 = .ok (.aload 5, 2) := by decide +kernel
theorem dX2_blowGust_67 : decode cX2_blowGust 67 = .ok (.invokevirtual 227, 3) := by decide +kernel
theorem dX2_blowGust_70 : decode cX2_blowGust 70 = .ok (.iload_n 1, 1) := by decide +kernel
theorem dX2_blowGust_71 : decode cX2_blowGust 71 = .ok (.if_icmp .ge 18, 3) := by decide +kernel
theorem dX2_blowGust_74 : decode cX2_blowGust 74 = .ok (.aload 5, 2) := by decide +kernel
theorem dX2_blowGust_76 : decode cX2_blowGust 76 = .ok (.invokevirtual 119, 3) := by decide +kernel
theorem dX2_blowGust_79 : decode cX2_blowGust 79 = .ok (.aload_n 0, 1) := by decide +kernel
theorem dX2_blowGust_80 : decode cX2_blowGust 80 = .ok (.dup, 1) := by decide +kernel
theorem dX2_blowGust_81 : decode cX2_blowGust 81 = .ok (.getfield 47, 3) := by decide +kernel
theorem dX2_blowGust_84 : decode cX2_blowGust 84 = .ok (.iconst 1, 1) := by decide +kernel
theorem dX2_blowGust_85 : decode cX2_blowGust 85 = .ok (.iadd, 1) := by decide +kernel
theorem dX2_blowGust_86 : decode cX2_blowGust 86 = .ok (.putfield 47, 3) := by decide +kernel
theorem dX2_blowGust_89 : decode cX2_blowGust 89 = .ok (.iinc 4 1, 3) := by decide +kernel
theorem dX2_blowGust_92 : decode cX2_blowGust 92 = .ok (.goto (-53), 3) := by decide +kernel
theorem dX2_blowGust_95 : decode cX2_blowGust 95 = .ok (.return_, 1) := by decide +kernel
set_option maxRecDepth 20000 in
theorem ggX2_burnCandles_X0_burnOneMinute : GoodIn wsX2_burnCandles wsX0_burnOneMinute := goodIn_r _ [7, 8, 9, 22, 23, 24, 25, 26, 27, 28] (by decide +kernel) (by decide +kernel)
set_option maxRecDepth 20000 in
theorem gX2_burnCandles_X0_burnOneMinute : GoodIn wsX2_burnCandles (wsV RX2 230 RX0 yX0_burnOneMinute wsX0_burnOneMinute) := goodIn_app (goodIn_of _ (by decide +kernel)) ggX2_burnCandles_X0_burnOneMinute
theorem dX2_burnCandles_0 : decode cX2_burnCandles 0 = .ok (.aload_n 0, 1) := by decide +kernel
theorem dX2_burnCandles_1 : decode cX2_burnCandles 1 = .ok (.getfield 11, 3) := by decide +kernel
theorem dX2_burnCandles_4 : decode cX2_burnCandles 4 = .ok (.astore_n 1, 1) := by decide +kernel
theorem dX2_burnCandles_5 : decode cX2_burnCandles 5 = .ok (.aload_n 1, 1) := by decide +kernel
theorem dX2_burnCandles_6 : decode cX2_burnCandles 6 = .ok (.arraylength, 1) := by decide +kernel
theorem dX2_burnCandles_7 : decode cX2_burnCandles 7 = .ok (.istore_n 2, 1) := by decide +kernel
theorem dX2_burnCandles_8 : decode cX2_burnCandles 8 = .ok (.iconst 0, 1) := by decide +kernel
theorem dX2_burnCandles_9 : decode cX2_burnCandles 9 = .ok (.istore_n 3, 1) := by decide +kernel
theorem dX2_burnCandles_10 : decode cX2_burnCandles 10 = .ok (.iload_n 3, 1) := by decide +kernel
theorem dX2_burnCandles_11 : decode cX2_burnCandles 11 = .ok (.iload_n 2, 1) := by decide +kernel
theorem dX2_burnCandles_12 : decode cX2_burnCandles 12 = .ok (.if_icmp .ge 33, 3) := by decide +kernel
theorem dX2_burnCandles_15 : decode cX2_burnCandles 15 = .ok (.aload_n 1, 1) := by decide +kernel
theorem dX2_burnCandles_16 : decode cX2_burnCandles 16 = .ok (.iload_n 3, 1) := by decide +kernel
theorem dX2_burnCandles_17 : decode cX2_burnCandles 17 = .ok (.aaload, 1) := by decide +kernel
theorem dX2_burnCandles_18 : decode cX2_burnCandles 18 = .ok (.astore 4, 2) := by decide +kernel
theorem dX2_burnCandles_20 : decode cX2_burnCandles 20 = .ok (.aload 4, 2) := by decide +kernel
theorem dX2_burnCandles_22 : decode cX2_burnCandles 22 = .ok (.ifnull 17, 3) := by decide +kernel
theorem dX2_burnCandles_25 : decode cX2_burnCandles 25 = .ok (.aload 4, 2) := by decide +kernel
theorem dX2_burnCandles_27 : decode cX2_burnCandles 27 = .ok (.getfield 125, 3) := by decide +kernel
theorem dX2_burnCandles_30 : decode cX2_burnCandles 30 = .ok (.iconst 1, 1) := by decide +kernel
theorem dX2_burnCandles_31 : decode cX2_burnCandles 31 = .ok (.if_icmp .ne 8, 3) := by decide +kernel
theorem dX2_burnCandles_34 : decode cX2_burnCandles 34 = .ok (.aload 4, 2) := by decide +kernel
theorem dX2_burnCandles_36 : decode cX2_burnCandles 36 = .ok (.invokevirtual 230, 3) := by decide +kernel
theorem dX2_burnCandles_39 : decode cX2_burnCandles 39 = .ok (.iinc 3 1, 3) := by decide +kernel
theorem dX2_burnCandles_42 : decode cX2_burnCandles 42 = .ok (.goto (-32), 3) := by decide +kernel
theorem dX2_burnCandles_45 : decode cX2_burnCandles 45 = .ok (.return_, 1) := by decide +kernel
set_option maxRecDepth 20000 in
theorem ggX2_sendMarshal_X2_isCrowded : GoodIn wsX2_sendMarshal wsX2_isCrowded := goodIn_r _ [8, 1, 2, 9, 10, 11, 7, 12, 13, 14, 15, 16, 17, 18, 19, 20, 21, 22, 23, 24, 25, 26, 27, 33, 34, 35, 36, 37, 38, 39, 40, 41, 42, 43, 44, 45, 46, 47, 48, 49, 50, 51, 52, 53, 54, 55, 56, 57, 58] (by decide +kernel) (by decide +kernel)
set_option maxRecDepth 20000 in
theorem gX2_sendMarshal_X2_isCrowded : GoodIn wsX2_sendMarshal (wsV RX2 131 RX2 yX2_isCrowded wsX2_isCrowded) := goodIn_app (goodIn_of _ (by decide +kernel)) ggX2_sendMarshal_X2_isCrowded
set_option maxRecDepth 20000 in
theorem ggX2_sendMarshal_X0_darken : GoodIn wsX2_sendMarshal wsX0_darken := goodIn_r _ [31, 32, 45, 46, 47, 48, 49, 50, 51] (by decide +kernel) (by decide +kernel)
set_option maxRecDepth 20000 in
theorem gX2_sendMarshal_X0_darken : GoodIn wsX2_sendMarshal (wsV RX2 119 RX0 yX0_darken wsX0_darken) := goodIn_app (goodIn_of _ (by decide +kernel)) ggX2_sendMarshal_X0_darken
theorem dX2_sendMarshal_0 : decode cX2_sendMarshal 0 = .ok (.iconst 0, 1) := by decide +kernel
theorem dX2_sendMarshal_1 : decode cX2_sendMarshal 1 = .ok (.istore_n 1, 1) := by decide +kernel
theorem dX2_sendMarshal_2 : decode cX2_sendMarshal 2 = .ok (.iload_n 1, 1) := by decide +kernel
theorem dX2_sendMarshal_3 : decode cX2_sendMarshal 3 = .ok (.aload_n 0, 1) := by decide +kernel
theorem dX2_sendMarshal_4 : decode cX2_sendMarshal 4 = .ok (.getfield 11, 3) := by decide +kernel
theorem dX2_sendMarshal_7 : decode cX2_sendMarshal 7 = .ok (.arraylength, 1) := by decide +kernel
theorem dX2_sendMarshal_8 : decode cX2_sendMarshal 8 = .ok (.if_icmp .ge 51, 3) := by decide +kernel
theorem dX2_sendMarshal_11 : decode cX2_sendMarshal 11 = .ok (.aload_n 0, 1) := by decide +kernel
theorem dX2_sendMarshal_12 : decode cX2_sendMarshal 12 = .ok (.getfield 11, 3) := by decide +kernel
theorem dX2_sendMarshal_15 : decode cX2_sendMarshal 15 = .ok (.iload_n 1, 1) := by decide +kernel
theorem dX2_sendMarshal_16 : decode cX2_sendMarshal 16 = .ok (.aaload, 1) := by decide +kernel
theorem dX2_sendMarshal_17 : decode cX2_sendMarshal 17 = .ok (.astore_n 2, 1) := by decide +kernel
theorem dX2_sendMarshal_18 : decode cX2_sendMarshal 18 = .ok (.aload_n 2, 1) := by decide +kernel
theorem dX2_sendMarshal_19 : decode cX2_sendMarshal 19 = .ok (.ifnull 34, 3) := by decide +kernel
theorem dX2_sendMarshal_22 : decode cX2_sendMarshal 22 = .ok (.aload_n 2, 1) := by decide +kernel
theorem dX2_sendMarshal_23 : decode cX2_sendMarshal 23 = .ok (.getfield 125, 3) := by decide +kernel
theorem dX2_sendMarshal_26 : decode cX2_sendMarshal 26 = .ok (.iconst 1, 1) := by decide +kernel
theorem dX2_sendMarshal_27 : decode cX2_sendMarshal 27 = .ok (.if_icmp .ne 26, 3) := by decide +kernel
theorem dX2_sendMarshal_30 : decode cX2_sendMarshal 30 = .ok (.aload_n 0, 1) := by decide +kernel
theorem dX2_sendMarshal_31 : decode cX2_sendMarshal 31 = .ok (.aload_n 2, 1) := by decide +kernel
theorem dX2_sendMarshal_32 : decode cX2_sendMarshal 32 = .ok (.iload_n 1, 1) := by decide +kernel
theorem dX2_sendMarshal_33 : decode cX2_sendMarshal 33 = .ok (.invokevirtual 131, 3) := by decide +kernel
theorem dX2_sendMarshal_36 : decode cX2_sendMarshal 36 = .ok (.ifCond .eq 17, 3) := by decide +kernel
theorem dX2_sendMarshal_39 : decode cX2_sendMarshal 39 = .ok (.aload_n 2, 1) := by decide +kernel
theorem dX2_sendMarshal_40 : decode cX2_sendMarshal 40 = .ok (.invokevirtual 119, 3) := by decide +kernel
theorem dX2_sendMarshal_43 : decode cX2_sendMarshal 43 = .ok (.aload_n 0, 1) := by decide +kernel
theorem dX2_sendMarshal_44 : decode cX2_sendMarshal 44 = .ok (.dup, 1) := by decide +kernel
theorem dX2_sendMarshal_45 : decode cX2_sendMarshal 45 = .ok (.getfield 50, 3) := by decide +kernel
theorem dX2_sendMarshal_48 : decode cX2_sendMarshal 48 = .ok (.iconst 1, 1) := by decide +kernel
theorem dX2_sendMarshal_49 : decode cX2_sendMarshal 49 = .ok (.iadd, 1) := by decide +kernel
theorem dX2_sendMarshal_50 : decode cX2_sendMarshal 50 = .ok (.putfield 50, 3) := by decide +kernel
theorem dX2_sendMarshal_53 : decode cX2_sendMarshal 53 = .ok (.iinc 1 1, 3) := by decide +kernel
theorem dX2_sendMarshal_56 : decode cX2_sendMarshal 56 = .ok (.goto (-54), 3) := by decide +kernel
theorem dX2_sendMarshal_59 : decode cX2_sendMarshal 59 = .ok (.return_, 1) := by decide +kernel
set_option maxRecDepth 20000 in
theorem ggX2_isCrowded_X2_isTooNear : GoodIn wsX2_isCrowded wsX2_isTooNear := goodIn_r _ [7, 8, 9, 10, 11, 12, 13, 14, 15, 16, 17, 18, 19, 20, 21, 22, 35, 36, 37, 38, 39, 40, 41, 23, 24, 25, 26, 27, 28, 29, 30, 31, 32, 33, 34, 42, 43, 44, 45, 46, 47, 48] (by decide +kernel) (by decide +kernel)
set_option maxRecDepth 20000 in
theorem gX2_isCrowded_X2_isTooNear : GoodIn wsX2_isCrowded (wsV RX2 233 RX2 yX2_isTooNear wsX2_isTooNear) := goodIn_app (goodIn_of _ (by decide +kernel)) ggX2_isCrowded_X2_isTooNear
theorem dX2_isCrowded_0 : decode cX2_isCrowded 0 = .ok (.iconst 0, 1) := by decide +kernel
theorem dX2_isCrowded_1 : decode cX2_isCrowded 1 = .ok (.istore_n 3, 1) := by decide +kernel
theorem dX2_isCrowded_2 : decode cX2_isCrowded 2 = .ok (.iload_n 3, 1) := by decide +kernel
theorem dX2_isCrowded_3 : decode cX2_isCrowded 3 = .ok (.iload_n 2, 1) := by decide +kernel
theorem dX2_isCrowded_4 : decode cX2_isCrowded 4 = .ok (.if_icmp .ge 52, 3) := by decide +kernel
theorem dX2_isCrowded_7 : decode cX2_isCrowded 7 = .ok (.iload_n 3, 1) := by decide +kernel
theorem dX2_isCrowded_8 : decode cX2_isCrowded 8 = .ok (.aload_n 0, 1) := by decide +kernel
theorem dX2_isCrowded_9 : decode cX2_isCrowded 9 = .ok (.getfield 11, 3) := by decide +kernel
theorem dX2_isCrowded_12 : decode cX2_isCrowded 12 = .ok (.arraylength, 1) := by decide +kernel
theorem dX2_isCrowded_13 : decode cX2_isCrowded 13 = .ok (.if_icmp .ge 43, 3) := by decide +kernel
theorem dX2_isCrowded_16 : decode cX2_isCrowded 16 = .ok (.aload_n 0, 1) := by decide +kernel
theorem dX2_isCrowded_17 : decode cX2_isCrowded 17 = .ok (.getfield 11, 3) := by decide +kernel
theorem dX2_isCrowded_20 : decode cX2_isCrowded 20 = .ok (.iload_n 3, 1) := by decide +kernel
theorem dX2_isCrowded_21 : decode cX2_isCrowded 21 = .ok (.aaload, 1) := by decide +kernel
theorem dX2_isCrowded_22 : decode cX2_isCrowded 22 = .ok (.astore 4, 2) := by decide +kernel
theorem dX2_isCrowded_24 : decode cX2_isCrowded 24 = .ok (.aload 4, 2) := by decide +kernel
theorem dX2_isCrowded_26 : decode cX2_isCrowded 26 = .ok (.ifnull 24, 3) := by decide +kernel
theorem dX2_isCrowded_29 : decode cX2_isCrowded 29 = .ok (.aload 4, 2) := by decide +kernel
theorem dX2_isCrowded_31 : decode cX2_isCrowded 31 = .ok (.getfield 125, 3) := by decide +kernel
theorem dX2_isCrowded_34 : decode cX2_isCrowded 34 = .ok (.iconst 1, 1) := by decide +kernel
theorem dX2_isCrowded_35 : decode cX2_isCrowded 35 = .ok (.if_icmp .ne 15, 3) := by decide +kernel
theorem dX2_isCrowded_38 : decode cX2_isCrowded 38 = .ok (.aload_n 0, 1) := by decide +kernel
theorem dX2_isCrowded_39 : decode cX2_isCrowded 39 = .ok (.aload_n 1, 1) := by decide +kernel
theorem dX2_isCrowded_40 : decode cX2_isCrowded 40 = .ok (.aload 4, 2) := by decide +kernel
theorem dX2_isCrowded_42 : decode cX2_isCrowded 42 = .ok (.invokevirtual 233, 3) := by decide +kernel
theorem dX2_isCrowded_45 : decode cX2_isCrowded 45 = .ok (.ifCond .eq 5, 3) := by decide +kernel
theorem dX2_isCrowded_48 : decode cX2_isCrowded 48 = .ok (.iconst 1, 1) := by decide +kernel
theorem dX2_isCrowded_49 : decode cX2_isCrowded 49 = .ok (.ireturn, 1) := by decide +kernel
theorem dX2_isCrowded_50 : decode cX2_isCrowded 50 = .ok (.iinc 3 1, 3) := by decide +kernel
theorem dX2_isCrowded_53 : decode cX2_isCrowded 53 = .ok (.goto (-51), 3) := by decide +kernel
theorem dX2_isCrowded_56 : decode cX2_isCrowded 56 = .ok (.iconst 0, 1) := by decide +kernel
theorem dX2_isCrowded_57 : decode cX2_isCrowded 57 = .ok (.ireturn, 1) := by decide +kernel
set_option maxRecDepth 20000 in
theorem ggX2_isTooNear_X0_distanceTo : GoodIn wsX2_isTooNear wsX0_distanceTo := goodIn_r _ [7, 8, 9, 10, 6, 11, 12, 13, 14, 15, 16, 17, 18, 19, 20, 21, 22, 35, 36, 37, 38, 39, 40, 41] (by decide +kernel) (by decide +kernel)
set_option maxRecDepth 20000 in
theorem gX2_isTooNear_X0_distanceTo : GoodIn wsX2_isTooNear (wsV RX2 189 RX0 yX0_distanceTo wsX0_distanceTo) := goodIn_app (goodIn_of _ (by decide +kernel)) ggX2_isTooNear_X0_distanceTo
theorem dX2_isTooNear_0 : decode cX2_isTooNear 0 = .ok (.aload_n 1, 1) := by decide +kernel
theorem dX2_isTooNear_1 : decode cX2_isTooNear 1 = .ok (.aload_n 2, 1) := by decide +kernel
theorem dX2_isTooNear_2 : decode cX2_isTooNear 2 = .ok (.invokevirtual 189, 3) := by decide +kernel
theorem dX2_isTooNear_5 : decode cX2_isTooNear 5 = .ok (.aload_n 1, 1) := by decide +kernel
theorem dX2_isTooNear_6 : decode cX2_isTooNear 6 = .ok (.getfield 237, 3) := by decide +kernel
theorem dX2_isTooNear_9 : decode cX2_isTooNear 9 = .ok (.aload_n 2, 1) := by decide +kernel
theorem dX2_isTooNear_10 : decode cX2_isTooNear 10 = .ok (.getfield 237, 3) := by decide +kernel
theorem dX2_isTooNear_13 : decode cX2_isTooNear 13 = .ok (.iadd, 1) := by decide +kernel
theorem dX2_isTooNear_14 : decode cX2_isTooNear 14 = .ok (.aload_n 0, 1) := by decide +kernel
theorem dX2_isTooNear_15 : decode cX2_isTooNear 15 = .ok (.getfield 44, 3) := by decide +kernel
theorem dX2_isTooNear_18 : decode cX2_isTooNear 18 = .ok (.iadd, 1) := by decide +kernel
theorem dX2_isTooNear_19 : decode cX2_isTooNear 19 = .ok (.if_icmp .ge 7, 3) := by decide +kernel
theorem dX2_isTooNear_22 : decode cX2_isTooNear 22 = .ok (.iconst 1, 1) := by decide +kernel
theorem dX2_isTooNear_23 : decode cX2_isTooNear 23 = .ok (.goto 4, 3) := by decide +kernel
theorem dX2_isTooNear_26 : decode cX2_isTooNear 26 = .ok (.iconst 0, 1) := by decide +kernel
theorem dX2_isTooNear_27 : decode cX2_isTooNear 27 = .ok (.ireturn, 1) := by decide +kernel
set_option maxRecDepth 20000 in
theorem ggX2_nearestAhead_X1_nearestLit : GoodIn wsX2_nearestAhead wsX1_nearestLit := goodIn_r _ [10, 11, 12, 13, 14, 15, 16, 17, 18, 19, 20, 21, 22, 23, 24, 25, 26, 27, 28, 29, 30, 4, 31, 2, 3, 5, 44, 45, 46, 47, 48, 49, 50, 51, 52, 53, 54, 55, 56, 57] (by decide +kernel) (by decide +kernel)
set_option maxRecDepth 20000 in
theorem gX2_nearestAhead_X1_nearestLit : GoodIn wsX2_nearestAhead (wsV RX2 174 RX1 yX1_nearestLit wsX1_nearestLit) := goodIn_app (goodIn_of _ (by decide +kernel)) ggX2_nearestAhead_X1_nearestLit
theorem dX2_nearestAhead_0 : decode cX2_nearestAhead 0 = .ok (.iconst (-1), 1) := by decide +kernel
theorem dX2_nearestAhead_1 : decode cX2_nearestAhead 1 = .ok (.istore_n 3, 1) := by decide +kernel
theorem dX2_nearestAhead_2 : decode cX2_nearestAhead 2 = .ok (.iload_n 2, 1) := by decide +kernel
theorem dX2_nearestAhead_3 : decode cX2_nearestAhead 3 = .ok (.aload_n 0, 1) := by decide +kernel
theorem dX2_nearestAhead_4 : decode cX2_nearestAhead 4 = .ok (.getfield 21, 3) := by decide +kernel
theorem dX2_nearestAhead_7 : decode cX2_nearestAhead 7 = .ok (.arraylength, 1) := by decide +kernel
theorem dX2_nearestAhead_8 : decode cX2_nearestAhead 8 = .ok (.invokestatic 240, 3) := by decide +kernel
theorem dX2_nearestAhead_11 : decode cX2_nearestAhead 11 = .ok (.iconst 1, 1) := by decide +kernel
theorem dX2_nearestAhead_12 : decode cX2_nearestAhead 12 = .ok (.isub, 1) := by decide +kernel
theorem dX2_nearestAhead_13 : decode cX2_nearestAhead 13 = .ok (.istore 4, 2) := by decide +kernel
theorem dX2_nearestAhead_15 : decode cX2_nearestAhead 15 = .ok (.iload 4, 2) := by decide +kernel
theorem dX2_nearestAhead_17 : decode cX2_nearestAhead 17 = .ok (.ifCond .lt 35, 3) := by decide +kernel
theorem dX2_nearestAhead_20 : decode cX2_nearestAhead 20 = .ok (.iload_n 3, 1) := by decide +kernel
theorem dX2_nearestAhead_21 : decode cX2_nearestAhead 21 = .ok (.iconst (-1), 1) := by decide +kernel
theorem dX2_nearestAhead_22 : decode cX2_nearestAhead 22 = .ok (.if_icmp .ne 30, 3) := by decide +kernel
theorem dX2_nearestAhead_25 : decode cX2_nearestAhead 25 = .ok (.aload_n 0, 1) := by decide +kernel
theorem dX2_nearestAhead_26 : decode cX2_nearestAhead 26 = .ok (.getfield 21, 3) := by decide +kernel
theorem dX2_nearestAhead_29 : decode cX2_nearestAhead 29 = .ok (.iload 4, 2) := by decide +kernel
theorem dX2_nearestAhead_31 : decode cX2_nearestAhead 31 = .ok (.aaload, 1) := by decide +kernel
theorem dX2_nearestAhead_32 : decode cX2_nearestAhead 32 = .ok (.astore 5, 2) := by decide +kernel
